section
-- ===== PART A: goes FIRST, ahead of the names: the tables' words, and 'selects' of the private methods out of them =====
/-- a private method of a class that the tables say can be made, by its rows of tables_1 -/
def lw_okq (q : MethodName × Nat) : Prop := (q.1.cls ≠ "java/lang/invoke/MethodHandle" ∧ q.1.cls ≠ "java/lang/invoke/VarHandle") ∧ Cond.instantiable q.1.cls q.2 ∈ tables_1 ∧ Cond.privateMethod q.1 ∈ tables_1 ∧ Cond.instanceMethod q.1 ∈ tables_1
theorem lw_p0 : lw_okq (⟨"GraphWalker", "refuseTermBeyondMost", "()V"⟩, 1) := ⟨⟨by decide +kernel, by decide +kernel⟩, List.mem_of_getElem? (i := 17) (by decide +kernel), List.mem_of_getElem? (i := 276) (by decide +kernel), List.mem_of_getElem? (i := 277) (by decide +kernel)⟩
theorem lw_p1 : lw_okq (⟨"java/lang/Throwable", "fillInStackTrace", "(I)Ljava/lang/Throwable;"⟩, 6) := ⟨⟨by decide +kernel, by decide +kernel⟩, List.mem_of_getElem? (i := 322) (by decide +kernel), List.mem_of_getElem? (i := 320) (by decide +kernel), List.mem_of_getElem? (i := 321) (by decide +kernel)⟩
theorem lw_p2 : lw_okq (⟨"GraphWalker$Terms", "add", "(IIIIJI)I"⟩, 7) := ⟨⟨by decide +kernel, by decide +kernel⟩, List.mem_of_getElem? (i := 31) (by decide +kernel), List.mem_of_getElem? (i := 356) (by decide +kernel), List.mem_of_getElem? (i := 357) (by decide +kernel)⟩
theorem lw_p3 : lw_okq (⟨"GraphWalker", "refuseMissingTerm", "(I)V"⟩, 1) := ⟨⟨by decide +kernel, by decide +kernel⟩, List.mem_of_getElem? (i := 17) (by decide +kernel), List.mem_of_getElem? (i := 396) (by decide +kernel), List.mem_of_getElem? (i := 397) (by decide +kernel)⟩
theorem lw_p4 : lw_okq (⟨"GraphWalker$Walk", "takeTerm", "(II)V"⟩, 17) := ⟨⟨by decide +kernel, by decide +kernel⟩, List.mem_of_getElem? (i := 25) (by decide +kernel), List.mem_of_getElem? (i := 499) (by decide +kernel), List.mem_of_getElem? (i := 500) (by decide +kernel)⟩
theorem lw_p5 : lw_okq (⟨"GraphWalker", "refuseMissingRun", "()V"⟩, 1) := ⟨⟨by decide +kernel, by decide +kernel⟩, List.mem_of_getElem? (i := 17) (by decide +kernel), List.mem_of_getElem? (i := 510) (by decide +kernel), List.mem_of_getElem? (i := 511) (by decide +kernel)⟩
theorem lw_p6 : lw_okq (⟨"GraphWalker$Walk", "reachFromHand", "()V"⟩, 17) := ⟨⟨by decide +kernel, by decide +kernel⟩, List.mem_of_getElem? (i := 25) (by decide +kernel), List.mem_of_getElem? (i := 528) (by decide +kernel), List.mem_of_getElem? (i := 529) (by decide +kernel)⟩
theorem lw_p7 : lw_okq (⟨"GraphWalker$Walk", "reachPlaces", "(I)V"⟩, 17) := ⟨⟨by decide +kernel, by decide +kernel⟩, List.mem_of_getElem? (i := 25) (by decide +kernel), List.mem_of_getElem? (i := 532) (by decide +kernel), List.mem_of_getElem? (i := 533) (by decide +kernel)⟩
theorem lw_p8 : lw_okq (⟨"GraphWalker$Walk", "reachOfValue", "(III)V"⟩, 17) := ⟨⟨by decide +kernel, by decide +kernel⟩, List.mem_of_getElem? (i := 25) (by decide +kernel), List.mem_of_getElem? (i := 556) (by decide +kernel), List.mem_of_getElem? (i := 557) (by decide +kernel)⟩
theorem lw_p9 : lw_okq (⟨"GraphWalker$Walk", "reachFromRow", "()V"⟩, 17) := ⟨⟨by decide +kernel, by decide +kernel⟩, List.mem_of_getElem? (i := 25) (by decide +kernel), List.mem_of_getElem? (i := 560) (by decide +kernel), List.mem_of_getElem? (i := 561) (by decide +kernel)⟩
theorem lw_p10 : lw_okq (⟨"GraphWalker$Walk", "reachFromThing", "(I)V"⟩, 17) := ⟨⟨by decide +kernel, by decide +kernel⟩, List.mem_of_getElem? (i := 25) (by decide +kernel), List.mem_of_getElem? (i := 584) (by decide +kernel), List.mem_of_getElem? (i := 585) (by decide +kernel)⟩
theorem lw_p11 : lw_okq (⟨"GraphWalker$Walk", "stepWithTerm", "()V"⟩, 17) := ⟨⟨by decide +kernel, by decide +kernel⟩, List.mem_of_getElem? (i := 25) (by decide +kernel), List.mem_of_getElem? (i := 616) (by decide +kernel), List.mem_of_getElem? (i := 617) (by decide +kernel)⟩
theorem lw_p12 : lw_okq (⟨"GraphWalker$Walk", "need", "(IZ)V"⟩, 17) := ⟨⟨by decide +kernel, by decide +kernel⟩, List.mem_of_getElem? (i := 25) (by decide +kernel), List.mem_of_getElem? (i := 640) (by decide +kernel), List.mem_of_getElem? (i := 641) (by decide +kernel)⟩
theorem lw_p13 : lw_okq (⟨"GraphWalker$Walk", "needWaiting", "(IZ)V"⟩, 17) := ⟨⟨by decide +kernel, by decide +kernel⟩, List.mem_of_getElem? (i := 25) (by decide +kernel), List.mem_of_getElem? (i := 653) (by decide +kernel), List.mem_of_getElem? (i := 654) (by decide +kernel)⟩
theorem lw_p14 : lw_okq (⟨"GraphWalker$Walk", "makePair", "(II)V"⟩, 17) := ⟨⟨by decide +kernel, by decide +kernel⟩, List.mem_of_getElem? (i := 25) (by decide +kernel), List.mem_of_getElem? (i := 685) (by decide +kernel), List.mem_of_getElem? (i := 686) (by decide +kernel)⟩
theorem lw_p15 : lw_okq (⟨"GraphWalker$Walk", "newThingsFor", "(I)I"⟩, 17) := ⟨⟨by decide +kernel, by decide +kernel⟩, List.mem_of_getElem? (i := 25) (by decide +kernel), List.mem_of_getElem? (i := 689) (by decide +kernel), List.mem_of_getElem? (i := 690) (by decide +kernel)⟩
def lw_privs_1 : List (MethodName × Nat) := [(⟨"GraphWalker", "refuseTermBeyondMost", "()V"⟩, 1), (⟨"java/lang/Throwable", "fillInStackTrace", "(I)Ljava/lang/Throwable;"⟩, 6), (⟨"GraphWalker$Terms", "add", "(IIIIJI)I"⟩, 7), (⟨"GraphWalker", "refuseMissingTerm", "(I)V"⟩, 1), (⟨"GraphWalker$Walk", "takeTerm", "(II)V"⟩, 17), (⟨"GraphWalker", "refuseMissingRun", "()V"⟩, 1), (⟨"GraphWalker$Walk", "reachFromHand", "()V"⟩, 17), (⟨"GraphWalker$Walk", "reachPlaces", "(I)V"⟩, 17), (⟨"GraphWalker$Walk", "reachOfValue", "(III)V"⟩, 17), (⟨"GraphWalker$Walk", "reachFromRow", "()V"⟩, 17), (⟨"GraphWalker$Walk", "reachFromThing", "(I)V"⟩, 17), (⟨"GraphWalker$Walk", "stepWithTerm", "()V"⟩, 17), (⟨"GraphWalker$Walk", "need", "(IZ)V"⟩, 17), (⟨"GraphWalker$Walk", "needWaiting", "(IZ)V"⟩, 17), (⟨"GraphWalker$Walk", "makePair", "(II)V"⟩, 17), (⟨"GraphWalker$Walk", "newThingsFor", "(I)I"⟩, 17)]
theorem lw_r1 : ∀ q ∈ lw_privs_1, lw_okq q := List.forall_mem_cons.mpr ⟨lw_p0, List.forall_mem_cons.mpr ⟨lw_p1, List.forall_mem_cons.mpr ⟨lw_p2, List.forall_mem_cons.mpr ⟨lw_p3, List.forall_mem_cons.mpr ⟨lw_p4, List.forall_mem_cons.mpr ⟨lw_p5, List.forall_mem_cons.mpr ⟨lw_p6, List.forall_mem_cons.mpr ⟨lw_p7, List.forall_mem_cons.mpr ⟨lw_p8, List.forall_mem_cons.mpr ⟨lw_p9, List.forall_mem_cons.mpr ⟨lw_p10, List.forall_mem_cons.mpr ⟨lw_p11, List.forall_mem_cons.mpr ⟨lw_p12, List.forall_mem_cons.mpr ⟨lw_p13, List.forall_mem_cons.mpr ⟨lw_p14, List.forall_mem_cons.mpr ⟨lw_p15, fun _ h => absurd h List.not_mem_nil⟩⟩⟩⟩⟩⟩⟩⟩⟩⟩⟩⟩⟩⟩⟩⟩
theorem lw_p16 : lw_okq (⟨"GraphWalker$Walk", "thingFor", "(I)I"⟩, 17) := ⟨⟨by decide +kernel, by decide +kernel⟩, List.mem_of_getElem? (i := 25) (by decide +kernel), List.mem_of_getElem? (i := 697) (by decide +kernel), List.mem_of_getElem? (i := 698) (by decide +kernel)⟩
theorem lw_p17 : lw_okq (⟨"GraphWalker$Walk", "enterApply", "(I)V"⟩, 17) := ⟨⟨by decide +kernel, by decide +kernel⟩, List.mem_of_getElem? (i := 25) (by decide +kernel), List.mem_of_getElem? (i := 709) (by decide +kernel), List.mem_of_getElem? (i := 710) (by decide +kernel)⟩
theorem lw_p18 : lw_okq (⟨"GraphWalker$Walk", "enterLet", "(II)V"⟩, 17) := ⟨⟨by decide +kernel, by decide +kernel⟩, List.mem_of_getElem? (i := 25) (by decide +kernel), List.mem_of_getElem? (i := 713) (by decide +kernel), List.mem_of_getElem? (i := 714) (by decide +kernel)⟩
theorem lw_p19 : lw_okq (⟨"GraphWalker$Walk", "enter", "(I)V"⟩, 17) := ⟨⟨by decide +kernel, by decide +kernel⟩, List.mem_of_getElem? (i := 25) (by decide +kernel), List.mem_of_getElem? (i := 725) (by decide +kernel), List.mem_of_getElem? (i := 726) (by decide +kernel)⟩
theorem lw_p20 : lw_okq (⟨"GraphWalker$Walk", "stepWithValue", "()V"⟩, 17) := ⟨⟨by decide +kernel, by decide +kernel⟩, List.mem_of_getElem? (i := 25) (by decide +kernel), List.mem_of_getElem? (i := 729) (by decide +kernel), List.mem_of_getElem? (i := 730) (by decide +kernel)⟩
theorem lw_p21 : lw_okq (⟨"GraphWalker$Walk", "giveThing", "(I)V"⟩, 17) := ⟨⟨by decide +kernel, by decide +kernel⟩, List.mem_of_getElem? (i := 25) (by decide +kernel), List.mem_of_getElem? (i := 741) (by decide +kernel), List.mem_of_getElem? (i := 742) (by decide +kernel)⟩
theorem lw_p22 : lw_okq (⟨"GraphWalker$Walk", "thenSecond", "(II)V"⟩, 17) := ⟨⟨by decide +kernel, by decide +kernel⟩, List.mem_of_getElem? (i := 25) (by decide +kernel), List.mem_of_getElem? (i := 745) (by decide +kernel), List.mem_of_getElem? (i := 746) (by decide +kernel)⟩
theorem lw_p23 : lw_okq (⟨"GraphWalker$Walk", "actWith", "(IJ)V"⟩, 17) := ⟨⟨by decide +kernel, by decide +kernel⟩, List.mem_of_getElem? (i := 25) (by decide +kernel), List.mem_of_getElem? (i := 757) (by decide +kernel), List.mem_of_getElem? (i := 758) (by decide +kernel)⟩
theorem lw_p24 : lw_okq (⟨"GraphWalker$Walk", "chooseBranch", "(II)V"⟩, 17) := ⟨⟨by decide +kernel, by decide +kernel⟩, List.mem_of_getElem? (i := 25) (by decide +kernel), List.mem_of_getElem? (i := 764) (by decide +kernel), List.mem_of_getElem? (i := 765) (by decide +kernel)⟩
theorem lw_p25 : lw_okq (⟨"GraphWalker$Walk", "takeOfPair", "(I)V"⟩, 17) := ⟨⟨by decide +kernel, by decide +kernel⟩, List.mem_of_getElem? (i := 25) (by decide +kernel), List.mem_of_getElem? (i := 768) (by decide +kernel), List.mem_of_getElem? (i := 769) (by decide +kernel)⟩
theorem lw_p26 : lw_okq (⟨"GraphWalker", "refuseMissingThing", "(I)V"⟩, 1) := ⟨⟨by decide +kernel, by decide +kernel⟩, List.mem_of_getElem? (i := 17) (by decide +kernel), List.mem_of_getElem? (i := 804) (by decide +kernel), List.mem_of_getElem? (i := 805) (by decide +kernel)⟩
theorem lw_p27 : lw_okq (⟨"GraphWalkerModel", "thrownBy", "(I)I"⟩, 48) := ⟨⟨by decide +kernel, by decide +kernel⟩, List.mem_of_getElem? (i := 866) (by decide +kernel), List.mem_of_getElem? (i := 1026) (by decide +kernel), List.mem_of_getElem? (i := 1027) (by decide +kernel)⟩
theorem lw_p28 : lw_okq (⟨"GraphWalkerModel", "term", "(IIII)I"⟩, 48) := ⟨⟨by decide +kernel, by decide +kernel⟩, List.mem_of_getElem? (i := 866) (by decide +kernel), List.mem_of_getElem? (i := 1030) (by decide +kernel), List.mem_of_getElem? (i := 1031) (by decide +kernel)⟩
theorem lw_p29 : lw_okq (⟨"GraphWalkerModel", "isTerm", "(I)Z"⟩, 48) := ⟨⟨by decide +kernel, by decide +kernel⟩, List.mem_of_getElem? (i := 866) (by decide +kernel), List.mem_of_getElem? (i := 1042) (by decide +kernel), List.mem_of_getElem? (i := 1043) (by decide +kernel)⟩
theorem lw_p30 : lw_okq (⟨"GraphWalkerModel", "atHand", "(II)V"⟩, 48) := ⟨⟨by decide +kernel, by decide +kernel⟩, List.mem_of_getElem? (i := 866) (by decide +kernel), List.mem_of_getElem? (i := 1068) (by decide +kernel), List.mem_of_getElem? (i := 1069) (by decide +kernel)⟩
theorem lw_p31 : lw_okq (⟨"GraphWalkerModel", "sweep", "()I"⟩, 48) := ⟨⟨by decide +kernel, by decide +kernel⟩, List.mem_of_getElem? (i := 866) (by decide +kernel), List.mem_of_getElem? (i := 1076) (by decide +kernel), List.mem_of_getElem? (i := 1077) (by decide +kernel)⟩
def lw_privs_2 : List (MethodName × Nat) := [(⟨"GraphWalker$Walk", "thingFor", "(I)I"⟩, 17), (⟨"GraphWalker$Walk", "enterApply", "(I)V"⟩, 17), (⟨"GraphWalker$Walk", "enterLet", "(II)V"⟩, 17), (⟨"GraphWalker$Walk", "enter", "(I)V"⟩, 17), (⟨"GraphWalker$Walk", "stepWithValue", "()V"⟩, 17), (⟨"GraphWalker$Walk", "giveThing", "(I)V"⟩, 17), (⟨"GraphWalker$Walk", "thenSecond", "(II)V"⟩, 17), (⟨"GraphWalker$Walk", "actWith", "(IJ)V"⟩, 17), (⟨"GraphWalker$Walk", "chooseBranch", "(II)V"⟩, 17), (⟨"GraphWalker$Walk", "takeOfPair", "(I)V"⟩, 17), (⟨"GraphWalker", "refuseMissingThing", "(I)V"⟩, 1), (⟨"GraphWalkerModel", "thrownBy", "(I)I"⟩, 48), (⟨"GraphWalkerModel", "term", "(IIII)I"⟩, 48), (⟨"GraphWalkerModel", "isTerm", "(I)Z"⟩, 48), (⟨"GraphWalkerModel", "atHand", "(II)V"⟩, 48), (⟨"GraphWalkerModel", "sweep", "()I"⟩, 48)]
theorem lw_r2 : ∀ q ∈ lw_privs_2, lw_okq q := List.forall_mem_cons.mpr ⟨lw_p16, List.forall_mem_cons.mpr ⟨lw_p17, List.forall_mem_cons.mpr ⟨lw_p18, List.forall_mem_cons.mpr ⟨lw_p19, List.forall_mem_cons.mpr ⟨lw_p20, List.forall_mem_cons.mpr ⟨lw_p21, List.forall_mem_cons.mpr ⟨lw_p22, List.forall_mem_cons.mpr ⟨lw_p23, List.forall_mem_cons.mpr ⟨lw_p24, List.forall_mem_cons.mpr ⟨lw_p25, List.forall_mem_cons.mpr ⟨lw_p26, List.forall_mem_cons.mpr ⟨lw_p27, List.forall_mem_cons.mpr ⟨lw_p28, List.forall_mem_cons.mpr ⟨lw_p29, List.forall_mem_cons.mpr ⟨lw_p30, List.forall_mem_cons.mpr ⟨lw_p31, fun _ h => absurd h List.not_mem_nil⟩⟩⟩⟩⟩⟩⟩⟩⟩⟩⟩⟩⟩⟩⟩⟩
theorem lw_p32 : lw_okq (⟨"GraphWalkerModel", "reachHand", "()V"⟩, 48) := ⟨⟨by decide +kernel, by decide +kernel⟩, List.mem_of_getElem? (i := 866) (by decide +kernel), List.mem_of_getElem? (i := 1080) (by decide +kernel), List.mem_of_getElem? (i := 1081) (by decide +kernel)⟩
theorem lw_p33 : lw_okq (⟨"GraphWalkerModel", "reachPlaces", "(I)V"⟩, 48) := ⟨⟨by decide +kernel, by decide +kernel⟩, List.mem_of_getElem? (i := 866) (by decide +kernel), List.mem_of_getElem? (i := 1084) (by decide +kernel), List.mem_of_getElem? (i := 1085) (by decide +kernel)⟩
theorem lw_p34 : lw_okq (⟨"GraphWalkerModel", "reach", "(I)V"⟩, 48) := ⟨⟨by decide +kernel, by decide +kernel⟩, List.mem_of_getElem? (i := 866) (by decide +kernel), List.mem_of_getElem? (i := 1088) (by decide +kernel), List.mem_of_getElem? (i := 1089) (by decide +kernel)⟩
theorem lw_p35 : lw_okq (⟨"GraphWalkerModel", "reachValue", "(III)V"⟩, 48) := ⟨⟨by decide +kernel, by decide +kernel⟩, List.mem_of_getElem? (i := 866) (by decide +kernel), List.mem_of_getElem? (i := 1092) (by decide +kernel), List.mem_of_getElem? (i := 1093) (by decide +kernel)⟩
theorem lw_p36 : lw_okq (⟨"GraphWalkerModel", "step", "()V"⟩, 48) := ⟨⟨by decide +kernel, by decide +kernel⟩, List.mem_of_getElem? (i := 866) (by decide +kernel), List.mem_of_getElem? (i := 1096) (by decide +kernel), List.mem_of_getElem? (i := 1097) (by decide +kernel)⟩
theorem lw_p37 : lw_okq (⟨"GraphWalkerModel", "need", "(IZ)V"⟩, 48) := ⟨⟨by decide +kernel, by decide +kernel⟩, List.mem_of_getElem? (i := 866) (by decide +kernel), List.mem_of_getElem? (i := 1100) (by decide +kernel), List.mem_of_getElem? (i := 1101) (by decide +kernel)⟩
theorem lw_p38 : lw_okq (⟨"GraphWalkerModel", "valueAtHand", "(IJII)V"⟩, 48) := ⟨⟨by decide +kernel, by decide +kernel⟩, List.mem_of_getElem? (i := 866) (by decide +kernel), List.mem_of_getElem? (i := 1104) (by decide +kernel), List.mem_of_getElem? (i := 1105) (by decide +kernel)⟩
theorem lw_p39 : lw_okq (⟨"GraphWalkerModel", "latestInWork", "()I"⟩, 48) := ⟨⟨by decide +kernel, by decide +kernel⟩, List.mem_of_getElem? (i := 866) (by decide +kernel), List.mem_of_getElem? (i := 1108) (by decide +kernel), List.mem_of_getElem? (i := 1109) (by decide +kernel)⟩
theorem lw_p40 : lw_okq (⟨"GraphWalkerModel", "push", "(IIIJ)V"⟩, 48) := ⟨⟨by decide +kernel, by decide +kernel⟩, List.mem_of_getElem? (i := 866) (by decide +kernel), List.mem_of_getElem? (i := 1112) (by decide +kernel), List.mem_of_getElem? (i := 1113) (by decide +kernel)⟩
theorem lw_p41 : lw_okq (⟨"GraphWalkerModel", "goOnWithTerm", "()V"⟩, 48) := ⟨⟨by decide +kernel, by decide +kernel⟩, List.mem_of_getElem? (i := 866) (by decide +kernel), List.mem_of_getElem? (i := 1116) (by decide +kernel), List.mem_of_getElem? (i := 1117) (by decide +kernel)⟩
theorem lw_p42 : lw_okq (⟨"GraphWalkerModel", "thingOfPlace", "(II)I"⟩, 48) := ⟨⟨by decide +kernel, by decide +kernel⟩, List.mem_of_getElem? (i := 866) (by decide +kernel), List.mem_of_getElem? (i := 1120) (by decide +kernel), List.mem_of_getElem? (i := 1121) (by decide +kernel)⟩
theorem lw_p43 : lw_okq (⟨"GraphWalkerModel", "isNew", "(I)Z"⟩, 48) := ⟨⟨by decide +kernel, by decide +kernel⟩, List.mem_of_getElem? (i := 866) (by decide +kernel), List.mem_of_getElem? (i := 1124) (by decide +kernel), List.mem_of_getElem? (i := 1125) (by decide +kernel)⟩
theorem lw_p44 : lw_okq (⟨"GraphWalkerModel", "hasRoom", "(III)Z"⟩, 48) := ⟨⟨by decide +kernel, by decide +kernel⟩, List.mem_of_getElem? (i := 866) (by decide +kernel), List.mem_of_getElem? (i := 1128) (by decide +kernel), List.mem_of_getElem? (i := 1129) (by decide +kernel)⟩
theorem lw_p45 : lw_okq (⟨"GraphWalkerModel", "thingOf", "(I)I"⟩, 48) := ⟨⟨by decide +kernel, by decide +kernel⟩, List.mem_of_getElem? (i := 866) (by decide +kernel), List.mem_of_getElem? (i := 1132) (by decide +kernel), List.mem_of_getElem? (i := 1133) (by decide +kernel)⟩
theorem lw_p46 : lw_okq (⟨"GraphWalkerModel", "newThing", "(II)I"⟩, 48) := ⟨⟨by decide +kernel, by decide +kernel⟩, List.mem_of_getElem? (i := 866) (by decide +kernel), List.mem_of_getElem? (i := 1136) (by decide +kernel), List.mem_of_getElem? (i := 1137) (by decide +kernel)⟩
theorem lw_p47 : lw_okq (⟨"GraphWalkerModel", "newPlace", "(II)I"⟩, 48) := ⟨⟨by decide +kernel, by decide +kernel⟩, List.mem_of_getElem? (i := 866) (by decide +kernel), List.mem_of_getElem? (i := 1140) (by decide +kernel), List.mem_of_getElem? (i := 1141) (by decide +kernel)⟩
def lw_privs_3 : List (MethodName × Nat) := [(⟨"GraphWalkerModel", "reachHand", "()V"⟩, 48), (⟨"GraphWalkerModel", "reachPlaces", "(I)V"⟩, 48), (⟨"GraphWalkerModel", "reach", "(I)V"⟩, 48), (⟨"GraphWalkerModel", "reachValue", "(III)V"⟩, 48), (⟨"GraphWalkerModel", "step", "()V"⟩, 48), (⟨"GraphWalkerModel", "need", "(IZ)V"⟩, 48), (⟨"GraphWalkerModel", "valueAtHand", "(IJII)V"⟩, 48), (⟨"GraphWalkerModel", "latestInWork", "()I"⟩, 48), (⟨"GraphWalkerModel", "push", "(IIIJ)V"⟩, 48), (⟨"GraphWalkerModel", "goOnWithTerm", "()V"⟩, 48), (⟨"GraphWalkerModel", "thingOfPlace", "(II)I"⟩, 48), (⟨"GraphWalkerModel", "isNew", "(I)Z"⟩, 48), (⟨"GraphWalkerModel", "hasRoom", "(III)Z"⟩, 48), (⟨"GraphWalkerModel", "thingOf", "(I)I"⟩, 48), (⟨"GraphWalkerModel", "newThing", "(II)I"⟩, 48), (⟨"GraphWalkerModel", "newPlace", "(II)I"⟩, 48)]
theorem lw_r3 : ∀ q ∈ lw_privs_3, lw_okq q := List.forall_mem_cons.mpr ⟨lw_p32, List.forall_mem_cons.mpr ⟨lw_p33, List.forall_mem_cons.mpr ⟨lw_p34, List.forall_mem_cons.mpr ⟨lw_p35, List.forall_mem_cons.mpr ⟨lw_p36, List.forall_mem_cons.mpr ⟨lw_p37, List.forall_mem_cons.mpr ⟨lw_p38, List.forall_mem_cons.mpr ⟨lw_p39, List.forall_mem_cons.mpr ⟨lw_p40, List.forall_mem_cons.mpr ⟨lw_p41, List.forall_mem_cons.mpr ⟨lw_p42, List.forall_mem_cons.mpr ⟨lw_p43, List.forall_mem_cons.mpr ⟨lw_p44, List.forall_mem_cons.mpr ⟨lw_p45, List.forall_mem_cons.mpr ⟨lw_p46, List.forall_mem_cons.mpr ⟨lw_p47, fun _ h => absurd h List.not_mem_nil⟩⟩⟩⟩⟩⟩⟩⟩⟩⟩⟩⟩⟩⟩⟩⟩
theorem lw_p48 : lw_okq (⟨"GraphWalkerModel", "goOnWithValue", "()V"⟩, 48) := ⟨⟨by decide +kernel, by decide +kernel⟩, List.mem_of_getElem? (i := 866) (by decide +kernel), List.mem_of_getElem? (i := 1144) (by decide +kernel), List.mem_of_getElem? (i := 1145) (by decide +kernel)⟩
theorem lw_p49 : lw_okq (⟨"GraphWalkerModel", "act", "(IJJ)V"⟩, 48) := ⟨⟨by decide +kernel, by decide +kernel⟩, List.mem_of_getElem? (i := 866) (by decide +kernel), List.mem_of_getElem? (i := 1148) (by decide +kernel), List.mem_of_getElem? (i := 1149) (by decide +kernel)⟩
theorem lw_p50 : lw_okq (⟨"GraphWalkerModel", "isThing", "(I)Z"⟩, 48) := ⟨⟨by decide +kernel, by decide +kernel⟩, List.mem_of_getElem? (i := 866) (by decide +kernel), List.mem_of_getElem? (i := 1176) (by decide +kernel), List.mem_of_getElem? (i := 1177) (by decide +kernel)⟩
def lw_privs_4 : List (MethodName × Nat) := [(⟨"GraphWalkerModel", "goOnWithValue", "()V"⟩, 48), (⟨"GraphWalkerModel", "act", "(IJJ)V"⟩, 48), (⟨"GraphWalkerModel", "isThing", "(I)Z"⟩, 48)]
theorem lw_r4 : ∀ q ∈ lw_privs_4, lw_okq q := List.forall_mem_cons.mpr ⟨lw_p48, List.forall_mem_cons.mpr ⟨lw_p49, List.forall_mem_cons.mpr ⟨lw_p50, fun _ h => absurd h List.not_mem_nil⟩⟩⟩
def lw_privs : List (MethodName × Nat) := lw_privs_1 ++ (lw_privs_2 ++ (lw_privs_3 ++ (lw_privs_4)))
def lw_tbl : List Cond := k2_sels lw_privs ++ tables_1
theorem lw_privs_ok : ∀ q ∈ lw_privs, lw_okq q := by
  show ∀ q ∈ lw_privs_1 ++ (lw_privs_2 ++ (lw_privs_3 ++ (lw_privs_4))), lw_okq q
  exact List.forall_mem_append.mpr ⟨lw_r1, List.forall_mem_append.mpr ⟨lw_r2, List.forall_mem_append.mpr ⟨lw_r3, lw_r4⟩⟩⟩
end
section
/-! CORE: a walk whose heap is hidden behind the world ws; one row an instruction -/
def gw_isNest : Cond → Bool
  | .fieldLinkNest .. => true
  | .methodLinkNest .. => true
  | _ => false
def gw_T : List Cond := lw_tbl.filter goodWord
def gw_all : List Cond := lw_tbl.filter (fun w => goodWord w || gw_isNest w)
theorem gw_T_all {w : Cond} (h : w ∈ gw_T) : w ∈ gw_all := List.mem_filter.mpr ⟨(List.mem_filter.mp h).1, by rw [(List.mem_filter.mp h).2]; rfl⟩
theorem gw_T_good : ∀ w ∈ gw_T, (w.onTables && w.keeps) = true ∨ ∃ ty, w = .arrayClass ty := fun w h => good_of_word (List.mem_filter.mp h).2
/-- the words on private members of nest mates, at a state -/
def gw_E (U : State) : Prop := ∀ w ∈ gw_all, gw_isNest w = true → va_Nw w U
theorem gw_nest_on {w : Cond} (h : gw_isNest w = true) : w.onTables = true := by cases w <;> first | rfl | (simp [gw_isNest] at h)
theorem gw_E_warm {s U : State} (hW : s.WarmedH U.vm) (h : gw_E s) : gw_E U := by
  intro w hw hn
  have h1 := h w hw hn
  cases w <;> first | (simp [gw_isNest] at hn; done) | exact va_Nw.warmF hW h1 | exact va_Nw.warmM hW h1
theorem gw_E_of {args : Array Value} {s : State} (h : ∀ w ∈ gw_all, w.before args s = true) : gw_E s := fun w hw hn => va_Nw.of (gw_nest_on hn) (h w hw)
theorem gw_all_of {args : Array Value} {s : State} (h : ∀ w ∈ gw_T, w.before args s = true) (hE : gw_E s) : ∀ w ∈ gw_all, w.before args s = true := by
  intro w hw
  cases hg : goodWord w with
  | true => exact h w (List.mem_filter.mpr ⟨(List.mem_filter.mp hw).1, hg⟩)
  | false =>
    have h2 := (List.mem_filter.mp hw).2
    rw [hg] at h2
    exact va_Nw.use (gw_nest_on h2) (hE w hw h2)
section GW0
variable {p : Program} {l : Launch} {e : Env} {R : Room} {s : State} {m : MethodId} {args : Array Value} {below : List Frame} {meth : Method} {c : Code} {Q : State → Prop}
variable {cc : ByteArray} {nL : Nat} {own : String} {D : va_G} {cl : List vw_C} {tys : List (ClassId × FieldType)} {A : Nat → Prop} {cells slots : Nat} {ws ws' : va_W} {lv lv' : List (Nat × Value)} {pc : Nat} {st : List Value}
/-- the fixed facts of a walk -/
def gw_C (p : Program) (s : State) (m : MethodId) (args : Array Value) (meth : Method) (c : Code) (cc : ByteArray) (nL : Nat) (own : String) (D : va_G) (cl : List vw_C) (tys : List (ClassId × FieldType)) (A : Nat → Prop) : Prop :=
  p.tables.exec = Jvm.exec ∧ c.code = cc ∧ c.maxLocals = nL ∧ s.vm.findClass own = some m.cls ∧ (∀ w ∈ gw_all, w.before args s = true) ∧ va_K D cl tys s ∧ (∀ q : Nat, s.heap.size ≤ q → A q) ∧ meth.locks = false
/-- the walk at pc: the world ws, the locals lv, the stack st -/
def gw_W (p : Program) (l : Launch) (e : Env) (R : Room) (s : State) (m : MethodId) (args : Array Value) (below : List Frame) (meth : Method) (c : Code) (D : va_G) (cl : List vw_C) (A : Nat → Prop) (Q : State → Prop) (cells slots nL : Nat) (ws : va_W) (lv : List (Nat × Value)) (pc : Nat) (st : List Value) : Prop :=
  ∀ (H : Heap) (locs : List Loc) (ls : Array Slot), va_P D cl ws H → va_D A ws → va_S A s.heap H locs → lv_has ls nL lv → W p l e R s m args below meth c H locs cells slots Q (F0 m pc ls st)
theorem gw_iconst (C : gw_C p s m args meth c cc nL own D cl tys A) {n : Int} {v : Int32} (hdg : decode cc pc = .ok (.iconst n, 1)) (hv : Int32.ofInt n = v) (k : gw_W p l e R s m args below meth c D cl A Q cells slots nL ws lv (pc + 1) (.int v :: st)) : gw_W p l e R s m args below meth c D cl A Q cells slots nL ws lv pc (st) :=
  fun H locs ls hP hD hS hl => lv_iconst C.1 C.2.1 hdg hv (k H locs ls hP hD hS hl)
theorem gw_bipush (C : gw_C p s m args meth c cc nL own D cl tys A) {n : Int} {v : Int32} (hdg : decode cc pc = .ok (.bipush n, 2)) (hv : (Int8.ofInt n).toInt32 = v) (k : gw_W p l e R s m args below meth c D cl A Q cells slots nL ws lv (pc + 2) (.int v :: st)) : gw_W p l e R s m args below meth c D cl A Q cells slots nL ws lv pc (st) :=
  fun H locs ls hP hD hS hl => lv_bipush C.1 C.2.1 hdg hv (k H locs ls hP hD hS hl)
theorem gw_sipush (C : gw_C p s m args meth c cc nL own D cl tys A) {n : Int} {v : Int32} (hdg : decode cc pc = .ok (.sipush n, 3)) (hv : (Int16.ofInt n).toInt32 = v) (k : gw_W p l e R s m args below meth c D cl A Q cells slots nL ws lv (pc + 3) (.int v :: st)) : gw_W p l e R s m args below meth c D cl A Q cells slots nL ws lv pc (st) :=
  fun H locs ls hP hD hS hl => lv_sipush C.1 C.2.1 hdg hv (k H locs ls hP hD hS hl)
theorem gw_lconst (C : gw_C p s m args meth c cc nL own D cl tys A) {n : Fin 2} {v : Int64} (hdg : decode cc pc = .ok (.lconst n, 1)) (hv : Int64.ofNat (n : Nat) = v) (k : gw_W p l e R s m args below meth c D cl A Q cells slots nL ws lv (pc + 1) (.long v :: st)) : gw_W p l e R s m args below meth c D cl A Q cells slots nL ws lv pc (st) :=
  fun H locs ls hP hD hS hl => lv_lconst C.1 C.2.1 hdg hv (k H locs ls hP hD hS hl)
theorem gw_iadd (C : gw_C p s m args meth c cc nL own D cl tys A) {x y : Int32} (hdg : decode cc pc = .ok (.iadd, 1))  (k : gw_W p l e R s m args below meth c D cl A Q cells slots nL ws lv (pc + 1) (.int (x + y) :: st)) : gw_W p l e R s m args below meth c D cl A Q cells slots nL ws lv pc (.int y :: .int x :: st) :=
  fun H locs ls hP hD hS hl => lv_iadd C.1 C.2.1 hdg  (k H locs ls hP hD hS hl)
theorem gw_isub (C : gw_C p s m args meth c cc nL own D cl tys A) {x y : Int32} (hdg : decode cc pc = .ok (.isub, 1))  (k : gw_W p l e R s m args below meth c D cl A Q cells slots nL ws lv (pc + 1) (.int (x - y) :: st)) : gw_W p l e R s m args below meth c D cl A Q cells slots nL ws lv pc (.int y :: .int x :: st) :=
  fun H locs ls hP hD hS hl => lv_isub C.1 C.2.1 hdg  (k H locs ls hP hD hS hl)
theorem gw_imul (C : gw_C p s m args meth c cc nL own D cl tys A) {x y : Int32} (hdg : decode cc pc = .ok (.imul, 1))  (k : gw_W p l e R s m args below meth c D cl A Q cells slots nL ws lv (pc + 1) (.int (x * y) :: st)) : gw_W p l e R s m args below meth c D cl A Q cells slots nL ws lv pc (.int y :: .int x :: st) :=
  fun H locs ls hP hD hS hl => lv_imul C.1 C.2.1 hdg  (k H locs ls hP hD hS hl)
theorem gw_iand (C : gw_C p s m args meth c cc nL own D cl tys A) {x y : Int32} (hdg : decode cc pc = .ok (.iand, 1))  (k : gw_W p l e R s m args below meth c D cl A Q cells slots nL ws lv (pc + 1) (.int (x &&& y) :: st)) : gw_W p l e R s m args below meth c D cl A Q cells slots nL ws lv pc (.int y :: .int x :: st) :=
  fun H locs ls hP hD hS hl => lv_iand C.1 C.2.1 hdg  (k H locs ls hP hD hS hl)
theorem gw_ior (C : gw_C p s m args meth c cc nL own D cl tys A) {x y : Int32} (hdg : decode cc pc = .ok (.ior, 1))  (k : gw_W p l e R s m args below meth c D cl A Q cells slots nL ws lv (pc + 1) (.int (x ||| y) :: st)) : gw_W p l e R s m args below meth c D cl A Q cells slots nL ws lv pc (.int y :: .int x :: st) :=
  fun H locs ls hP hD hS hl => lv_ior C.1 C.2.1 hdg  (k H locs ls hP hD hS hl)
theorem gw_ixor (C : gw_C p s m args meth c cc nL own D cl tys A) {x y : Int32} (hdg : decode cc pc = .ok (.ixor, 1))  (k : gw_W p l e R s m args below meth c D cl A Q cells slots nL ws lv (pc + 1) (.int (x ^^^ y) :: st)) : gw_W p l e R s m args below meth c D cl A Q cells slots nL ws lv pc (.int y :: .int x :: st) :=
  fun H locs ls hP hD hS hl => lv_ixor C.1 C.2.1 hdg  (k H locs ls hP hD hS hl)
theorem gw_ishl (C : gw_C p s m args meth c cc nL own D cl tys A) {x y : Int32} (hdg : decode cc pc = .ok (.ishl, 1))  (k : gw_W p l e R s m args below meth c D cl A Q cells slots nL ws lv (pc + 1) (.int (x <<< (y &&& 31)) :: st)) : gw_W p l e R s m args below meth c D cl A Q cells slots nL ws lv pc (.int y :: .int x :: st) :=
  fun H locs ls hP hD hS hl => lv_ishl C.1 C.2.1 hdg  (k H locs ls hP hD hS hl)
theorem gw_ishr (C : gw_C p s m args meth c cc nL own D cl tys A) {x y : Int32} (hdg : decode cc pc = .ok (.ishr, 1))  (k : gw_W p l e R s m args below meth c D cl A Q cells slots nL ws lv (pc + 1) (.int (x >>> (y &&& 31)) :: st)) : gw_W p l e R s m args below meth c D cl A Q cells slots nL ws lv pc (.int y :: .int x :: st) :=
  fun H locs ls hP hD hS hl => lv_ishr C.1 C.2.1 hdg  (k H locs ls hP hD hS hl)
theorem gw_ladd (C : gw_C p s m args meth c cc nL own D cl tys A) {x y : Int64} (hdg : decode cc pc = .ok (.ladd, 1))  (k : gw_W p l e R s m args below meth c D cl A Q cells slots nL ws lv (pc + 1) (.long (x + y) :: st)) : gw_W p l e R s m args below meth c D cl A Q cells slots nL ws lv pc (.long y :: .long x :: st) :=
  fun H locs ls hP hD hS hl => lv_ladd C.1 C.2.1 hdg  (k H locs ls hP hD hS hl)
theorem gw_lsub (C : gw_C p s m args meth c cc nL own D cl tys A) {x y : Int64} (hdg : decode cc pc = .ok (.lsub, 1))  (k : gw_W p l e R s m args below meth c D cl A Q cells slots nL ws lv (pc + 1) (.long (x - y) :: st)) : gw_W p l e R s m args below meth c D cl A Q cells slots nL ws lv pc (.long y :: .long x :: st) :=
  fun H locs ls hP hD hS hl => lv_lsub C.1 C.2.1 hdg  (k H locs ls hP hD hS hl)
theorem gw_lmul (C : gw_C p s m args meth c cc nL own D cl tys A) {x y : Int64} (hdg : decode cc pc = .ok (.lmul, 1))  (k : gw_W p l e R s m args below meth c D cl A Q cells slots nL ws lv (pc + 1) (.long (x * y) :: st)) : gw_W p l e R s m args below meth c D cl A Q cells slots nL ws lv pc (.long y :: .long x :: st) :=
  fun H locs ls hP hD hS hl => lv_lmul C.1 C.2.1 hdg  (k H locs ls hP hD hS hl)
theorem gw_land (C : gw_C p s m args meth c cc nL own D cl tys A) {x y : Int64} (hdg : decode cc pc = .ok (.land, 1))  (k : gw_W p l e R s m args below meth c D cl A Q cells slots nL ws lv (pc + 1) (.long (x &&& y) :: st)) : gw_W p l e R s m args below meth c D cl A Q cells slots nL ws lv pc (.long y :: .long x :: st) :=
  fun H locs ls hP hD hS hl => lv_land C.1 C.2.1 hdg  (k H locs ls hP hD hS hl)
theorem gw_lor (C : gw_C p s m args meth c cc nL own D cl tys A) {x y : Int64} (hdg : decode cc pc = .ok (.lor, 1))  (k : gw_W p l e R s m args below meth c D cl A Q cells slots nL ws lv (pc + 1) (.long (x ||| y) :: st)) : gw_W p l e R s m args below meth c D cl A Q cells slots nL ws lv pc (.long y :: .long x :: st) :=
  fun H locs ls hP hD hS hl => lv_lor C.1 C.2.1 hdg  (k H locs ls hP hD hS hl)
theorem gw_lxor (C : gw_C p s m args meth c cc nL own D cl tys A) {x y : Int64} (hdg : decode cc pc = .ok (.lxor, 1))  (k : gw_W p l e R s m args below meth c D cl A Q cells slots nL ws lv (pc + 1) (.long (x ^^^ y) :: st)) : gw_W p l e R s m args below meth c D cl A Q cells slots nL ws lv pc (.long y :: .long x :: st) :=
  fun H locs ls hP hD hS hl => lv_lxor C.1 C.2.1 hdg  (k H locs ls hP hD hS hl)
theorem gw_idiv (C : gw_C p s m args meth c cc nL own D cl tys A) {x y : Int32} (hdg : decode cc pc = .ok (.idiv, 1)) (hne : ¬ y = 0) (k : gw_W p l e R s m args below meth c D cl A Q cells slots nL ws lv (pc + 1) (.int (x / y) :: st)) : gw_W p l e R s m args below meth c D cl A Q cells slots nL ws lv pc (.int y :: .int x :: st) :=
  fun H locs ls hP hD hS hl => lv_idiv C.1 C.2.1 hdg hne (k H locs ls hP hD hS hl)
theorem gw_irem (C : gw_C p s m args meth c cc nL own D cl tys A) {x y : Int32} (hdg : decode cc pc = .ok (.irem, 1)) (hne : ¬ y = 0) (k : gw_W p l e R s m args below meth c D cl A Q cells slots nL ws lv (pc + 1) (.int (x - x / y * y) :: st)) : gw_W p l e R s m args below meth c D cl A Q cells slots nL ws lv pc (.int y :: .int x :: st) :=
  fun H locs ls hP hD hS hl => lv_irem C.1 C.2.1 hdg hne (k H locs ls hP hD hS hl)
theorem gw_ldiv (C : gw_C p s m args meth c cc nL own D cl tys A) {x y : Int64} (hdg : decode cc pc = .ok (.ldiv, 1)) (hne : ¬ y = 0) (k : gw_W p l e R s m args below meth c D cl A Q cells slots nL ws lv (pc + 1) (.long (x / y) :: st)) : gw_W p l e R s m args below meth c D cl A Q cells slots nL ws lv pc (.long y :: .long x :: st) :=
  fun H locs ls hP hD hS hl => lv_ldiv C.1 C.2.1 hdg hne (k H locs ls hP hD hS hl)
theorem gw_ineg (C : gw_C p s m args meth c cc nL own D cl tys A) {x : Int32} (hdg : decode cc pc = .ok (.ineg, 1))  (k : gw_W p l e R s m args below meth c D cl A Q cells slots nL ws lv (pc + 1) (.int (-x) :: st)) : gw_W p l e R s m args below meth c D cl A Q cells slots nL ws lv pc (.int x :: st) :=
  fun H locs ls hP hD hS hl => lv_ineg C.1 C.2.1 hdg  (k H locs ls hP hD hS hl)
theorem gw_i2l (C : gw_C p s m args meth c cc nL own D cl tys A) {x : Int32} (hdg : decode cc pc = .ok (.i2l, 1))  (k : gw_W p l e R s m args below meth c D cl A Q cells slots nL ws lv (pc + 1) (.long x.toInt64 :: st)) : gw_W p l e R s m args below meth c D cl A Q cells slots nL ws lv pc (.int x :: st) :=
  fun H locs ls hP hD hS hl => lv_i2l C.1 C.2.1 hdg rfl (k H locs ls hP hD hS hl)
theorem gw_l2i (C : gw_C p s m args meth c cc nL own D cl tys A) {x : Int64} (hdg : decode cc pc = .ok (.l2i, 1))  (k : gw_W p l e R s m args below meth c D cl A Q cells slots nL ws lv (pc + 1) (.int x.toInt32 :: st)) : gw_W p l e R s m args below meth c D cl A Q cells slots nL ws lv pc (.long x :: st) :=
  fun H locs ls hP hD hS hl => lv_l2i C.1 C.2.1 hdg rfl (k H locs ls hP hD hS hl)
theorem gw_lshl (C : gw_C p s m args meth c cc nL own D cl tys A) {x : Int64} {y : Int32} (hdg : decode cc pc = .ok (.lshl, 1))  (k : gw_W p l e R s m args below meth c D cl A Q cells slots nL ws lv (pc + 1) (.long (x <<< (y.toInt64 &&& 63)) :: st)) : gw_W p l e R s m args below meth c D cl A Q cells slots nL ws lv pc (.int y :: .long x :: st) :=
  fun H locs ls hP hD hS hl => lv_lshl C.1 C.2.1 hdg rfl (k H locs ls hP hD hS hl)
theorem gw_pop (C : gw_C p s m args meth c cc nL own D cl tys A) {va : Value} (hdg : decode cc pc = .ok (.pop, 1)) (hva : va.category = 1) (k : gw_W p l e R s m args below meth c D cl A Q cells slots nL ws lv (pc + 1) (st)) : gw_W p l e R s m args below meth c D cl A Q cells slots nL ws lv pc (va :: st) :=
  fun H locs ls hP hD hS hl => lv_pop C.1 C.2.1 hdg hva (k H locs ls hP hD hS hl)
theorem gw_pop2_2 (C : gw_C p s m args meth c cc nL own D cl tys A) {va : Value} (hdg : decode cc pc = .ok (.pop2, 1)) (hva : va.category = 2) (k : gw_W p l e R s m args below meth c D cl A Q cells slots nL ws lv (pc + 1) (st)) : gw_W p l e R s m args below meth c D cl A Q cells slots nL ws lv pc (va :: st) :=
  fun H locs ls hP hD hS hl => lv_pop2_2 C.1 C.2.1 hdg hva (k H locs ls hP hD hS hl)
theorem gw_dup (C : gw_C p s m args meth c cc nL own D cl tys A) {va : Value} (hdg : decode cc pc = .ok (.dup, 1)) (hva : va.category = 1) (k : gw_W p l e R s m args below meth c D cl A Q cells slots nL ws lv (pc + 1) (va :: va :: st)) : gw_W p l e R s m args below meth c D cl A Q cells slots nL ws lv pc (va :: st) :=
  fun H locs ls hP hD hS hl => lv_dup C.1 C.2.1 hdg hva (k H locs ls hP hD hS hl)
theorem gw_dup_x1 (C : gw_C p s m args meth c cc nL own D cl tys A) {va vb : Value} (hdg : decode cc pc = .ok (.dup_x1, 1)) (hva : va.category = 1) (hvb : vb.category = 1) (k : gw_W p l e R s m args below meth c D cl A Q cells slots nL ws lv (pc + 1) (va :: vb :: va :: st)) : gw_W p l e R s m args below meth c D cl A Q cells slots nL ws lv pc (va :: vb :: st) :=
  fun H locs ls hP hD hS hl => lv_dup_x1 C.1 C.2.1 hdg hva hvb (k H locs ls hP hD hS hl)
theorem gw_dup_x2 (C : gw_C p s m args meth c cc nL own D cl tys A) {va vb vd : Value} (hdg : decode cc pc = .ok (.dup_x2, 1)) (hva : va.category = 1) (hvb : vb.category = 1) (hvd : vd.category = 1) (k : gw_W p l e R s m args below meth c D cl A Q cells slots nL ws lv (pc + 1) (va :: vb :: vd :: va :: st)) : gw_W p l e R s m args below meth c D cl A Q cells slots nL ws lv pc (va :: vb :: vd :: st) :=
  fun H locs ls hP hD hS hl => lv_dup_x2 C.1 C.2.1 hdg hva hvb hvd (k H locs ls hP hD hS hl)
theorem gw_dup2_11 (C : gw_C p s m args meth c cc nL own D cl tys A) {va vb : Value} (hdg : decode cc pc = .ok (.dup2, 1)) (hva : va.category = 1) (hvb : vb.category = 1) (k : gw_W p l e R s m args below meth c D cl A Q cells slots nL ws lv (pc + 1) (va :: vb :: va :: vb :: st)) : gw_W p l e R s m args below meth c D cl A Q cells slots nL ws lv pc (va :: vb :: st) :=
  fun H locs ls hP hD hS hl => lv_dup2_11 C.1 C.2.1 hdg hva hvb (k H locs ls hP hD hS hl)
theorem gw_dup2_2 (C : gw_C p s m args meth c cc nL own D cl tys A) {va : Value} (hdg : decode cc pc = .ok (.dup2, 1)) (hva : va.category = 2) (k : gw_W p l e R s m args below meth c D cl A Q cells slots nL ws lv (pc + 1) (va :: va :: st)) : gw_W p l e R s m args below meth c D cl A Q cells slots nL ws lv pc (va :: st) :=
  fun H locs ls hP hD hS hl => lv_dup2_2 C.1 C.2.1 hdg hva (k H locs ls hP hD hS hl)
theorem gw_null (C : gw_C p s m args meth c cc nL own D cl tys A)  (hdg : decode cc pc = .ok (.aconst_null, 1))  (k : gw_W p l e R s m args below meth c D cl A Q cells slots nL ws lv (pc + 1) (.null :: st)) : gw_W p l e R s m args below meth c D cl A Q cells slots nL ws lv pc (st) :=
  fun H locs ls hP hD hS hl => lv_null C.1 C.2.1 hdg  (k H locs ls hP hD hS hl)
theorem gw_lcmp (C : gw_C p s m args meth c cc nL own D cl tys A) {x y : Int64} (hdg : decode cc pc = .ok (.lcmp, 1)) (k : gw_W p l e R s m args below meth c D cl A Q cells slots nL ws lv (pc + 1) (.int (lg_cmp x y) :: st)) : gw_W p l e R s m args below meth c D cl A Q cells slots nL ws lv pc (.long y :: .long x :: st) :=
  fun H locs ls hP hD hS hl => W.lcmp C.1 C.2.1 hdg (k H locs ls hP hD hS hl)
theorem gw_iload_n (C : gw_C p s m args meth c cc nL own D cl tys A) {k : Fin 4} {i : Nat} {x : Int32} (hdg : decode cc pc = .ok (.iload_n k, 1)) (hi : (k : Nat) = i) (q : Nat) (hq : lv[q]? = some (i, .int x)) (kk : gw_W p l e R s m args below meth c D cl A Q cells slots nL ws lv (pc + 1) (.int x :: st)) : gw_W p l e R s m args below meth c D cl A Q cells slots nL ws lv pc st :=
  fun H locs ls hP hD hS hl => lv_iload_n C.1 C.2.1 hdg hi (lv_at hl q hq) (kk H locs ls hP hD hS hl)
theorem gw_iload (C : gw_C p s m args meth c cc nL own D cl tys A) {i : Nat} {x : Int32} (hdg : decode cc pc = .ok (.iload i, 2)) (q : Nat) (hq : lv[q]? = some (i, .int x)) (kk : gw_W p l e R s m args below meth c D cl A Q cells slots nL ws lv (pc + 2) (.int x :: st)) : gw_W p l e R s m args below meth c D cl A Q cells slots nL ws lv pc st :=
  fun H locs ls hP hD hS hl => lv_iload C.1 C.2.1 hdg (lv_at hl q hq) (kk H locs ls hP hD hS hl)
theorem gw_lload_n (C : gw_C p s m args meth c cc nL own D cl tys A) {k : Fin 4} {i : Nat} {x : Int64} (hdg : decode cc pc = .ok (.lload_n k, 1)) (hi : (k : Nat) = i) (q : Nat) (hq : lv[q]? = some (i, .long x)) (kk : gw_W p l e R s m args below meth c D cl A Q cells slots nL ws lv (pc + 1) (.long x :: st)) : gw_W p l e R s m args below meth c D cl A Q cells slots nL ws lv pc st :=
  fun H locs ls hP hD hS hl => lv_lload_n C.1 C.2.1 hdg hi (lv_at hl q hq) (kk H locs ls hP hD hS hl)
theorem gw_lload (C : gw_C p s m args meth c cc nL own D cl tys A) {i : Nat} {x : Int64} (hdg : decode cc pc = .ok (.lload i, 2)) (q : Nat) (hq : lv[q]? = some (i, .long x)) (kk : gw_W p l e R s m args below meth c D cl A Q cells slots nL ws lv (pc + 2) (.long x :: st)) : gw_W p l e R s m args below meth c D cl A Q cells slots nL ws lv pc st :=
  fun H locs ls hP hD hS hl => lv_lload C.1 C.2.1 hdg (lv_at hl q hq) (kk H locs ls hP hD hS hl)
theorem gw_aload_n (C : gw_C p s m args meth c cc nL own D cl tys A) {k : Fin 4} {i : Nat} {x : Nat} (hdg : decode cc pc = .ok (.aload_n k, 1)) (hi : (k : Nat) = i) (q : Nat) (hq : lv[q]? = some (i, .ref x)) (kk : gw_W p l e R s m args below meth c D cl A Q cells slots nL ws lv (pc + 1) (.ref x :: st)) : gw_W p l e R s m args below meth c D cl A Q cells slots nL ws lv pc st :=
  fun H locs ls hP hD hS hl => lv_aload_n C.1 C.2.1 hdg hi (lv_at hl q hq) (kk H locs ls hP hD hS hl)
theorem gw_aload (C : gw_C p s m args meth c cc nL own D cl tys A) {i : Nat} {x : Nat} (hdg : decode cc pc = .ok (.aload i, 2)) (q : Nat) (hq : lv[q]? = some (i, .ref x)) (kk : gw_W p l e R s m args below meth c D cl A Q cells slots nL ws lv (pc + 2) (.ref x :: st)) : gw_W p l e R s m args below meth c D cl A Q cells slots nL ws lv pc st :=
  fun H locs ls hP hD hS hl => lv_aload C.1 C.2.1 hdg (lv_at hl q hq) (kk H locs ls hP hD hS hl)
theorem gw_istore_n (C : gw_C p s m args meth c cc nL own D cl tys A) {k : Fin 4} {i : Nat} {x : Int32} (hdg : decode cc pc = .ok (.istore_n k, 1)) (hi : (k : Nat) = i) (hn : i < nL) (hl' : (i, Value.int x) :: lv.filter (fun q => !(q.1 == i) && !(q.1 + 1 == i && q.2.category == 2)) = lv') (kk : gw_W p l e R s m args below meth c D cl A Q cells slots nL ws lv' (pc + 1) st) : gw_W p l e R s m args below meth c D cl A Q cells slots nL ws lv pc (.int x :: st) :=
  fun H locs ls hP hD hS hl => lv_istore_n C.1 C.2.1 hdg hi hl hn hl' (fun ls' h9 => kk H locs ls' hP hD hS h9)
theorem gw_istore (C : gw_C p s m args meth c cc nL own D cl tys A) {i : Nat} {x : Int32} (hdg : decode cc pc = .ok (.istore i, 2)) (hn : i < nL) (hl' : (i, Value.int x) :: lv.filter (fun q => !(q.1 == i) && !(q.1 + 1 == i && q.2.category == 2)) = lv') (kk : gw_W p l e R s m args below meth c D cl A Q cells slots nL ws lv' (pc + 2) st) : gw_W p l e R s m args below meth c D cl A Q cells slots nL ws lv pc (.int x :: st) :=
  fun H locs ls hP hD hS hl => lv_istore C.1 C.2.1 hdg hl hn hl' (fun ls' h9 => kk H locs ls' hP hD hS h9)
theorem gw_lstore_n (C : gw_C p s m args meth c cc nL own D cl tys A) {k : Fin 4} {i : Nat} {x : Int64} (hdg : decode cc pc = .ok (.lstore_n k, 1)) (hi : (k : Nat) = i) (hn : i + 1 < nL) (hl' : (i, Value.long x) :: lv.filter (fun q => !(q.1 == i) && (!(q.1 == i + 1) && !(q.1 + 1 == i && q.2.category == 2))) = lv') (kk : gw_W p l e R s m args below meth c D cl A Q cells slots nL ws lv' (pc + 1) st) : gw_W p l e R s m args below meth c D cl A Q cells slots nL ws lv pc (.long x :: st) :=
  fun H locs ls hP hD hS hl => lv_lstore_n C.1 C.2.1 hdg hi hl hn hl' (fun ls' h9 => kk H locs ls' hP hD hS h9)
theorem gw_lstore (C : gw_C p s m args meth c cc nL own D cl tys A) {i : Nat} {x : Int64} (hdg : decode cc pc = .ok (.lstore i, 2)) (hn : i + 1 < nL) (hl' : (i, Value.long x) :: lv.filter (fun q => !(q.1 == i) && (!(q.1 == i + 1) && !(q.1 + 1 == i && q.2.category == 2))) = lv') (kk : gw_W p l e R s m args below meth c D cl A Q cells slots nL ws lv' (pc + 2) st) : gw_W p l e R s m args below meth c D cl A Q cells slots nL ws lv pc (.long x :: st) :=
  fun H locs ls hP hD hS hl => lv_lstore C.1 C.2.1 hdg hl hn hl' (fun ls' h9 => kk H locs ls' hP hD hS h9)
theorem gw_astore_n (C : gw_C p s m args meth c cc nL own D cl tys A) {k : Fin 4} {i : Nat} {x : Nat} (hdg : decode cc pc = .ok (.astore_n k, 1)) (hi : (k : Nat) = i) (hn : i < nL) (hl' : (i, Value.ref x) :: lv.filter (fun q => !(q.1 == i) && !(q.1 + 1 == i && q.2.category == 2)) = lv') (kk : gw_W p l e R s m args below meth c D cl A Q cells slots nL ws lv' (pc + 1) st) : gw_W p l e R s m args below meth c D cl A Q cells slots nL ws lv pc (.ref x :: st) :=
  fun H locs ls hP hD hS hl => lv_astore_n C.1 C.2.1 hdg hi hl hn hl' (fun ls' h9 => kk H locs ls' hP hD hS h9)
theorem gw_astore (C : gw_C p s m args meth c cc nL own D cl tys A) {i : Nat} {x : Nat} (hdg : decode cc pc = .ok (.astore i, 2)) (hn : i < nL) (hl' : (i, Value.ref x) :: lv.filter (fun q => !(q.1 == i) && !(q.1 + 1 == i && q.2.category == 2)) = lv') (kk : gw_W p l e R s m args below meth c D cl A Q cells slots nL ws lv' (pc + 2) st) : gw_W p l e R s m args below meth c D cl A Q cells slots nL ws lv pc (.ref x :: st) :=
  fun H locs ls hP hD hS hl => lv_astore C.1 C.2.1 hdg hl hn hl' (fun ls' h9 => kk H locs ls' hP hD hS h9)
theorem gw_iinc (C : gw_C p s m args meth c cc nL own D cl tys A) {i q : Nat} {n : Int} {x v : Int32} (hdg : decode cc pc = .ok (.iinc i n, 3)) (hq : lv[q]? = some (i, .int x)) (hv : x + Int32.ofInt n = v) (hn : i < nL) (hl' : (i, Value.int v) :: lv.filter (fun q => !(q.1 == i) && !(q.1 + 1 == i && q.2.category == 2)) = lv') (kk : gw_W p l e R s m args below meth c D cl A Q cells slots nL ws lv' (pc + 3) st) : gw_W p l e R s m args below meth c D cl A Q cells slots nL ws lv pc st :=
  fun H locs ls hP hD hS hl => lv_iinc C.1 C.2.1 hdg hl hq hv hn hl' (fun ls' h9 => kk H locs ls' hP hD hS h9)
theorem gw_if_eq (C : gw_C p s m args meth c cc nL own D cl tys A) {x : Int32} {off : Int} {tgt : Nat} (hdg : decode cc pc = .ok (.ifCond .eq off, 3)) (ht : (pc : Int) + off = (tgt : Int)) (kt : x = 0 → gw_W p l e R s m args below meth c D cl A Q cells slots nL ws lv tgt st) (kf : ¬ x = 0 → gw_W p l e R s m args below meth c D cl A Q cells slots nL ws lv (pc + 3) st) : gw_W p l e R s m args below meth c D cl A Q cells slots nL ws lv pc (.int x :: st) :=
  fun H locs ls hP hD hS hl => lv_if_eq C.1 C.2.1 hdg ht (fun h => kt h H locs ls hP hD hS hl) (fun h => kf h H locs ls hP hD hS hl)
theorem gw_icmp_eq (C : gw_C p s m args meth c cc nL own D cl tys A) {x y : Int32} {off : Int} {tgt : Nat} (hdg : decode cc pc = .ok (.if_icmp .eq off, 3)) (ht : (pc : Int) + off = (tgt : Int)) (kt : x = y → gw_W p l e R s m args below meth c D cl A Q cells slots nL ws lv tgt st) (kf : ¬ x = y → gw_W p l e R s m args below meth c D cl A Q cells slots nL ws lv (pc + 3) st) : gw_W p l e R s m args below meth c D cl A Q cells slots nL ws lv pc (.int y :: .int x :: st) :=
  fun H locs ls hP hD hS hl => lv_icmp_eq C.1 C.2.1 hdg ht (fun h => kt h H locs ls hP hD hS hl) (fun h => kf h H locs ls hP hD hS hl)
theorem gw_if_ne (C : gw_C p s m args meth c cc nL own D cl tys A) {x : Int32} {off : Int} {tgt : Nat} (hdg : decode cc pc = .ok (.ifCond .ne off, 3)) (ht : (pc : Int) + off = (tgt : Int)) (kt : ¬ x = 0 → gw_W p l e R s m args below meth c D cl A Q cells slots nL ws lv tgt st) (kf : x = 0 → gw_W p l e R s m args below meth c D cl A Q cells slots nL ws lv (pc + 3) st) : gw_W p l e R s m args below meth c D cl A Q cells slots nL ws lv pc (.int x :: st) :=
  fun H locs ls hP hD hS hl => lv_if_ne C.1 C.2.1 hdg ht (fun h => kt h H locs ls hP hD hS hl) (fun h => kf h H locs ls hP hD hS hl)
theorem gw_icmp_ne (C : gw_C p s m args meth c cc nL own D cl tys A) {x y : Int32} {off : Int} {tgt : Nat} (hdg : decode cc pc = .ok (.if_icmp .ne off, 3)) (ht : (pc : Int) + off = (tgt : Int)) (kt : ¬ x = y → gw_W p l e R s m args below meth c D cl A Q cells slots nL ws lv tgt st) (kf : x = y → gw_W p l e R s m args below meth c D cl A Q cells slots nL ws lv (pc + 3) st) : gw_W p l e R s m args below meth c D cl A Q cells slots nL ws lv pc (.int y :: .int x :: st) :=
  fun H locs ls hP hD hS hl => lv_icmp_ne C.1 C.2.1 hdg ht (fun h => kt h H locs ls hP hD hS hl) (fun h => kf h H locs ls hP hD hS hl)
theorem gw_if_lt (C : gw_C p s m args meth c cc nL own D cl tys A) {x : Int32} {off : Int} {tgt : Nat} (hdg : decode cc pc = .ok (.ifCond .lt off, 3)) (ht : (pc : Int) + off = (tgt : Int)) (kt : x < 0 → gw_W p l e R s m args below meth c D cl A Q cells slots nL ws lv tgt st) (kf : ¬ x < 0 → gw_W p l e R s m args below meth c D cl A Q cells slots nL ws lv (pc + 3) st) : gw_W p l e R s m args below meth c D cl A Q cells slots nL ws lv pc (.int x :: st) :=
  fun H locs ls hP hD hS hl => lv_if_lt C.1 C.2.1 hdg ht (fun h => kt h H locs ls hP hD hS hl) (fun h => kf h H locs ls hP hD hS hl)
theorem gw_icmp_lt (C : gw_C p s m args meth c cc nL own D cl tys A) {x y : Int32} {off : Int} {tgt : Nat} (hdg : decode cc pc = .ok (.if_icmp .lt off, 3)) (ht : (pc : Int) + off = (tgt : Int)) (kt : x < y → gw_W p l e R s m args below meth c D cl A Q cells slots nL ws lv tgt st) (kf : ¬ x < y → gw_W p l e R s m args below meth c D cl A Q cells slots nL ws lv (pc + 3) st) : gw_W p l e R s m args below meth c D cl A Q cells slots nL ws lv pc (.int y :: .int x :: st) :=
  fun H locs ls hP hD hS hl => lv_icmp_lt C.1 C.2.1 hdg ht (fun h => kt h H locs ls hP hD hS hl) (fun h => kf h H locs ls hP hD hS hl)
theorem gw_if_ge (C : gw_C p s m args meth c cc nL own D cl tys A) {x : Int32} {off : Int} {tgt : Nat} (hdg : decode cc pc = .ok (.ifCond .ge off, 3)) (ht : (pc : Int) + off = (tgt : Int)) (kt : 0 ≤ x → gw_W p l e R s m args below meth c D cl A Q cells slots nL ws lv tgt st) (kf : ¬ 0 ≤ x → gw_W p l e R s m args below meth c D cl A Q cells slots nL ws lv (pc + 3) st) : gw_W p l e R s m args below meth c D cl A Q cells slots nL ws lv pc (.int x :: st) :=
  fun H locs ls hP hD hS hl => lv_if_ge C.1 C.2.1 hdg ht (fun h => kt h H locs ls hP hD hS hl) (fun h => kf h H locs ls hP hD hS hl)
theorem gw_icmp_ge (C : gw_C p s m args meth c cc nL own D cl tys A) {x y : Int32} {off : Int} {tgt : Nat} (hdg : decode cc pc = .ok (.if_icmp .ge off, 3)) (ht : (pc : Int) + off = (tgt : Int)) (kt : y ≤ x → gw_W p l e R s m args below meth c D cl A Q cells slots nL ws lv tgt st) (kf : ¬ y ≤ x → gw_W p l e R s m args below meth c D cl A Q cells slots nL ws lv (pc + 3) st) : gw_W p l e R s m args below meth c D cl A Q cells slots nL ws lv pc (.int y :: .int x :: st) :=
  fun H locs ls hP hD hS hl => lv_icmp_ge C.1 C.2.1 hdg ht (fun h => kt h H locs ls hP hD hS hl) (fun h => kf h H locs ls hP hD hS hl)
theorem gw_if_gt (C : gw_C p s m args meth c cc nL own D cl tys A) {x : Int32} {off : Int} {tgt : Nat} (hdg : decode cc pc = .ok (.ifCond .gt off, 3)) (ht : (pc : Int) + off = (tgt : Int)) (kt : 0 < x → gw_W p l e R s m args below meth c D cl A Q cells slots nL ws lv tgt st) (kf : ¬ 0 < x → gw_W p l e R s m args below meth c D cl A Q cells slots nL ws lv (pc + 3) st) : gw_W p l e R s m args below meth c D cl A Q cells slots nL ws lv pc (.int x :: st) :=
  fun H locs ls hP hD hS hl => lv_if_gt C.1 C.2.1 hdg ht (fun h => kt h H locs ls hP hD hS hl) (fun h => kf h H locs ls hP hD hS hl)
theorem gw_icmp_gt (C : gw_C p s m args meth c cc nL own D cl tys A) {x y : Int32} {off : Int} {tgt : Nat} (hdg : decode cc pc = .ok (.if_icmp .gt off, 3)) (ht : (pc : Int) + off = (tgt : Int)) (kt : y < x → gw_W p l e R s m args below meth c D cl A Q cells slots nL ws lv tgt st) (kf : ¬ y < x → gw_W p l e R s m args below meth c D cl A Q cells slots nL ws lv (pc + 3) st) : gw_W p l e R s m args below meth c D cl A Q cells slots nL ws lv pc (.int y :: .int x :: st) :=
  fun H locs ls hP hD hS hl => lv_icmp_gt C.1 C.2.1 hdg ht (fun h => kt h H locs ls hP hD hS hl) (fun h => kf h H locs ls hP hD hS hl)
theorem gw_if_le (C : gw_C p s m args meth c cc nL own D cl tys A) {x : Int32} {off : Int} {tgt : Nat} (hdg : decode cc pc = .ok (.ifCond .le off, 3)) (ht : (pc : Int) + off = (tgt : Int)) (kt : x ≤ 0 → gw_W p l e R s m args below meth c D cl A Q cells slots nL ws lv tgt st) (kf : ¬ x ≤ 0 → gw_W p l e R s m args below meth c D cl A Q cells slots nL ws lv (pc + 3) st) : gw_W p l e R s m args below meth c D cl A Q cells slots nL ws lv pc (.int x :: st) :=
  fun H locs ls hP hD hS hl => lv_if_le C.1 C.2.1 hdg ht (fun h => kt h H locs ls hP hD hS hl) (fun h => kf h H locs ls hP hD hS hl)
theorem gw_icmp_le (C : gw_C p s m args meth c cc nL own D cl tys A) {x y : Int32} {off : Int} {tgt : Nat} (hdg : decode cc pc = .ok (.if_icmp .le off, 3)) (ht : (pc : Int) + off = (tgt : Int)) (kt : x ≤ y → gw_W p l e R s m args below meth c D cl A Q cells slots nL ws lv tgt st) (kf : ¬ x ≤ y → gw_W p l e R s m args below meth c D cl A Q cells slots nL ws lv (pc + 3) st) : gw_W p l e R s m args below meth c D cl A Q cells slots nL ws lv pc (.int y :: .int x :: st) :=
  fun H locs ls hP hD hS hl => lv_icmp_le C.1 C.2.1 hdg ht (fun h => kt h H locs ls hP hD hS hl) (fun h => kf h H locs ls hP hD hS hl)
theorem gw_goto (C : gw_C p s m args meth c cc nL own D cl tys A) {off : Int} {tgt : Nat} (hdg : decode cc pc = .ok (.goto off, 3)) (ht : (pc : Int) + off = (tgt : Int)) (k : gw_W p l e R s m args below meth c D cl A Q cells slots nL ws lv tgt st) : gw_W p l e R s m args below meth c D cl A Q cells slots nL ws lv pc st :=
  fun H locs ls hP hD hS hl => lv_goto C.1 C.2.1 hdg ht (k H locs ls hP hD hS hl)
theorem gw_ifnull (C : gw_C p s m args meth c cc nL own D cl tys A) {x : Nat} {off : Int} (hdg : decode cc pc = .ok (.ifnull off, 3)) (k : gw_W p l e R s m args below meth c D cl A Q cells slots nL ws lv (pc + 3) st) : gw_W p l e R s m args below meth c D cl A Q cells slots nL ws lv pc (.ref x :: st) :=
  fun H locs ls hP hD hS hl => lv_ifnull C.1 C.2.1 hdg (k H locs ls hP hD hS hl)
theorem gw_ifnonnull (C : gw_C p s m args meth c cc nL own D cl tys A) {x : Nat} {off : Int} {tgt : Nat} (hdg : decode cc pc = .ok (.ifnonnull off, 3)) (ht : (pc : Int) + off = (tgt : Int)) (k : gw_W p l e R s m args below meth c D cl A Q cells slots nL ws lv tgt st) : gw_W p l e R s m args below meth c D cl A Q cells slots nL ws lv pc (.ref x :: st) :=
  fun H locs ls hP hD hS hl => lv_ifnonnull C.1 C.2.1 hdg ht (k H locs ls hP hD hS hl)
theorem gw_lookup (C : gw_C p s m args meth c cc nL own D cl tys A) {dflt : Int} {ps : Array (Int × Int)} {len : Nat} {x : Int32} {off : Int} {tgt : Nat} (hdg : decode cc pc = .ok (.lookupswitch dflt ps, len)) (hp : (ps.toList.zip (ps.toList.drop 1)).all (fun (a, next) => a.1 < next.1) = true) (ho : Op.lookupswitch.offset ps.toList dflt x.toInt = off) (ht : (pc : Int) + off = (tgt : Int)) (k : gw_W p l e R s m args below meth c D cl A Q cells slots nL ws lv tgt st) : gw_W p l e R s m args below meth c D cl A Q cells slots nL ws lv pc (.int x :: st) :=
  fun H locs ls hP hD hS hl => lv_lookup C.1 C.2.1 hdg hp ho ht (k H locs ls hP hD hS hl)
theorem gw_tableOut (C : gw_C p s m args meth c cc nL own D cl tys A) {dflt lo hi : Int} {offs : Array Int} {len : Nat} {x : Int32} {tgt : Nat} (hdg : decode cc pc = .ok (.tableswitch dflt lo hi offs, len)) (h : x.toInt < lo ∨ hi < x.toInt) (ht : (pc : Int) + dflt = (tgt : Int)) (k : gw_W p l e R s m args below meth c D cl A Q cells slots nL ws lv tgt st) : gw_W p l e R s m args below meth c D cl A Q cells slots nL ws lv pc (.int x :: st) :=
  fun H locs ls hP hD hS hl => lv_tableOut C.1 C.2.1 hdg h ht (k H locs ls hP hD hS hl)
theorem gw_tableIn (C : gw_C p s m args meth c cc nL own D cl tys A) {dflt lo hi : Int} {offs : Array Int} {len : Nat} {x : Int32} {off : Int} {tgt : Nat} (hdg : decode cc pc = .ok (.tableswitch dflt lo hi offs, len)) (h1 : ¬ x.toInt < lo) (h2 : ¬ hi < x.toInt) (ho : offs[(x.toInt - lo).toNat]? = some off) (ht : (pc : Int) + off = (tgt : Int)) (k : gw_W p l e R s m args below meth c D cl A Q cells slots nL ws lv tgt st) : gw_W p l e R s m args below meth c D cl A Q cells slots nL ws lv pc (.int x :: st) :=
  fun H locs ls hP hD hS hl => lv_tableIn C.1 C.2.1 hdg h1 h2 ho ht (k H locs ls hP hD hS hl)
theorem gw_ldc (C : gw_C p s m args meth c cc nL own D cl tys A) {index : Nat} {v : Int32} (hin : Jvm.Cond.constant own index v ∈ gw_all) (hdg : decode cc pc = .ok (.ldc index, 2)) (k : gw_W p l e R s m args below meth c D cl A Q cells slots nL ws lv (pc + 2) (.int v :: st)) : gw_W p l e R s m args below meth c D cl A Q cells slots nL ws lv pc st :=
  fun H locs ls hP hD hS hl => lv_ldc C.1 C.2.1 C.2.2.2.1 (C.2.2.2.2.1 _ hin) hdg (k H locs ls hP hD hS hl)
theorem gw_ldc2 (C : gw_C p s m args meth c cc nL own D cl tys A) {index : Nat} {v : Int64} (hin : Jvm.Cond.constantLong own index v ∈ gw_all) (hdg : decode cc pc = .ok (.ldc2_w index, 3)) (k : gw_W p l e R s m args below meth c D cl A Q cells slots nL ws lv (pc + 3) (.long v :: st)) : gw_W p l e R s m args below meth c D cl A Q cells slots nL ws lv pc st :=
  fun H locs ls hP hD hS hl => lv_ldc2 C.1 C.2.1 C.2.2.2.1 (C.2.2.2.2.1 _ hin) hdg (k H locs ls hP hD hS hl)
theorem gw_get (C : gw_C p s m args meth c cc nL own D cl tys A) {K : String} {T : u_T} {N ci index a : Nat} {fs : List Value} {v : Value} (k : Nat) (hin : ∀ w ∈ u_ws K T N, w ∈ gw_all) (hc : cl[ci]? = some (K, T, N)) (hk : k < N) (hlink : Cond.fieldLink own index (T k).1 (T k).2.1 (T k).2.2.1 ∈ gw_all) (q0 : Nat) (he : ws[q0]? = some (a, .inr (ci, fs))) (hv : fs[k]? = some v) (hdg : decode cc pc = .ok (.getfield index, 3)) (kk : gw_W p l e R s m args below meth c D cl A Q cells slots nL ws lv (pc + 3) (v :: st)) : gw_W p l e R s m args below meth c D cl A Q cells slots nL ws lv pc (.ref a :: st) :=
  fun H locs ls hP hD hS hl => va_get C.1 C.2.1 C.2.2.2.2.1 hin C.2.2.2.1 C.2.2.2.2.2.1 hP q0 he hc k hk (C.2.2.2.2.1 _ hlink) (fun _ h => h) hv hdg (kk H locs ls hP hD hS hl)
theorem gw_put (C : gw_C p s m args meth c cc nL own D cl tys A) {K : String} {T : u_T} {N ci index a : Nat} {fs : List Value} {v : Value} {ty : FieldType} (k : Nat) (hin : ∀ w ∈ u_ws K T N, w ∈ gw_all) (ty0 : Nat → FieldType) (hty : ∀ k, k < N → parseFieldDescriptor (T k).2.2.1 = some (ty0 k)) (hnm : ∀ a, a < N → ∀ b, b < N → a ≠ b → (T a).2.1 ≠ (T b).2.1) (hc : cl[ci]? = some (K, T, N)) (hk : k < N) (hlink : Cond.fieldLink own index (T k).1 (T k).2.1 (T k).2.2.1 ∈ gw_all) (hfin : (T k).2.2.2 = false) (hd : parseFieldDescriptor (T k).2.2.1 = some ty) (q0 : Nat) (he : ws[q0]? = some (a, .inr (ci, fs))) (hn : narrow ty v = v) (hfit : fits ty v = true) (hl0 : k < fs.length) (hdg : decode cc pc = .ok (.putfield index, 3)) (hw : ws.set q0 (a, .inr (ci, fs.set k v)) = ws') (kk : gw_W p l e R s m args below meth c D cl A Q cells slots nL ws' lv (pc + 3) st) : gw_W p l e R s m args below meth c D cl A Q cells slots nL ws lv pc (v :: .ref a :: st) :=
  fun H locs ls hP hD hS hl => va_put C.1 C.2.1 C.2.2.2.2.1 hin ty0 hty hnm C.2.2.2.1 C.2.2.2.2.2.1 hP hD hS q0 he hc k hk (C.2.2.2.2.1 _ hlink) (fun _ h => h) hfin hd hn hfit hl0 hdg (fun H1 locs1 hP1 hD1 hS1 => kk H1 locs1 ls (hw ▸ hP1) (hw ▸ hD1) hS1 hl)
theorem gw_getN (C : gw_C p s m args meth c cc nL own D cl tys A) {host : String} {K : String} {T : u_T} {N ci index a : Nat} {fs : List Value} {v : Value} (k : Nat) (hin : ∀ w ∈ u_ws K T N, w ∈ gw_all) (hc : cl[ci]? = some (K, T, N)) (hk : k < N) (hlink : Cond.fieldLinkNest own index (T k).1 (T k).2.1 (T k).2.2.1 host ∈ gw_all) (q0 : Nat) (he : ws[q0]? = some (a, .inr (ci, fs))) (hv : fs[k]? = some v) (hdg : decode cc pc = .ok (.getfield index, 3)) (kk : gw_W p l e R s m args below meth c D cl A Q cells slots nL ws lv (pc + 3) (v :: st)) : gw_W p l e R s m args below meth c D cl A Q cells slots nL ws lv pc (.ref a :: st) :=
  fun H locs ls hP hD hS hl => va_getN C.1 C.2.1 C.2.2.2.2.1 hin C.2.2.2.1 C.2.2.2.2.2.1 hP q0 he hc k hk (C.2.2.2.2.1 _ hlink) (fun _ h => h) hv hdg (kk H locs ls hP hD hS hl)
theorem gw_putN (C : gw_C p s m args meth c cc nL own D cl tys A) {host : String} {K : String} {T : u_T} {N ci index a : Nat} {fs : List Value} {v : Value} {ty : FieldType} (k : Nat) (hin : ∀ w ∈ u_ws K T N, w ∈ gw_all) (ty0 : Nat → FieldType) (hty : ∀ k, k < N → parseFieldDescriptor (T k).2.2.1 = some (ty0 k)) (hnm : ∀ a, a < N → ∀ b, b < N → a ≠ b → (T a).2.1 ≠ (T b).2.1) (hc : cl[ci]? = some (K, T, N)) (hk : k < N) (hlink : Cond.fieldLinkNest own index (T k).1 (T k).2.1 (T k).2.2.1 host ∈ gw_all) (hfin : (T k).2.2.2 = false) (hd : parseFieldDescriptor (T k).2.2.1 = some ty) (q0 : Nat) (he : ws[q0]? = some (a, .inr (ci, fs))) (hn : narrow ty v = v) (hfit : fits ty v = true) (hl0 : k < fs.length) (hdg : decode cc pc = .ok (.putfield index, 3)) (hw : ws.set q0 (a, .inr (ci, fs.set k v)) = ws') (kk : gw_W p l e R s m args below meth c D cl A Q cells slots nL ws' lv (pc + 3) st) : gw_W p l e R s m args below meth c D cl A Q cells slots nL ws lv pc (v :: .ref a :: st) :=
  fun H locs ls hP hD hS hl => va_putN C.1 C.2.1 C.2.2.2.2.1 hin ty0 hty hnm C.2.2.2.1 C.2.2.2.2.2.1 hP hD hS q0 he hc k hk (C.2.2.2.2.1 _ hlink) (fun _ h => h) hfin hd hn hfit hl0 hdg (fun H1 locs1 hP1 hD1 hS1 => kk H1 locs1 ls (hw ▸ hP1) (hw ▸ hD1) hS1 hl)
theorem gw_putF (C : gw_C p s m args meth c cc nL own D cl tys A) {K : String} {T : u_T} {N ci index a : Nat} {fs : List Value} {v : Value} {ty : FieldType} (k : Nat) (hin : ∀ w ∈ u_ws K T N, w ∈ gw_all) (ty0 : Nat → FieldType) (hty : ∀ k, k < N → parseFieldDescriptor (T k).2.2.1 = some (ty0 k)) (hnm : ∀ a, a < N → ∀ b, b < N → a ≠ b → (T a).2.1 ≠ (T b).2.1) (hc : cl[ci]? = some (K, T, N)) (hk : k < N) (hlink : Cond.fieldLink own index (T k).1 (T k).2.1 (T k).2.2.1 ∈ gw_all) (hfin : (T k).2.2.2 = true) (hdecl : (T k).1 = own) (hd : parseFieldDescriptor (T k).2.2.1 = some ty) (hini : meth.name = "<init>") (q0 : Nat) (he : ws[q0]? = some (a, .inr (ci, fs))) (hn : narrow ty v = v) (hfit : fits ty v = true) (hl0 : k < fs.length) (hdg : decode cc pc = .ok (.putfield index, 3)) (hw : ws.set q0 (a, .inr (ci, fs.set k v)) = ws') (kk : gw_W p l e R s m args below meth c D cl A Q cells slots nL ws' lv (pc + 3) st) : gw_W p l e R s m args below meth c D cl A Q cells slots nL ws lv pc (v :: .ref a :: st) :=
  fun H locs ls hP hD hS hl => va_putF C.1 C.2.1 C.2.2.2.2.1 hin ty0 hty hnm C.2.2.2.1 C.2.2.2.2.2.1 hP hD hS q0 he hc k hk (C.2.2.2.2.1 _ hlink) (fun _ h => h) hfin hini hdecl hd hn hfit hl0 hdg (fun H1 locs1 hP1 hD1 hS1 => kk H1 locs1 ls (hw ▸ hP1) (hw ▸ hD1) hS1 hl)
theorem gw_iald (C : gw_C p s m args meth c cc nL own D cl tys A) {cA : ClassId} {n a : Nat} {f : Nat → Int32} {i : Int32} (q0 t0 : Nat) (ha : ws[q0]? = some (a, .inl (cA, n, .inl f))) (ht : tys[t0]? = some (cA, .int)) (hin : vp_in i n) (hdg : decode cc pc = .ok (.iaload, 1)) (kk : gw_W p l e R s m args below meth c D cl A Q cells slots nL ws lv (pc + 1) (.int (f i.toNatClampNeg) :: st)) : gw_W p l e R s m args below meth c D cl A Q cells slots nL ws lv pc (.int i :: .ref a :: st) :=
  fun H locs ls hP hD hS hl => va_iald C.1 C.2.1 C.2.2.2.2.2.1 hP q0 t0 ha ht hin hdg (kk H locs ls hP hD hS hl)
theorem gw_iast (C : gw_C p s m args meth c cc nL own D cl tys A) {cA : ClassId} {n a : Nat} {f : Nat → Int32} {i : Int32} {x : Int32} (q0 t0 : Nat) (ha : ws[q0]? = some (a, .inl (cA, n, .inl f))) (ht : tys[t0]? = some (cA, .int)) (hin : vp_in i n) (hdg : decode cc pc = .ok (.iastore, 1)) (hw : ws.set q0 (a, .inl (cA, n, .inl (upd f i.toNatClampNeg x))) = ws') (kk : gw_W p l e R s m args below meth c D cl A Q cells slots nL ws' lv (pc + 1) st) : gw_W p l e R s m args below meth c D cl A Q cells slots nL ws lv pc (.int x :: .int i :: .ref a :: st) :=
  fun H locs ls hP hD hS hl => va_iast C.1 C.2.1 C.2.2.2.2.2.1 hP hD hS q0 t0 ha ht hin hdg (fun H1 locs1 hP1 hD1 hS1 => kk H1 locs1 ls (hw ▸ hP1) (hw ▸ hD1) hS1 hl)
theorem gw_lald (C : gw_C p s m args meth c cc nL own D cl tys A) {cA : ClassId} {n a : Nat} {f : Nat → Int64} {i : Int32} (q0 t0 : Nat) (ha : ws[q0]? = some (a, .inl (cA, n, .inr (.inl f)))) (ht : tys[t0]? = some (cA, .long)) (hin : vp_in i n) (hdg : decode cc pc = .ok (.laload, 1)) (kk : gw_W p l e R s m args below meth c D cl A Q cells slots nL ws lv (pc + 1) (.long (f i.toNatClampNeg) :: st)) : gw_W p l e R s m args below meth c D cl A Q cells slots nL ws lv pc (.int i :: .ref a :: st) :=
  fun H locs ls hP hD hS hl => va_lald C.1 C.2.1 C.2.2.2.2.2.1 hP q0 t0 ha ht hin hdg (kk H locs ls hP hD hS hl)
theorem gw_last (C : gw_C p s m args meth c cc nL own D cl tys A) {cA : ClassId} {n a : Nat} {f : Nat → Int64} {i : Int32} {x : Int64} (q0 t0 : Nat) (ha : ws[q0]? = some (a, .inl (cA, n, .inr (.inl f)))) (ht : tys[t0]? = some (cA, .long)) (hin : vp_in i n) (hdg : decode cc pc = .ok (.lastore, 1)) (hw : ws.set q0 (a, .inl (cA, n, .inr (.inl (vp_updL f i.toNatClampNeg x)))) = ws') (kk : gw_W p l e R s m args below meth c D cl A Q cells slots nL ws' lv (pc + 1) st) : gw_W p l e R s m args below meth c D cl A Q cells slots nL ws lv pc (.long x :: .int i :: .ref a :: st) :=
  fun H locs ls hP hD hS hl => va_last C.1 C.2.1 C.2.2.2.2.2.1 hP hD hS q0 t0 ha ht hin hdg (fun H1 locs1 hP1 hD1 hS1 => kk H1 locs1 ls (hw ▸ hP1) (hw ▸ hD1) hS1 hl)
theorem gw_zald (C : gw_C p s m args meth c cc nL own D cl tys A) {cA : ClassId} {n a : Nat} {f : Nat → Int32} {i : Int32} (q0 t0 : Nat) (ha : ws[q0]? = some (a, .inl (cA, n, .inl f))) (ht : tys[t0]? = some (cA, .boolean)) (hin : vp_in i n) (hdg : decode cc pc = .ok (.baload, 1)) (kk : gw_W p l e R s m args below meth c D cl A Q cells slots nL ws lv (pc + 1) (.int (f i.toNatClampNeg) :: st)) : gw_W p l e R s m args below meth c D cl A Q cells slots nL ws lv pc (.int i :: .ref a :: st) :=
  fun H locs ls hP hD hS hl => va_zald C.1 C.2.1 C.2.2.2.2.2.1 hP q0 t0 ha ht hin hdg (kk H locs ls hP hD hS hl)
theorem gw_zast (C : gw_C p s m args meth c cc nL own D cl tys A) {cA : ClassId} {n a : Nat} {f : Nat → Int32} {i x : Int32} (q0 t0 : Nat) (ha : ws[q0]? = some (a, .inl (cA, n, .inl f))) (ht : tys[t0]? = some (cA, .boolean)) (hin : vp_in i n) (hx : vp_nar .boolean x = x) (hdg : decode cc pc = .ok (.bastore, 1)) (hw : ws.set q0 (a, .inl (cA, n, .inl (upd f i.toNatClampNeg x))) = ws') (kk : gw_W p l e R s m args below meth c D cl A Q cells slots nL ws' lv (pc + 1) st) : gw_W p l e R s m args below meth c D cl A Q cells slots nL ws lv pc (.int x :: .int i :: .ref a :: st) :=
  fun H locs ls hP hD hS hl => va_zast C.1 C.2.1 C.2.2.2.2.2.1 hP hD hS q0 t0 ha ht hin hdg (fun H1 locs1 hP1 hD1 hS1 => kk H1 locs1 ls (hw ▸ (by rw [hx] at hP1; exact hP1)) (hw ▸ (by rw [hx] at hD1; exact hD1)) hS1 hl)
theorem gw_alen (C : gw_C p s m args meth c cc nL own D cl tys A) {cA : ClassId} {a : Nat} {x : vp_A} {ty : FieldType} {v : Int32} (q0 t0 : Nat) (ha : ws[q0]? = some (a, .inl (cA, x))) (ht : tys[t0]? = some (cA, ty)) (hv : Int32.ofNat x.1 = v) (hdg : decode cc pc = .ok (.arraylength, 1)) (kk : gw_W p l e R s m args below meth c D cl A Q cells slots nL ws lv (pc + 1) (.int v :: st)) : gw_W p l e R s m args below meth c D cl A Q cells slots nL ws lv pc (.ref a :: st) :=
  fun H locs ls hP hD hS hl => va_alen C.1 C.2.1 C.2.2.2.2.2.1 hP q0 t0 ha ht hv hdg (kk H locs ls hP hD hS hl)
theorem gw_eq (hw : ws = ws') (hlv : lv = lv') (kk : gw_W p l e R s m args below meth c D cl A Q cells slots nL ws' lv' pc st) : gw_W p l e R s m args below meth c D cl A Q cells slots nL ws lv pc st := by subst hw; subst hlv; exact kk
theorem gw_less (ks : List Nat) (h : lv_pick lv ks = lv') (kk : gw_W p l e R s m args below meth c D cl A Q cells slots nL ws lv' pc st) : gw_W p l e R s m args below meth c D cl A Q cells slots nL ws lv pc st := fun H locs ls hP hD hS hl => kk H locs ls hP hD hS (lv_sub hl ks h)
theorem gw_widen {cells' slots' : Nat} (h1 : cells ≤ cells') (h2 : slots ≤ slots') (kk : gw_W p l e R s m args below meth c D cl A Q cells' slots' nL ws lv pc st) : gw_W p l e R s m args below meth c D cl A Q cells slots nL ws lv pc st := fun H locs ls hP hD hS hl => W.widen h1 h2 (kk H locs ls hP hD hS hl)
end GW0
section GW1
variable {p : Program} {l : Launch} {e : Env} {R : Room} {s : State} {m : MethodId} {args : Array Value} {below : List Frame} {meth : Method} {c : Code} {Q : State → Prop}
variable {cc : ByteArray} {nL : Nat} {own : String} {D : va_G} {cl : List vw_C} {tys : List (ClassId × FieldType)} {A : Nat → Prop} {cells slots : Nat} {ws ws' : va_W} {lv lv' : List (Nat × Value)} {pc : Nat} {st : List Value}
/-- a start: the world w -/
def gw_Pc (D : va_G) (cl : List vw_C) (tys : List (ClassId × FieldType)) (av : List Value) (w : va_W) (sz : Nat) : Array Value → State → Prop := va_Pc av (fun U => U.heap.size = sz ∧ va_P D cl w U.heap ∧ va_K D cl tys U ∧ va_D (fun _ => True) w ∧ gw_E U)
/-- an end: the answer o, the world w' -/
def gw_Qc (D : va_G) (cl : List vw_C) (w' : va_W) (o : Option Value) (A : Nat → Prop) : Array Value → State → Outcome → State → Prop := fun _ st oc t => (oc = .returned o ∧ va_P D cl w' t.heap ∧ va_D A w') ∧ va_F A st t
/-- A CONTRACT: from the world w and the arguments av it returns o, the world is w' -/
def gw_M (l : Launch) (y : MethodName) (wy : List Cond) (rm : Room) (D : va_G) (cl : List vw_C) (tys : List (ClassId × FieldType)) (av : List Value) (w w' : va_W) (o : Option Value) : Prop :=
  ∀ sz : Nat, Met l y wy rm (gw_Pc D cl tys av w sz) (gw_Qc D cl w' o (va_A w sz)) rm.cells rm.slots (va_A w sz)
theorem gw_blind {av : List Value} {w : va_W} {sz : Nat} : FrameBlind (gw_Pc D cl tys av w sz) := fun a U g mk q => by
  obtain ⟨q0, q1, qP, qK, qD, qE⟩ := q
  exact ⟨q0, q1, qP, va_K.moved (u := U) (U := U.calling g mk a) (Vm.Alike.refl U.vm) qK, qD, fun w hw hn => va_Nw.same (gw_nest_on hn) (u := U) (U := U.calling g mk a) rfl (qE w hw hn)⟩
/-- how a contract is begun -/
theorem gw_start {y : MethodName} {wy : List Cond} {rm : Room} {av : List Value} {w w' : va_W} {o : Option Value} {ret : Option FieldType} (hy : plainName y.cls = true) (hw : wy = Cond.code y cc nL ret :: gw_T) (hlen : (lg_sl av).length ≤ nL)
    (body : ∀ (p : Program) (e : Env) (s : State) (m : MethodId) (below : List Frame) (meth : Method) (c : Code) (A : Nat → Prop), gw_C p s m av.toArray meth c cc nL y.cls D cl tys A → meth.sig.returnType = ret → meth.name = y.name → gw_W p l e rm s m av.toArray below meth c D cl A (MQ below (gw_Qc D cl w' o A) av.toArray s rm.cells rm.slots A) 0 0 nL w (lv_args 0 av) 0 []) : gw_M l y wy rm D cl tys av w w' o := by
  intro sz
  refine Met.ofW (cc := cc) (maxL := nL) (ret := ret) hy hw ?_
  intro p e s m args below meth c s₁ B hml hv
  obtain ⟨rfl, hsz, hP, hK, hD0, hE⟩ := hv
  subst hsz
  have hD := hD0.self (sz := s.heap.size)
  have hl := lv_entry av (n := nL) hlen
  rw [lg_entry_eq]
  refine body p e s m below meth c (va_A w s.heap.size) ⟨B.exec, B.bytes, hml, findClass_of_methodNamed B.named, gw_all_of (fun w h => atoms_spec (ws := wy) B.pre w (by rw [hw]; exact List.mem_cons_of_mem _ h)) hE, hK, fun q h => Or.inr h, B.notSynchronized⟩ B.returns (name_of_methodNamed B.named B.method).1 s.heap [] _ hP hD va_S.rf hl
theorem gw_iret (C : gw_C p s m args meth c cc nL own D cl tys A) {w' : va_W} {v : Int32} (hr : meth.sig.returnType = some .int) (hw : ws = w') (hdg : decode cc pc = .ok (.ireturn, 1)) : gw_W p l e R s m args below meth c D cl A (MQ below (gw_Qc D cl w' (some (.int v)) A) args s cells slots A) cells slots nL ws lv pc [.int v] :=
  fun H locs ls hP hD hS hl => W.iret C.1 C.2.1 hr (fun t ht hW => ⟨⟨rfl, by rw [ht]; exact hw ▸ hP, hw ▸ hD⟩, hS.F ht⟩) hS.2.2 hdg (hlocks := C.2.2.2.2.2.2.2)
theorem gw_zret (C : gw_C p s m args meth c cc nL own D cl tys A) {w' : va_W} {v : Int32} {ty : FieldType} (hr : meth.sig.returnType = some ty) (hv : narrow ty (.int v) = .int v) (hw : ws = w') (hdg : decode cc pc = .ok (.ireturn, 1)) : gw_W p l e R s m args below meth c D cl A (MQ below (gw_Qc D cl w' (some (.int v)) A) args s cells slots A) cells slots nL ws lv pc [.int v] :=
  fun H locs ls hP hD hS hl => W.zret C.1 C.2.1 hr hv (fun t ht hW => ⟨⟨rfl, by rw [ht]; exact hw ▸ hP, hw ▸ hD⟩, hS.F ht⟩) hS.2.2 hdg (hlocks := C.2.2.2.2.2.2.2)
theorem gw_lret (C : gw_C p s m args meth c cc nL own D cl tys A) {w' : va_W} {v : Int64} (hr : meth.sig.returnType = some .long) (hw : ws = w') (hdg : decode cc pc = .ok (.lreturn, 1)) : gw_W p l e R s m args below meth c D cl A (MQ below (gw_Qc D cl w' (some (.long v)) A) args s cells slots A) cells slots nL ws lv pc [.long v] :=
  fun H locs ls hP hD hS hl => W.lret C.1 C.2.1 hr (fun t ht hW => ⟨⟨rfl, by rw [ht]; exact hw ▸ hP, hw ▸ hD⟩, hS.F ht⟩) hS.2.2 hdg (hlocks := C.2.2.2.2.2.2.2)
theorem gw_vret (C : gw_C p s m args meth c cc nL own D cl tys A) {w' : va_W} (hr : meth.sig.returnType = none) (hw : ws = w') (hdg : decode cc pc = .ok (.return_, 1)) : gw_W p l e R s m args below meth c D cl A (MQ below (gw_Qc D cl w' none A) args s cells slots A) cells slots nL ws lv pc [] :=
  fun H locs ls hP hD hS hl => W.vret C.1 C.2.1 hr (fun t ht hW => ⟨⟨rfl, by rw [ht]; exact hw ▸ hP, hw ▸ hD⟩, hS.F ht⟩) hS.2.2 hdg (hlocks := C.2.2.2.2.2.2.2)
end GW1
section GW2
variable {p : Program} {l : Launch} {e : Env} {R : Room} {s : State} {m : MethodId} {args : Array Value} {below : List Frame} {meth : Method} {c : Code} {Q : State → Prop}
variable {cc : ByteArray} {nL : Nat} {own : String} {D : va_G} {cl : List vw_C} {tys : List (ClassId × FieldType)} {A : Nat → Prop} {cells slots : Nat} {ws ws' : va_W} {lv lv' : List (Nat × Value)} {pc : Nat} {st : List Value}
theorem gw_sub (C : gw_C p s m args meth c cc nL own D cl tys A) {wc : va_W} {H : Heap} {locs : List Loc} (hD : va_D A ws) (hS : va_S A s.heap H locs) (isC : List Nat) (hC : isC.map (fun i => ws[i]?) = wc.map some) : ∀ q, va_A wc H.size q → A q := va_free hD hS C.2.2.2.2.2.2.1 isC hC
theorem gw_self (C : gw_C p s m args meth c cc nL own D cl tys A) {H : Heap} {locs : List Loc} (hD : va_D A ws) (hS : va_S A s.heap H locs) : ∀ q, va_A ws H.size q → A q := by
  intro q h
  rcases h with ⟨k, e, h⟩ | h
  · exact hD.2 k (q, e) h
  · exact C.2.2.2.2.2.2.1 q (Nat.le_trans hS.1 h)
/-- behind a call that had the whole world -/
theorem gw_after (C : gw_C p s m args meth c cc nL own D cl tys A) {w' : va_W} {o : Option Value} {mc ms : Nat} {st0 : List Value} {a : Array Value} (hr : ∀ (H : Heap) (locs : List Loc) (ls : Array Slot), va_P D cl ws H → va_D A ws → va_S A s.heap H locs → lv_has ls nL lv → va_Run p l e R s m args below meth c H locs cells slots mc ms (F0 m pc ls st0) st (gw_Qc D cl w' o (va_A ws H.size) a) (va_A ws H.size))
    (kk : gw_W p l e R s m args below meth c D cl A Q (cells + mc) (slots + ms) nL w' lv (pc + 3) (o.toList ++ st)) : gw_W p l e R s m args below meth c D cl A Q cells slots nL ws lv pc st0 := by
  intro H locs ls hP hD hS hl T hT X
  obtain ⟨v, st₀, t, T', L, h0, X', hL, e1, e2, ⟨⟨hv, hP1, hD1⟩, hz, hk⟩, stp⟩ := hr H locs ls hP hD hS hl T hT X
  cases hv
  rw [h0] at hz hk
  have hF := gw_self C hD hS
  obtain ⟨t2, a1, b1⟩ := kk T'.heap (locs ++ L) ls (by rw [e1]; exact hP1) (hD1.weaken (fun k q _ h => hF q.1 h)) ⟨Nat.le_trans hS.1 (by rw [e1]; exact hz), fun q h1 h2 => by rw [e1, hk q (Nat.lt_of_lt_of_le h1 hS.1) (fun z => h2 (hF q z))]; exact hS.2.1 q h1 h2, fun q hq => by
      rcases List.mem_append.mp hq with h | h
      · exact hS.2.2 q h
      · exact hF _ (hL q h)⟩ hl T' rfl X'
  exact ⟨t2, stp t2 a1, b1⟩
/-- behind a call that had the part wc of the world: the rest wr is as it was -/
theorem gw_afterF (C : gw_C p s m args meth c cc nL own D cl tys A) {wc wr w' : va_W} {o : Option Value} {mc ms : Nat} {st0 : List Value} {a : Array Value} (isC isR : List Nat) (hC : isC.map (fun i => ws[i]?) = wc.map some) (hR : isR.map (fun i => ws[i]?) = wr.map some) (hn : va_nd isR = true) (hdis : ∀ i ∈ isR, i ∉ isC) (hr : ∀ (H : Heap) (locs : List Loc) (ls : Array Slot), va_P D cl ws H → va_D A ws → va_S A s.heap H locs → lv_has ls nL lv → va_Run p l e R s m args below meth c H locs cells slots mc ms (F0 m pc ls st0) st (gw_Qc D cl w' o (va_A wc H.size) a) (va_A wc H.size))
    (kk : gw_W p l e R s m args below meth c D cl A Q (cells + mc) (slots + ms) nL (wr ++ w') lv (pc + 3) (o.toList ++ st)) : gw_W p l e R s m args below meth c D cl A Q cells slots nL ws lv pc st0 := by
  intro H locs ls hP hD hS hl T hT X
  obtain ⟨v, st₀, t, T', L, h0, X', hL, e1, e2, ⟨⟨hv, hP1, hD1⟩, hz, hk⟩, stp⟩ := hr H locs ls hP hD hS hl T hT X
  cases hv
  rw [h0] at hz hk
  have hF := gw_sub (wc := wc) C hD hS isC hC
  obtain ⟨hP2, hD2⟩ := va_join (wr := wr) (w1 := w') hP hD isC isR hC hR hn hdis hk hF hP1 hD1
  obtain ⟨t2, a1, b1⟩ := kk T'.heap (locs ++ L) ls (by rw [e1]; exact hP2) hD2 ⟨Nat.le_trans hS.1 (by rw [e1]; exact hz), fun q h1 h2 => by rw [e1, hk q (Nat.lt_of_lt_of_le h1 hS.1) (fun z => h2 (hF q z))]; exact hS.2.1 q h1 h2, fun q hq => by
      rcases List.mem_append.mp hq with h | h
      · exact hS.2.2 q h
      · exact hF _ (hL q h)⟩ hl T' rfl X'
  exact ⟨t2, stp t2 a1, b1⟩
/-- a callee's words are among the tables' -/
theorem gw_good {w1 : Cond} (h1 : w1 ∈ gw_T) : GoodIn gw_all (w1 :: gw_T) := by
  intro w hw
  rcases List.mem_cons.mp hw with rfl | h
  · exact ⟨gw_T_all h1, gw_T_good _ h1⟩
  · exact ⟨gw_T_all h, gw_T_good _ h⟩
theorem gw_callV (C : gw_C p s m args meth c cc nL own D cl tys A) {y : MethodName} {bytes : ByteArray} {maxL n index : Nat} {ret : Option FieldType} {rm : Room} {As : List Value} {w' : va_W} {o : Option Value} {b ci q0 : Nat} {fs : List Value} {T : u_T} {N : Nat} (hM : gw_M l y (Cond.code y bytes maxL ret :: gw_T) rm D cl tys (.ref b :: As) ws w' o) (hG : GoodIn gw_all (Cond.code y bytes maxL ret :: gw_T)) (hl1 : Cond.methodLink own index y ∈ gw_all) (hl2 : Cond.instanceMethod y ∈ gw_all) (hl3 : Cond.selects y.cls y y ∈ gw_all) (hl4 : Cond.initialized y.cls ∈ gw_all) (hd : y.cls ≠ "java/lang/invoke/MethodHandle" ∧ y.cls ≠ "java/lang/invoke/VarHandle" ∧ (parseMethodDescriptor y.desc).map (fun d => d.parameters.length) = some n) (hR : rm.frames + 1 ≤ R.frames ∧ 8 + (maxL + 11) + rm.locals ≤ R.locals) (hf : cells + 0 ≤ R.cells ∧ slots + 0 ≤ R.slots) (hz1 : rm.cells = 0) (hz2 : rm.slots = 0) (hc : cl[ci]? = some (y.cls, T, N)) (he : ws[q0]? = some (b, .inr (ci, fs))) (hn : As.length = n) (hW : (st.map fun v => v.category).sum ≤ 8) (hdg : decode cc pc = .ok (.invokevirtual index, 3))
    (kk : gw_W p l e R s m args below meth c D cl A Q cells slots nL w' lv (pc + 3) (o.toList ++ st)) : gw_W p l e R s m args below meth c D cl A Q cells slots nL ws lv pc (As.reverse ++ .ref b :: st) := by
  refine gw_after (mc := 0) (ms := 0) (a := (Value.ref b :: As).toArray) C (fun H locs ls hP hD hS hl => ?_) kk
  have hM0 := hM H.size
  rw [hz1, hz2] at hM0
  exact va_runV (As := As) (rest := st) ⟨C.1, C.2.1, C.2.2.1, C.2.2.2.1, C.2.2.2.2.1⟩ hM0 ⟨callB_of n C.2.2.2.2.1 hG rfl hz1 hz2 (C.2.2.2.2.1 _ hl4) (C.2.2.2.2.1 _ hl1) hd hR, C.2.2.2.2.1 _ hl2, C.2.2.2.2.1 _ hl3⟩ ⟨gw_blind, va_recv C.2.2.2.2.2.1 hP hc he, fun U hU hW9 => ⟨rfl, by rw [hU], by rw [hU]; exact hP, va_K.moved hW9.alike C.2.2.2.2.2.1, hD.weaken (fun _ _ _ _ => trivial), gw_E_warm hW9 (gw_E_of C.2.2.2.2.1)⟩⟩ rfl hn hl.1 rfl (lv_room hW) hdg hf
theorem gw_callVN (C : gw_C p s m args meth c cc nL own D cl tys A) {y : MethodName} {bytes : ByteArray} {maxL n index : Nat} {ret : Option FieldType} {rm : Room} {As : List Value} {w' : va_W} {o : Option Value} {host : String} {b ci q0 : Nat} {fs : List Value} {T : u_T} {N : Nat} (hM : gw_M l y (Cond.code y bytes maxL ret :: gw_T) rm D cl tys (.ref b :: As) ws w' o) (hG : GoodIn gw_all (Cond.code y bytes maxL ret :: gw_T)) (hl1 : Cond.methodLinkNest own index y host ∈ gw_all) (hl1t : (Cond.methodLinkNest own index y host).onTables = true) (hl2 : Cond.instanceMethod y ∈ gw_all) (hl3 : Cond.selects y.cls y y ∈ gw_all) (hl4 : Cond.initialized y.cls ∈ gw_all) (hd : y.cls ≠ "java/lang/invoke/MethodHandle" ∧ y.cls ≠ "java/lang/invoke/VarHandle" ∧ (parseMethodDescriptor y.desc).map (fun d => d.parameters.length) = some n) (hR : rm.frames + 1 ≤ R.frames ∧ 8 + (maxL + 11) + rm.locals ≤ R.locals) (hf : cells + 0 ≤ R.cells ∧ slots + 0 ≤ R.slots) (hz1 : rm.cells = 0) (hz2 : rm.slots = 0) (hc : cl[ci]? = some (y.cls, T, N)) (he : ws[q0]? = some (b, .inr (ci, fs))) (hn : As.length = n) (hW : (st.map fun v => v.category).sum ≤ 8) (hdg : decode cc pc = .ok (.invokevirtual index, 3))
    (kk : gw_W p l e R s m args below meth c D cl A Q cells slots nL w' lv (pc + 3) (o.toList ++ st)) : gw_W p l e R s m args below meth c D cl A Q cells slots nL ws lv pc (As.reverse ++ .ref b :: st) := by
  refine gw_after (mc := 0) (ms := 0) (a := (Value.ref b :: As).toArray) C (fun H locs ls hP hD hS hl => ?_) kk
  have hM0 := hM H.size
  rw [hz1, hz2] at hM0
  exact va_runVN (As := As) (rest := st) ⟨C.1, C.2.1, C.2.2.1, C.2.2.2.1, C.2.2.2.2.1⟩ hM0 ⟨va_cnB n C.2.2.2.2.1 hG rfl hz1 hz2 (va_Nw.of hl1t (C.2.2.2.2.1 _ hl1)) (C.2.2.2.2.1 _ hl4) hd hR, C.2.2.2.2.1 _ hl2, C.2.2.2.2.1 _ hl3⟩ ⟨gw_blind, va_recv C.2.2.2.2.2.1 hP hc he, fun U hU hW9 => ⟨rfl, by rw [hU], by rw [hU]; exact hP, va_K.moved hW9.alike C.2.2.2.2.2.1, hD.weaken (fun _ _ _ _ => trivial), gw_E_warm hW9 (gw_E_of C.2.2.2.2.1)⟩⟩ rfl hn hl.1 rfl (lv_room hW) hdg hf
theorem gw_callS (C : gw_C p s m args meth c cc nL own D cl tys A) {y : MethodName} {bytes : ByteArray} {maxL n index : Nat} {ret : Option FieldType} {rm : Room} {As : List Value} {w' : va_W} {o : Option Value} (hM : gw_M l y (Cond.code y bytes maxL ret :: gw_T) rm D cl tys As ws w' o) (hG : GoodIn gw_all (Cond.code y bytes maxL ret :: gw_T)) (hl1 : Cond.methodLink own index y ∈ gw_all) (hl2 : Cond.static y ∈ gw_all) (hl4 : Cond.initialized y.cls ∈ gw_all) (hd : y.cls ≠ "java/lang/invoke/MethodHandle" ∧ y.cls ≠ "java/lang/invoke/VarHandle" ∧ (parseMethodDescriptor y.desc).map (fun d => d.parameters.length) = some n) (hR : rm.frames + 1 ≤ R.frames ∧ 8 + (maxL + 11) + rm.locals ≤ R.locals) (hf : cells + 0 ≤ R.cells ∧ slots + 0 ≤ R.slots) (hz1 : rm.cells = 0) (hz2 : rm.slots = 0) (hn : As.length = n) (hW : (st.map fun v => v.category).sum ≤ 8) (hdg : decode cc pc = .ok (.invokestatic index, 3))
    (kk : gw_W p l e R s m args below meth c D cl A Q cells slots nL w' lv (pc + 3) (o.toList ++ st)) : gw_W p l e R s m args below meth c D cl A Q cells slots nL ws lv pc (As.reverse ++ st) := by
  refine gw_after (mc := 0) (ms := 0) (a := As.toArray) C (fun H locs ls hP hD hS hl => ?_) kk
  have hM0 := hM H.size
  rw [hz1, hz2] at hM0
  exact va_runS (As := As) (rest := st) ⟨C.1, C.2.1, C.2.2.1, C.2.2.2.1, C.2.2.2.2.1⟩ hM0 ⟨callB_of n C.2.2.2.2.1 hG rfl hz1 hz2 (C.2.2.2.2.1 _ hl4) (C.2.2.2.2.1 _ hl1) hd hR, C.2.2.2.2.1 _ hl2⟩ ⟨gw_blind, fun U hU hW9 => ⟨rfl, by rw [hU], by rw [hU]; exact hP, va_K.moved hW9.alike C.2.2.2.2.2.1, hD.weaken (fun _ _ _ _ => trivial), gw_E_warm hW9 (gw_E_of C.2.2.2.2.1)⟩⟩ rfl hn hl.1 rfl (lv_room hW) hdg hf
end GW2
end
section
/-! NAMES (by program out of javap and the tables): classes, fields, methods, what the tables say, how each instruction decodes -/
def R_Gw : String := "GraphWalker"
def T_Gw : u_T := fun k => match k with
  | _ => ("GraphWalker", "walk", "LGraphWalker$Walk;", true)
def t_Gw : Nat → FieldType := fun k => match k with
  | _ => .object "GraphWalker$Walk"
theorem n_Gw : ∀ a, a < 1 → ∀ b, b < 1 → a ≠ b → (T_Gw a).2.1 ≠ (T_Gw b).2.1 := by decide +kernel
theorem t_Gw_ok : ∀ k, k < 1 → parseFieldDescriptor (T_Gw k).2.2.1 = some (t_Gw k) := by decide +kernel
theorem i_Gw : ∀ w ∈ u_ws R_Gw T_Gw 1, w ∈ gw_all := by
  have h : (u_ws R_Gw T_Gw 1).all (fun w => decide (w ∈ lw_tbl) && goodWord w) = true := by decide +kernel
  intro w hw
  have h2 := List.all_eq_true.mp h w hw
  rw [Bool.and_eq_true] at h2
  exact gw_T_all (List.mem_filter.mpr ⟨of_decide_eq_true h2.1, h2.2⟩)
def R_Wa : String := "GraphWalker$Walk"
def T_Wa : u_T := fun k => match k with
  | 0 => ("GraphWalker$Walk", "terms", "LGraphWalker$Terms;", true)
  | 1 => ("GraphWalker$Walk", "places", "LGraphWalker$Places;", true)
  | 2 => ("GraphWalker$Walk", "things", "LGraphWalker$Things;", true)
  | 3 => ("GraphWalker$Walk", "row", "LGraphWalker$Row;", true)
  | 4 => ("GraphWalker$Walk", "value", "LGraphWalker$Value;", true)
  | 5 => ("GraphWalker$Walk", "outcome", "I", false)
  | 6 => ("GraphWalker$Walk", "shares", "Z", false)
  | 7 => ("GraphWalker$Walk", "hand", "I", false)
  | 8 => ("GraphWalker$Walk", "handTerm", "I", false)
  | 9 => ("GraphWalker$Walk", "handPlaces", "I", false)
  | 10 => ("GraphWalker$Walk", "handThing", "I", false)
  | 11 => ("GraphWalker$Walk", "steps", "I", false)
  | 12 => ("GraphWalker$Walk", "needsOfDone", "I", false)
  | 13 => ("GraphWalker$Walk", "needsOfWaiting", "I", false)
  | 14 => ("GraphWalker$Walk", "ringNeeded", "I", false)
  | 15 => ("GraphWalker$Walk", "pace", "I", false)
  | _ => ("GraphWalker$Walk", "round", "I", false)
def t_Wa : Nat → FieldType := fun k => match k with
  | 0 => .object "GraphWalker$Terms"
  | 1 => .object "GraphWalker$Places"
  | 2 => .object "GraphWalker$Things"
  | 3 => .object "GraphWalker$Row"
  | 4 => .object "GraphWalker$Value"
  | 5 => .int
  | 6 => .boolean
  | 7 => .int
  | 8 => .int
  | 9 => .int
  | 10 => .int
  | 11 => .int
  | 12 => .int
  | 13 => .int
  | 14 => .int
  | 15 => .int
  | _ => .int
theorem n_Wa : ∀ a, a < 17 → ∀ b, b < 17 → a ≠ b → (T_Wa a).2.1 ≠ (T_Wa b).2.1 := by decide +kernel
theorem t_Wa_ok : ∀ k, k < 17 → parseFieldDescriptor (T_Wa k).2.2.1 = some (t_Wa k) := by decide +kernel
theorem i_Wa : ∀ w ∈ u_ws R_Wa T_Wa 17, w ∈ gw_all := by
  have h : (u_ws R_Wa T_Wa 17).all (fun w => decide (w ∈ lw_tbl) && goodWord w) = true := by decide +kernel
  intro w hw
  have h2 := List.all_eq_true.mp h w hw
  rw [Bool.and_eq_true] at h2
  exact gw_T_all (List.mem_filter.mpr ⟨of_decide_eq_true h2.1, h2.2⟩)
def R_Te : String := "GraphWalker$Terms"
def T_Te : u_T := fun k => match k with
  | 0 => ("GraphWalker$Terms", "sorts", "[I", true)
  | 1 => ("GraphWalker$Terms", "firsts", "[I", true)
  | 2 => ("GraphWalker$Terms", "seconds", "[I", true)
  | 3 => ("GraphWalker$Terms", "thirds", "[I", true)
  | 4 => ("GraphWalker$Terms", "numbers", "[J", true)
  | 5 => ("GraphWalker$Terms", "lacking", "[I", true)
  | _ => ("GraphWalker$Terms", "count", "I", false)
def t_Te : Nat → FieldType := fun k => match k with
  | 0 => .array .int
  | 1 => .array .int
  | 2 => .array .int
  | 3 => .array .int
  | 4 => .array .long
  | 5 => .array .int
  | _ => .int
theorem n_Te : ∀ a, a < 7 → ∀ b, b < 7 → a ≠ b → (T_Te a).2.1 ≠ (T_Te b).2.1 := by decide +kernel
theorem t_Te_ok : ∀ k, k < 7 → parseFieldDescriptor (T_Te k).2.2.1 = some (t_Te k) := by decide +kernel
theorem i_Te : ∀ w ∈ u_ws R_Te T_Te 7, w ∈ gw_all := by
  have h : (u_ws R_Te T_Te 7).all (fun w => decide (w ∈ lw_tbl) && goodWord w) = true := by decide +kernel
  intro w hw
  have h2 := List.all_eq_true.mp h w hw
  rw [Bool.and_eq_true] at h2
  exact gw_T_all (List.mem_filter.mpr ⟨of_decide_eq_true h2.1, h2.2⟩)
def R_Pl : String := "GraphWalker$Places"
def T_Pl : u_T := fun k => match k with
  | 0 => ("GraphWalker$Places", "held", "[I", true)
  | 1 => ("GraphWalker$Places", "outers", "[I", true)
  | 2 => ("GraphWalker$Places", "marks", "[I", true)
  | _ => ("GraphWalker$Places", "made", "I", false)
def t_Pl : Nat → FieldType := fun k => match k with
  | 0 => .array .int
  | 1 => .array .int
  | 2 => .array .int
  | _ => .int
theorem n_Pl : ∀ a, a < 4 → ∀ b, b < 4 → a ≠ b → (T_Pl a).2.1 ≠ (T_Pl b).2.1 := by decide +kernel
theorem t_Pl_ok : ∀ k, k < 4 → parseFieldDescriptor (T_Pl k).2.2.1 = some (t_Pl k) := by decide +kernel
theorem i_Pl : ∀ w ∈ u_ws R_Pl T_Pl 4, w ∈ gw_all := by
  have h : (u_ws R_Pl T_Pl 4).all (fun w => decide (w ∈ lw_tbl) && goodWord w) = true := by decide +kernel
  intro w hw
  have h2 := List.all_eq_true.mp h w hw
  rw [Bool.and_eq_true] at h2
  exact gw_T_all (List.mem_filter.mpr ⟨of_decide_eq_true h2.1, h2.2⟩)
def R_Th : String := "GraphWalker$Things"
def T_Th : u_T := fun k => match k with
  | 0 => ("GraphWalker$Things", "states", "[I", true)
  | 1 => ("GraphWalker$Things", "terms", "[I", true)
  | 2 => ("GraphWalker$Things", "places", "[I", true)
  | 3 => ("GraphWalker$Things", "times", "[I", true)
  | 4 => ("GraphWalker$Things", "needers", "[I", true)
  | 5 => ("GraphWalker$Things", "valueSorts", "[I", true)
  | 6 => ("GraphWalker$Things", "valueNumbers", "[J", true)
  | 7 => ("GraphWalker$Things", "valueFirsts", "[I", true)
  | 8 => ("GraphWalker$Things", "valueSeconds", "[I", true)
  | 9 => ("GraphWalker$Things", "marks", "[I", true)
  | 10 => ("GraphWalker$Things", "there", "[I", true)
  | 11 => ("GraphWalker$Things", "reached", "[I", true)
  | 12 => ("GraphWalker$Things", "made", "I", false)
  | 13 => ("GraphWalker$Things", "thereCount", "I", false)
  | _ => ("GraphWalker$Things", "reachedCount", "I", false)
def t_Th : Nat → FieldType := fun k => match k with
  | 0 => .array .int
  | 1 => .array .int
  | 2 => .array .int
  | 3 => .array .int
  | 4 => .array .int
  | 5 => .array .int
  | 6 => .array .long
  | 7 => .array .int
  | 8 => .array .int
  | 9 => .array .int
  | 10 => .array .int
  | 11 => .array .int
  | 12 => .int
  | 13 => .int
  | _ => .int
theorem n_Th : ∀ a, a < 15 → ∀ b, b < 15 → a ≠ b → (T_Th a).2.1 ≠ (T_Th b).2.1 := by decide +kernel
theorem t_Th_ok : ∀ k, k < 15 → parseFieldDescriptor (T_Th k).2.2.1 = some (t_Th k) := by decide +kernel
theorem i_Th : ∀ w ∈ u_ws R_Th T_Th 15, w ∈ gw_all := by
  have h : (u_ws R_Th T_Th 15).all (fun w => decide (w ∈ lw_tbl) && goodWord w) = true := by decide +kernel
  intro w hw
  have h2 := List.all_eq_true.mp h w hw
  rw [Bool.and_eq_true] at h2
  exact gw_T_all (List.mem_filter.mpr ⟨of_decide_eq_true h2.1, h2.2⟩)
def R_Ro : String := "GraphWalker$Row"
def T_Ro : u_T := fun k => match k with
  | 0 => ("GraphWalker$Row", "kinds", "[I", true)
  | 1 => ("GraphWalker$Row", "firsts", "[I", true)
  | 2 => ("GraphWalker$Row", "seconds", "[I", true)
  | 3 => ("GraphWalker$Row", "numbers", "[J", true)
  | 4 => ("GraphWalker$Row", "length", "I", false)
  | _ => ("GraphWalker$Row", "greatest", "I", false)
def t_Ro : Nat → FieldType := fun k => match k with
  | 0 => .array .int
  | 1 => .array .int
  | 2 => .array .int
  | 3 => .array .long
  | 4 => .int
  | _ => .int
theorem n_Ro : ∀ a, a < 6 → ∀ b, b < 6 → a ≠ b → (T_Ro a).2.1 ≠ (T_Ro b).2.1 := by decide +kernel
theorem t_Ro_ok : ∀ k, k < 6 → parseFieldDescriptor (T_Ro k).2.2.1 = some (t_Ro k) := by decide +kernel
theorem i_Ro : ∀ w ∈ u_ws R_Ro T_Ro 6, w ∈ gw_all := by
  have h : (u_ws R_Ro T_Ro 6).all (fun w => decide (w ∈ lw_tbl) && goodWord w) = true := by decide +kernel
  intro w hw
  have h2 := List.all_eq_true.mp h w hw
  rw [Bool.and_eq_true] at h2
  exact gw_T_all (List.mem_filter.mpr ⟨of_decide_eq_true h2.1, h2.2⟩)
def R_Va : String := "GraphWalker$Value"
def T_Va : u_T := fun k => match k with
  | 0 => ("GraphWalker$Value", "sort", "I", false)
  | 1 => ("GraphWalker$Value", "number", "J", false)
  | 2 => ("GraphWalker$Value", "first", "I", false)
  | _ => ("GraphWalker$Value", "second", "I", false)
def t_Va : Nat → FieldType := fun k => match k with
  | 0 => .int
  | 1 => .long
  | 2 => .int
  | _ => .int
theorem n_Va : ∀ a, a < 4 → ∀ b, b < 4 → a ≠ b → (T_Va a).2.1 ≠ (T_Va b).2.1 := by decide +kernel
theorem t_Va_ok : ∀ k, k < 4 → parseFieldDescriptor (T_Va k).2.2.1 = some (t_Va k) := by decide +kernel
theorem i_Va : ∀ w ∈ u_ws R_Va T_Va 4, w ∈ gw_all := by
  have h : (u_ws R_Va T_Va 4).all (fun w => decide (w ∈ lw_tbl) && goodWord w) = true := by decide +kernel
  intro w hw
  have h2 := List.all_eq_true.mp h w hw
  rw [Bool.and_eq_true] at h2
  exact gw_T_all (List.mem_filter.mpr ⟨of_decide_eq_true h2.1, h2.2⟩)
def R_Mo : String := "GraphWalkerModel"
def T_Mo : u_T := fun k => match k with
  | 0 => ("GraphWalkerModel", "terms", "I", false)
  | 1 => ("GraphWalkerModel", "kinds", "[I", true)
  | 2 => ("GraphWalkerModel", "as", "[I", true)
  | 3 => ("GraphWalkerModel", "bs", "[I", true)
  | 4 => ("GraphWalkerModel", "cs", "[I", true)
  | 5 => ("GraphWalkerModel", "numbers", "[J", true)
  | 6 => ("GraphWalkerModel", "lacking", "[I", true)
  | 7 => ("GraphWalkerModel", "things", "I", false)
  | 8 => ("GraphWalkerModel", "there", "I", false)
  | 9 => ("GraphWalkerModel", "states", "[I", true)
  | 10 => ("GraphWalkerModel", "thingTerms", "[I", true)
  | 11 => ("GraphWalkerModel", "thingPlaces", "[I", true)
  | 12 => ("GraphWalkerModel", "valueSorts", "[I", true)
  | 13 => ("GraphWalkerModel", "valueNumbers", "[J", true)
  | 14 => ("GraphWalkerModel", "valueLefts", "[I", true)
  | 15 => ("GraphWalkerModel", "valueRights", "[I", true)
  | 16 => ("GraphWalkerModel", "works", "[I", true)
  | 17 => ("GraphWalkerModel", "neededBy", "[I", true)
  | 18 => ("GraphWalkerModel", "wasNeeded", "[Z", true)
  | 19 => ("GraphWalkerModel", "places", "I", false)
  | 20 => ("GraphWalkerModel", "placeThings", "[I", true)
  | 21 => ("GraphWalkerModel", "placeNexts", "[I", true)
  | 22 => ("GraphWalkerModel", "length", "I", false)
  | 23 => ("GraphWalkerModel", "longest", "I", false)
  | 24 => ("GraphWalkerModel", "entries", "[I", true)
  | 25 => ("GraphWalkerModel", "entryThings", "[I", true)
  | 26 => ("GraphWalkerModel", "entryPlaces", "[I", true)
  | 27 => ("GraphWalkerModel", "entryNumbers", "[J", true)
  | 28 => ("GraphWalkerModel", "hand", "I", false)
  | 29 => ("GraphWalkerModel", "handTerm", "I", false)
  | 30 => ("GraphWalkerModel", "handPlaces", "I", false)
  | 31 => ("GraphWalkerModel", "handThing", "I", false)
  | 32 => ("GraphWalkerModel", "sort", "I", false)
  | 33 => ("GraphWalkerModel", "number", "J", false)
  | 34 => ("GraphWalkerModel", "left", "I", false)
  | 35 => ("GraphWalkerModel", "right", "I", false)
  | 36 => ("GraphWalkerModel", "outcome", "I", false)
  | 37 => ("GraphWalkerModel", "shares", "Z", false)
  | 38 => ("GraphWalkerModel", "steps", "I", false)
  | 39 => ("GraphWalkerModel", "needsDone", "I", false)
  | 40 => ("GraphWalkerModel", "needsWaiting", "I", false)
  | 41 => ("GraphWalkerModel", "ringThing", "I", false)
  | 42 => ("GraphWalkerModel", "often", "I", false)
  | 43 => ("GraphWalkerModel", "code", "I", false)
  | 44 => ("GraphWalkerModel", "reached", "[Z", true)
  | 45 => ("GraphWalkerModel", "walked", "[Z", true)
  | 46 => ("GraphWalkerModel", "line", "[I", true)
  | _ => ("GraphWalkerModel", "lined", "I", false)
def t_Mo : Nat → FieldType := fun k => match k with
  | 0 => .int
  | 1 => .array .int
  | 2 => .array .int
  | 3 => .array .int
  | 4 => .array .int
  | 5 => .array .long
  | 6 => .array .int
  | 7 => .int
  | 8 => .int
  | 9 => .array .int
  | 10 => .array .int
  | 11 => .array .int
  | 12 => .array .int
  | 13 => .array .long
  | 14 => .array .int
  | 15 => .array .int
  | 16 => .array .int
  | 17 => .array .int
  | 18 => .array .boolean
  | 19 => .int
  | 20 => .array .int
  | 21 => .array .int
  | 22 => .int
  | 23 => .int
  | 24 => .array .int
  | 25 => .array .int
  | 26 => .array .int
  | 27 => .array .long
  | 28 => .int
  | 29 => .int
  | 30 => .int
  | 31 => .int
  | 32 => .int
  | 33 => .long
  | 34 => .int
  | 35 => .int
  | 36 => .int
  | 37 => .boolean
  | 38 => .int
  | 39 => .int
  | 40 => .int
  | 41 => .int
  | 42 => .int
  | 43 => .int
  | 44 => .array .boolean
  | 45 => .array .boolean
  | 46 => .array .int
  | _ => .int
theorem n_Mo : ∀ a, a < 48 → ∀ b, b < 48 → a ≠ b → (T_Mo a).2.1 ≠ (T_Mo b).2.1 := by decide +kernel
theorem t_Mo_ok : ∀ k, k < 48 → parseFieldDescriptor (T_Mo k).2.2.1 = some (t_Mo k) := by decide +kernel
theorem i_Mo : ∀ w ∈ u_ws R_Mo T_Mo 48, w ∈ gw_all := by
  have h : (u_ws R_Mo T_Mo 48).all (fun w => decide (w ∈ lw_tbl) && goodWord w) = true := by decide +kernel
  intro w hw
  have h2 := List.all_eq_true.mp h w hw
  rw [Bool.and_eq_true] at h2
  exact gw_T_all (List.mem_filter.mpr ⟨of_decide_eq_true h2.1, h2.2⟩)
def R_La : String := "GraphWalkerLaw"
abbrev gw_cl : List vw_C := [(R_Gw, T_Gw, 1), (R_Wa, T_Wa, 17), (R_Te, T_Te, 7), (R_Pl, T_Pl, 4), (R_Th, T_Th, 15), (R_Ro, T_Ro, 6), (R_Va, T_Va, 4), (R_Mo, T_Mo, 48)]
abbrev gw_ty (cI cL cZ : ClassId) : List (ClassId × FieldType) := [(cI, .int), (cL, .long), (cZ, .boolean)]
abbrev b_Gw_init : ByteArray := prog_1_method_1_code
def y_Gw_init : MethodName := ⟨R_Gw, "<init>", "()V"⟩
abbrev w_Gw_init : List Cond := Cond.code y_Gw_init b_Gw_init 1 none :: gw_T
abbrev b_Gw_number : ByteArray := prog_1_method_2_code
def y_Gw_number : MethodName := ⟨R_Gw, "number", "(J)I"⟩
abbrev w_Gw_number : List Cond := Cond.code y_Gw_number b_Gw_number 3 (some .int) :: gw_T
abbrev b_Gw_variable : ByteArray := prog_1_method_3_code
def y_Gw_variable : MethodName := ⟨R_Gw, "variable", "(I)I"⟩
abbrev w_Gw_variable : List Cond := Cond.code y_Gw_variable b_Gw_variable 2 (some .int) :: gw_T
abbrev b_Gw_one : ByteArray := prog_1_method_4_code
def y_Gw_one : MethodName := ⟨R_Gw, "one", "(II)I"⟩
abbrev w_Gw_one : List Cond := Cond.code y_Gw_one b_Gw_one 3 (some .int) :: gw_T
abbrev b_Gw_two : ByteArray := prog_1_method_5_code
def y_Gw_two : MethodName := ⟨R_Gw, "two", "(III)I"⟩
abbrev w_Gw_two : List Cond := Cond.code y_Gw_two b_Gw_two 4 (some .int) :: gw_T
abbrev b_Gw_choose : ByteArray := prog_1_method_6_code
def y_Gw_choose : MethodName := ⟨R_Gw, "choose", "(III)I"⟩
abbrev w_Gw_choose : List Cond := Cond.code y_Gw_choose b_Gw_choose 4 (some .int) :: gw_T
abbrev b_Gw_lacks : ByteArray := prog_1_method_7_code
def y_Gw_lacks : MethodName := ⟨R_Gw, "lacks", "(I)I"⟩
abbrev w_Gw_lacks : List Cond := Cond.code y_Gw_lacks b_Gw_lacks 2 (some .int) :: gw_T
abbrev b_Gw_begin : ByteArray := prog_1_method_8_code
def y_Gw_begin : MethodName := ⟨R_Gw, "begin", "(IZ)V"⟩
abbrev w_Gw_begin : List Cond := Cond.code y_Gw_begin b_Gw_begin 3 none :: gw_T
abbrev b_Gw_run : ByteArray := prog_1_method_9_code
def y_Gw_run : MethodName := ⟨R_Gw, "run", "(I)I"⟩
abbrev w_Gw_run : List Cond := Cond.code y_Gw_run b_Gw_run 3 (some .int) :: gw_T
abbrev b_Gw_into : ByteArray := prog_1_method_10_code
def y_Gw_into : MethodName := ⟨R_Gw, "into", "(I)V"⟩
abbrev w_Gw_into : List Cond := Cond.code y_Gw_into b_Gw_into 2 none :: gw_T
abbrev b_Gw_outcome : ByteArray := prog_1_method_11_code
def y_Gw_outcome : MethodName := ⟨R_Gw, "outcome", "()I"⟩
abbrev w_Gw_outcome : List Cond := Cond.code y_Gw_outcome b_Gw_outcome 1 (some .int) :: gw_T
abbrev b_Gw_sort : ByteArray := prog_1_method_12_code
def y_Gw_sort : MethodName := ⟨R_Gw, "sort", "()I"⟩
abbrev w_Gw_sort : List Cond := Cond.code y_Gw_sort b_Gw_sort 1 (some .int) :: gw_T
abbrev b_Gw_value : ByteArray := prog_1_method_13_code
def y_Gw_value : MethodName := ⟨R_Gw, "value", "()J"⟩
abbrev w_Gw_value : List Cond := Cond.code y_Gw_value b_Gw_value 1 (some .long) :: gw_T
abbrev b_Gw_told : ByteArray := prog_1_method_14_code
def y_Gw_told : MethodName := ⟨R_Gw, "told", "(I)I"⟩
abbrev w_Gw_told : List Cond := Cond.code y_Gw_told b_Gw_told 2 (some .int) :: gw_T
abbrev b_Gw_thing : ByteArray := prog_1_method_15_code
def y_Gw_thing : MethodName := ⟨R_Gw, "thing", "(I)I"⟩
abbrev w_Gw_thing : List Cond := Cond.code y_Gw_thing b_Gw_thing 2 (some .int) :: gw_T
abbrev b_Gw_worked : ByteArray := prog_1_method_16_code
def y_Gw_worked : MethodName := ⟨R_Gw, "worked", "(II)I"⟩
abbrev w_Gw_worked : List Cond := Cond.code y_Gw_worked b_Gw_worked 3 (some .int) :: gw_T
abbrev b_Gw_ring : ByteArray := prog_1_method_17_code
def y_Gw_ring : MethodName := ⟨R_Gw, "ring", "(I)I"⟩
abbrev w_Gw_ring : List Cond := Cond.code y_Gw_ring b_Gw_ring 3 (some .int) :: gw_T
abbrev b_Gw_entry : ByteArray := prog_1_method_18_code
def y_Gw_entry : MethodName := ⟨R_Gw, "entry", "(I)I"⟩
abbrev w_Gw_entry : List Cond := Cond.code y_Gw_entry b_Gw_entry 2 (some .int) :: gw_T
abbrev b_Gw_collect : ByteArray := prog_1_method_19_code
def y_Gw_collect : MethodName := ⟨R_Gw, "collect", "()I"⟩
abbrev w_Gw_collect : List Cond := Cond.code y_Gw_collect b_Gw_collect 1 (some .int) :: gw_T
abbrev b_Gw_every : ByteArray := prog_1_method_20_code
def y_Gw_every : MethodName := ⟨R_Gw, "every", "(I)I"⟩
abbrev w_Gw_every : List Cond := Cond.code y_Gw_every b_Gw_every 3 (some .int) :: gw_T
abbrev b_Gw_refuseMissingTerm : ByteArray := prog_1_method_21_code
def y_Gw_refuseMissingTerm : MethodName := ⟨R_Gw, "refuseMissingTerm", "(I)V"⟩
abbrev w_Gw_refuseMissingTerm : List Cond := Cond.code y_Gw_refuseMissingTerm b_Gw_refuseMissingTerm 2 none :: gw_T
abbrev b_Gw_refuseTermBeyondMost : ByteArray := prog_1_method_22_code
def y_Gw_refuseTermBeyondMost : MethodName := ⟨R_Gw, "refuseTermBeyondMost", "()V"⟩
abbrev w_Gw_refuseTermBeyondMost : List Cond := Cond.code y_Gw_refuseTermBeyondMost b_Gw_refuseTermBeyondMost 1 none :: gw_T
abbrev b_Gw_refuseMissingRun : ByteArray := prog_1_method_23_code
def y_Gw_refuseMissingRun : MethodName := ⟨R_Gw, "refuseMissingRun", "()V"⟩
abbrev w_Gw_refuseMissingRun : List Cond := Cond.code y_Gw_refuseMissingRun b_Gw_refuseMissingRun 1 none :: gw_T
abbrev b_Gw_refuseMissingThing : ByteArray := prog_1_method_24_code
def y_Gw_refuseMissingThing : MethodName := ⟨R_Gw, "refuseMissingThing", "(I)V"⟩
abbrev w_Gw_refuseMissingThing : List Cond := Cond.code y_Gw_refuseMissingThing b_Gw_refuseMissingThing 2 none :: gw_T
abbrev b_Mo_init : ByteArray := prog_9_method_1_code
def y_Mo_init : MethodName := ⟨R_Mo, "<init>", "()V"⟩
abbrev w_Mo_init : List Cond := Cond.code y_Mo_init b_Mo_init 1 none :: gw_T
abbrev b_Mo_thrown : ByteArray := prog_9_method_2_code
def y_Mo_thrown : MethodName := ⟨R_Mo, "thrown", "()I"⟩
abbrev w_Mo_thrown : List Cond := Cond.code y_Mo_thrown b_Mo_thrown 1 (some .int) :: gw_T
abbrev b_Mo_isTerm : ByteArray := prog_9_method_3_code
def y_Mo_isTerm : MethodName := ⟨R_Mo, "isTerm", "(I)Z"⟩
abbrev w_Mo_isTerm : List Cond := Cond.code y_Mo_isTerm b_Mo_isTerm 2 (some .boolean) :: gw_T
abbrev b_Mo_thrownBy : ByteArray := prog_9_method_4_code
def y_Mo_thrownBy : MethodName := ⟨R_Mo, "thrownBy", "(I)I"⟩
abbrev w_Mo_thrownBy : List Cond := Cond.code y_Mo_thrownBy b_Mo_thrownBy 2 (some .int) :: gw_T
abbrev b_Mo_term : ByteArray := prog_9_method_5_code
def y_Mo_term : MethodName := ⟨R_Mo, "term", "(IIII)I"⟩
abbrev w_Mo_term : List Cond := Cond.code y_Mo_term b_Mo_term 5 (some .int) :: gw_T
abbrev b_Mo_more : ByteArray := prog_9_method_6_code
def y_Mo_more : MethodName := ⟨R_Mo, "more", "(II)I"⟩
abbrev w_Mo_more : List Cond := Cond.code y_Mo_more b_Mo_more 2 (some .int) :: gw_T
abbrev b_Mo_lessOne : ByteArray := prog_9_method_7_code
def y_Mo_lessOne : MethodName := ⟨R_Mo, "lessOne", "(I)I"⟩
abbrev w_Mo_lessOne : List Cond := Cond.code y_Mo_lessOne b_Mo_lessOne 1 (some .int) :: gw_T
abbrev b_Mo_number : ByteArray := prog_9_method_8_code
def y_Mo_number : MethodName := ⟨R_Mo, "number", "(J)I"⟩
abbrev w_Mo_number : List Cond := Cond.code y_Mo_number b_Mo_number 4 (some .int) :: gw_T
abbrev b_Mo_variable : ByteArray := prog_9_method_9_code
def y_Mo_variable : MethodName := ⟨R_Mo, "variable", "(I)I"⟩
abbrev w_Mo_variable : List Cond := Cond.code y_Mo_variable b_Mo_variable 3 (some .int) :: gw_T
abbrev b_Mo_one : ByteArray := prog_9_method_10_code
def y_Mo_one : MethodName := ⟨R_Mo, "one", "(II)I"⟩
abbrev w_Mo_one : List Cond := Cond.code y_Mo_one b_Mo_one 4 (some .int) :: gw_T
abbrev b_Mo_two : ByteArray := prog_9_method_11_code
def y_Mo_two : MethodName := ⟨R_Mo, "two", "(III)I"⟩
abbrev w_Mo_two : List Cond := Cond.code y_Mo_two b_Mo_two 6 (some .int) :: gw_T
abbrev b_Mo_choose : ByteArray := prog_9_method_12_code
def y_Mo_choose : MethodName := ⟨R_Mo, "choose", "(III)I"⟩
abbrev w_Mo_choose : List Cond := Cond.code y_Mo_choose b_Mo_choose 5 (some .int) :: gw_T
abbrev b_Mo_lacks : ByteArray := prog_9_method_13_code
def y_Mo_lacks : MethodName := ⟨R_Mo, "lacks", "(I)I"⟩
abbrev w_Mo_lacks : List Cond := Cond.code y_Mo_lacks b_Mo_lacks 2 (some .int) :: gw_T
abbrev b_Mo_begin : ByteArray := prog_9_method_14_code
def y_Mo_begin : MethodName := ⟨R_Mo, "begin", "(IZ)V"⟩
abbrev w_Mo_begin : List Cond := Cond.code y_Mo_begin b_Mo_begin 3 none :: gw_T
abbrev b_Mo_atHand : ByteArray := prog_9_method_15_code
def y_Mo_atHand : MethodName := ⟨R_Mo, "atHand", "(II)V"⟩
abbrev w_Mo_atHand : List Cond := Cond.code y_Mo_atHand b_Mo_atHand 3 none :: gw_T
abbrev b_Mo_valueAtHand : ByteArray := prog_9_method_16_code
def y_Mo_valueAtHand : MethodName := ⟨R_Mo, "valueAtHand", "(IJII)V"⟩
abbrev w_Mo_valueAtHand : List Cond := Cond.code y_Mo_valueAtHand b_Mo_valueAtHand 6 none :: gw_T
abbrev b_Mo_run : ByteArray := prog_9_method_17_code
def y_Mo_run : MethodName := ⟨R_Mo, "run", "(I)I"⟩
abbrev w_Mo_run : List Cond := Cond.code y_Mo_run b_Mo_run 4 (some .int) :: gw_T
abbrev b_Mo_step : ByteArray := prog_9_method_18_code
def y_Mo_step : MethodName := ⟨R_Mo, "step", "()V"⟩
abbrev w_Mo_step : List Cond := Cond.code y_Mo_step b_Mo_step 1 none :: gw_T
abbrev b_Mo_need : ByteArray := prog_9_method_19_code
def y_Mo_need : MethodName := ⟨R_Mo, "need", "(IZ)V"⟩
abbrev w_Mo_need : List Cond := Cond.code y_Mo_need b_Mo_need 4 none :: gw_T
abbrev b_Mo_latestInWork : ByteArray := prog_9_method_20_code
def y_Mo_latestInWork : MethodName := ⟨R_Mo, "latestInWork", "()I"⟩
abbrev w_Mo_latestInWork : List Cond := Cond.code y_Mo_latestInWork b_Mo_latestInWork 2 (some .int) :: gw_T
abbrev b_Mo_push : ByteArray := prog_9_method_21_code
def y_Mo_push : MethodName := ⟨R_Mo, "push", "(IIIJ)V"⟩
abbrev w_Mo_push : List Cond := Cond.code y_Mo_push b_Mo_push 6 none :: gw_T
abbrev b_Mo_thingOfPlace : ByteArray := prog_9_method_22_code
def y_Mo_thingOfPlace : MethodName := ⟨R_Mo, "thingOfPlace", "(II)I"⟩
abbrev w_Mo_thingOfPlace : List Cond := Cond.code y_Mo_thingOfPlace b_Mo_thingOfPlace 5 (some .int) :: gw_T
abbrev b_Mo_isNew : ByteArray := prog_9_method_23_code
def y_Mo_isNew : MethodName := ⟨R_Mo, "isNew", "(I)Z"⟩
abbrev w_Mo_isNew : List Cond := Cond.code y_Mo_isNew b_Mo_isNew 2 (some .boolean) :: gw_T
abbrev b_Mo_thingOf : ByteArray := prog_9_method_24_code
def y_Mo_thingOf : MethodName := ⟨R_Mo, "thingOf", "(I)I"⟩
abbrev w_Mo_thingOf : List Cond := Cond.code y_Mo_thingOf b_Mo_thingOf 2 (some .int) :: gw_T
abbrev b_Mo_newThing : ByteArray := prog_9_method_25_code
def y_Mo_newThing : MethodName := ⟨R_Mo, "newThing", "(II)I"⟩
abbrev w_Mo_newThing : List Cond := Cond.code y_Mo_newThing b_Mo_newThing 3 (some .int) :: gw_T
abbrev b_Mo_newPlace : ByteArray := prog_9_method_26_code
def y_Mo_newPlace : MethodName := ⟨R_Mo, "newPlace", "(II)I"⟩
abbrev w_Mo_newPlace : List Cond := Cond.code y_Mo_newPlace b_Mo_newPlace 3 (some .int) :: gw_T
abbrev b_Mo_hasRoom : ByteArray := prog_9_method_27_code
def y_Mo_hasRoom : MethodName := ⟨R_Mo, "hasRoom", "(III)Z"⟩
abbrev w_Mo_hasRoom : List Cond := Cond.code y_Mo_hasRoom b_Mo_hasRoom 5 (some .boolean) :: gw_T
abbrev b_Mo_goOnWithTerm : ByteArray := prog_9_method_28_code
def y_Mo_goOnWithTerm : MethodName := ⟨R_Mo, "goOnWithTerm", "()V"⟩
abbrev w_Mo_goOnWithTerm : List Cond := Cond.code y_Mo_goOnWithTerm b_Mo_goOnWithTerm 5 none :: gw_T
abbrev b_Mo_goOnWithValue : ByteArray := prog_9_method_29_code
def y_Mo_goOnWithValue : MethodName := ⟨R_Mo, "goOnWithValue", "()V"⟩
abbrev w_Mo_goOnWithValue : List Cond := Cond.code y_Mo_goOnWithValue b_Mo_goOnWithValue 4 none :: gw_T
abbrev b_Mo_act : ByteArray := prog_9_method_30_code
def y_Mo_act : MethodName := ⟨R_Mo, "act", "(IJJ)V"⟩
abbrev w_Mo_act : List Cond := Cond.code y_Mo_act b_Mo_act 8 none :: gw_T
abbrev b_Mo_into : ByteArray := prog_9_method_31_code
def y_Mo_into : MethodName := ⟨R_Mo, "into", "(I)V"⟩
abbrev w_Mo_into : List Cond := Cond.code y_Mo_into b_Mo_into 2 none :: gw_T
abbrev b_Mo_outcome : ByteArray := prog_9_method_32_code
def y_Mo_outcome : MethodName := ⟨R_Mo, "outcome", "()I"⟩
abbrev w_Mo_outcome : List Cond := Cond.code y_Mo_outcome b_Mo_outcome 1 (some .int) :: gw_T
abbrev b_Mo_sort : ByteArray := prog_9_method_33_code
def y_Mo_sort : MethodName := ⟨R_Mo, "sort", "()I"⟩
abbrev w_Mo_sort : List Cond := Cond.code y_Mo_sort b_Mo_sort 1 (some .int) :: gw_T
abbrev b_Mo_value : ByteArray := prog_9_method_34_code
def y_Mo_value : MethodName := ⟨R_Mo, "value", "()J"⟩
abbrev w_Mo_value : List Cond := Cond.code y_Mo_value b_Mo_value 1 (some .long) :: gw_T
abbrev b_Mo_told : ByteArray := prog_9_method_35_code
def y_Mo_told : MethodName := ⟨R_Mo, "told", "(I)I"⟩
abbrev w_Mo_told : List Cond := Cond.code y_Mo_told b_Mo_told 2 (some .int) :: gw_T
abbrev b_Mo_isThing : ByteArray := prog_9_method_36_code
def y_Mo_isThing : MethodName := ⟨R_Mo, "isThing", "(I)Z"⟩
abbrev w_Mo_isThing : List Cond := Cond.code y_Mo_isThing b_Mo_isThing 2 (some .boolean) :: gw_T
abbrev b_Mo_thing : ByteArray := prog_9_method_37_code
def y_Mo_thing : MethodName := ⟨R_Mo, "thing", "(I)I"⟩
abbrev w_Mo_thing : List Cond := Cond.code y_Mo_thing b_Mo_thing 2 (some .int) :: gw_T
abbrev b_Mo_worked : ByteArray := prog_9_method_38_code
def y_Mo_worked : MethodName := ⟨R_Mo, "worked", "(II)I"⟩
abbrev w_Mo_worked : List Cond := Cond.code y_Mo_worked b_Mo_worked 3 (some .int) :: gw_T
abbrev b_Mo_ring : ByteArray := prog_9_method_39_code
def y_Mo_ring : MethodName := ⟨R_Mo, "ring", "(I)I"⟩
abbrev w_Mo_ring : List Cond := Cond.code y_Mo_ring b_Mo_ring 5 (some .int) :: gw_T
abbrev b_Mo_entry : ByteArray := prog_9_method_40_code
def y_Mo_entry : MethodName := ⟨R_Mo, "entry", "(I)I"⟩
abbrev w_Mo_entry : List Cond := Cond.code y_Mo_entry b_Mo_entry 2 (some .int) :: gw_T
abbrev b_Mo_reach : ByteArray := prog_9_method_41_code
def y_Mo_reach : MethodName := ⟨R_Mo, "reach", "(I)V"⟩
abbrev w_Mo_reach : List Cond := Cond.code y_Mo_reach b_Mo_reach 2 none :: gw_T
abbrev b_Mo_reachPlaces : ByteArray := prog_9_method_42_code
def y_Mo_reachPlaces : MethodName := ⟨R_Mo, "reachPlaces", "(I)V"⟩
abbrev w_Mo_reachPlaces : List Cond := Cond.code y_Mo_reachPlaces b_Mo_reachPlaces 3 none :: gw_T
abbrev b_Mo_reachValue : ByteArray := prog_9_method_43_code
def y_Mo_reachValue : MethodName := ⟨R_Mo, "reachValue", "(III)V"⟩
abbrev w_Mo_reachValue : List Cond := Cond.code y_Mo_reachValue b_Mo_reachValue 4 none :: gw_T
abbrev b_Mo_reachHand : ByteArray := prog_9_method_44_code
def y_Mo_reachHand : MethodName := ⟨R_Mo, "reachHand", "()V"⟩
abbrev w_Mo_reachHand : List Cond := Cond.code y_Mo_reachHand b_Mo_reachHand 2 none :: gw_T
abbrev b_Mo_sweep : ByteArray := prog_9_method_45_code
def y_Mo_sweep : MethodName := ⟨R_Mo, "sweep", "()I"⟩
abbrev w_Mo_sweep : List Cond := Cond.code y_Mo_sweep b_Mo_sweep 3 (some .int) :: gw_T
abbrev b_Mo_collect : ByteArray := prog_9_method_46_code
def y_Mo_collect : MethodName := ⟨R_Mo, "collect", "()I"⟩
abbrev w_Mo_collect : List Cond := Cond.code y_Mo_collect b_Mo_collect 1 (some .int) :: gw_T
abbrev b_Mo_every : ByteArray := prog_9_method_47_code
def y_Mo_every : MethodName := ⟨R_Mo, "every", "(I)I"⟩
abbrev w_Mo_every : List Cond := Cond.code y_Mo_every b_Mo_every 3 (some .int) :: gw_T
abbrev b_Pl_init : ByteArray := prog_2_method_1_code
def y_Pl_init : MethodName := ⟨R_Pl, "<init>", "()V"⟩
abbrev w_Pl_init : List Cond := Cond.code y_Pl_init b_Pl_init 1 none :: gw_T
abbrev b_Pl_clear : ByteArray := prog_2_method_2_code
def y_Pl_clear : MethodName := ⟨R_Pl, "clear", "()V"⟩
abbrev w_Pl_clear : List Cond := Cond.code y_Pl_clear b_Pl_clear 1 none :: gw_T
abbrev b_Pl_has : ByteArray := prog_2_method_3_code
def y_Pl_has : MethodName := ⟨R_Pl, "has", "(I)Z"⟩
abbrev w_Pl_has : List Cond := Cond.code y_Pl_has b_Pl_has 2 (some .boolean) :: gw_T
abbrev b_Pl_isFull : ByteArray := prog_2_method_4_code
def y_Pl_isFull : MethodName := ⟨R_Pl, "isFull", "()Z"⟩
abbrev w_Pl_isFull : List Cond := Cond.code y_Pl_isFull b_Pl_isFull 1 (some .boolean) :: gw_T
abbrev b_Pl_add : ByteArray := prog_2_method_5_code
def y_Pl_add : MethodName := ⟨R_Pl, "add", "(II)I"⟩
abbrev w_Pl_add : List Cond := Cond.code y_Pl_add b_Pl_add 4 (some .int) :: gw_T
abbrev b_Pl_heldBy : ByteArray := prog_2_method_6_code
def y_Pl_heldBy : MethodName := ⟨R_Pl, "heldBy", "(I)I"⟩
abbrev w_Pl_heldBy : List Cond := Cond.code y_Pl_heldBy b_Pl_heldBy 2 (some .int) :: gw_T
abbrev b_Pl_outerOf : ByteArray := prog_2_method_7_code
def y_Pl_outerOf : MethodName := ⟨R_Pl, "outerOf", "(I)I"⟩
abbrev w_Pl_outerOf : List Cond := Cond.code y_Pl_outerOf b_Pl_outerOf 2 (some .int) :: gw_T
abbrev b_Pl_thingAt : ByteArray := prog_2_method_8_code
def y_Pl_thingAt : MethodName := ⟨R_Pl, "thingAt", "(II)I"⟩
abbrev w_Pl_thingAt : List Cond := Cond.code y_Pl_thingAt b_Pl_thingAt 5 (some .int) :: gw_T
abbrev b_Pl_mark : ByteArray := prog_2_method_9_code
def y_Pl_mark : MethodName := ⟨R_Pl, "mark", "(II)Z"⟩
abbrev w_Pl_mark : List Cond := Cond.code y_Pl_mark b_Pl_mark 3 (some .boolean) :: gw_T
abbrev b_Ro_init : ByteArray := prog_3_method_1_code
def y_Ro_init : MethodName := ⟨R_Ro, "<init>", "()V"⟩
abbrev w_Ro_init : List Cond := Cond.code y_Ro_init b_Ro_init 1 none :: gw_T
abbrev b_Ro_clear : ByteArray := prog_3_method_2_code
def y_Ro_clear : MethodName := ⟨R_Ro, "clear", "()V"⟩
abbrev w_Ro_clear : List Cond := Cond.code y_Ro_clear b_Ro_clear 1 none :: gw_T
abbrev b_Ro_has : ByteArray := prog_3_method_3_code
def y_Ro_has : MethodName := ⟨R_Ro, "has", "(I)Z"⟩
abbrev w_Ro_has : List Cond := Cond.code y_Ro_has b_Ro_has 2 (some .boolean) :: gw_T
abbrev b_Ro_isFull : ByteArray := prog_3_method_4_code
def y_Ro_isFull : MethodName := ⟨R_Ro, "isFull", "()Z"⟩
abbrev w_Ro_isFull : List Cond := Cond.code y_Ro_isFull b_Ro_isFull 1 (some .boolean) :: gw_T
abbrev b_Ro_add : ByteArray := prog_3_method_5_code
def y_Ro_add : MethodName := ⟨R_Ro, "add", "(IIIJ)V"⟩
abbrev w_Ro_add : List Cond := Cond.code y_Ro_add b_Ro_add 7 none :: gw_T
abbrev b_Ro_drop : ByteArray := prog_3_method_6_code
def y_Ro_drop : MethodName := ⟨R_Ro, "drop", "()V"⟩
abbrev w_Ro_drop : List Cond := Cond.code y_Ro_drop b_Ro_drop 1 none :: gw_T
abbrev b_Ro_newest : ByteArray := prog_3_method_7_code
def y_Ro_newest : MethodName := ⟨R_Ro, "newest", "()I"⟩
abbrev w_Ro_newest : List Cond := Cond.code y_Ro_newest b_Ro_newest 1 (some .int) :: gw_T
abbrev b_Ro_kindOf : ByteArray := prog_3_method_8_code
def y_Ro_kindOf : MethodName := ⟨R_Ro, "kindOf", "(I)I"⟩
abbrev w_Ro_kindOf : List Cond := Cond.code y_Ro_kindOf b_Ro_kindOf 2 (some .int) :: gw_T
abbrev b_Ro_firstOf : ByteArray := prog_3_method_9_code
def y_Ro_firstOf : MethodName := ⟨R_Ro, "firstOf", "(I)I"⟩
abbrev w_Ro_firstOf : List Cond := Cond.code y_Ro_firstOf b_Ro_firstOf 2 (some .int) :: gw_T
abbrev b_Ro_secondOf : ByteArray := prog_3_method_10_code
def y_Ro_secondOf : MethodName := ⟨R_Ro, "secondOf", "(I)I"⟩
abbrev w_Ro_secondOf : List Cond := Cond.code y_Ro_secondOf b_Ro_secondOf 2 (some .int) :: gw_T
abbrev b_Ro_numberOf : ByteArray := prog_3_method_11_code
def y_Ro_numberOf : MethodName := ⟨R_Ro, "numberOf", "(I)J"⟩
abbrev w_Ro_numberOf : List Cond := Cond.code y_Ro_numberOf b_Ro_numberOf 2 (some .long) :: gw_T
abbrev b_Ro_newestInWork : ByteArray := prog_3_method_12_code
def y_Ro_newestInWork : MethodName := ⟨R_Ro, "newestInWork", "()I"⟩
abbrev w_Ro_newestInWork : List Cond := Cond.code y_Ro_newestInWork b_Ro_newestInWork 2 (some .int) :: gw_T
abbrev b_Te_init : ByteArray := prog_4_method_1_code
def y_Te_init : MethodName := ⟨R_Te, "<init>", "()V"⟩
abbrev w_Te_init : List Cond := Cond.code y_Te_init b_Te_init 1 none :: gw_T
abbrev b_Te_has : ByteArray := prog_4_method_2_code
def y_Te_has : MethodName := ⟨R_Te, "has", "(I)Z"⟩
abbrev w_Te_has : List Cond := Cond.code y_Te_has b_Te_has 2 (some .boolean) :: gw_T
abbrev b_Te_isFull : ByteArray := prog_4_method_3_code
def y_Te_isFull : MethodName := ⟨R_Te, "isFull", "()Z"⟩
abbrev w_Te_isFull : List Cond := Cond.code y_Te_isFull b_Te_isFull 1 (some .boolean) :: gw_T
abbrev b_Te_addNumber : ByteArray := prog_4_method_4_code
def y_Te_addNumber : MethodName := ⟨R_Te, "addNumber", "(J)I"⟩
abbrev w_Te_addNumber : List Cond := Cond.code y_Te_addNumber b_Te_addNumber 3 (some .int) :: gw_T
abbrev b_Te_addVariable : ByteArray := prog_4_method_5_code
def y_Te_addVariable : MethodName := ⟨R_Te, "addVariable", "(I)I"⟩
abbrev w_Te_addVariable : List Cond := Cond.code y_Te_addVariable b_Te_addVariable 2 (some .int) :: gw_T
abbrev b_Te_addOne : ByteArray := prog_4_method_6_code
def y_Te_addOne : MethodName := ⟨R_Te, "addOne", "(II)I"⟩
abbrev w_Te_addOne : List Cond := Cond.code y_Te_addOne b_Te_addOne 3 (some .int) :: gw_T
abbrev b_Te_addTwo : ByteArray := prog_4_method_7_code
def y_Te_addTwo : MethodName := ⟨R_Te, "addTwo", "(III)I"⟩
abbrev w_Te_addTwo : List Cond := Cond.code y_Te_addTwo b_Te_addTwo 5 (some .int) :: gw_T
abbrev b_Te_addChoose : ByteArray := prog_4_method_8_code
def y_Te_addChoose : MethodName := ⟨R_Te, "addChoose", "(III)I"⟩
abbrev w_Te_addChoose : List Cond := Cond.code y_Te_addChoose b_Te_addChoose 5 (some .int) :: gw_T
abbrev b_Te_oneLess : ByteArray := prog_4_method_9_code
def y_Te_oneLess : MethodName := ⟨R_Te, "oneLess", "(I)I"⟩
abbrev w_Te_oneLess : List Cond := Cond.code y_Te_oneLess b_Te_oneLess 1 (some .int) :: gw_T
abbrev b_Te_add : ByteArray := prog_4_method_10_code
def y_Te_add : MethodName := ⟨R_Te, "add", "(IIIIJI)I"⟩
abbrev w_Te_add : List Cond := Cond.code y_Te_add b_Te_add 9 (some .int) :: gw_T
abbrev b_Te_sortOf : ByteArray := prog_4_method_11_code
def y_Te_sortOf : MethodName := ⟨R_Te, "sortOf", "(I)I"⟩
abbrev w_Te_sortOf : List Cond := Cond.code y_Te_sortOf b_Te_sortOf 2 (some .int) :: gw_T
abbrev b_Te_firstOf : ByteArray := prog_4_method_12_code
def y_Te_firstOf : MethodName := ⟨R_Te, "firstOf", "(I)I"⟩
abbrev w_Te_firstOf : List Cond := Cond.code y_Te_firstOf b_Te_firstOf 2 (some .int) :: gw_T
abbrev b_Te_secondOf : ByteArray := prog_4_method_13_code
def y_Te_secondOf : MethodName := ⟨R_Te, "secondOf", "(I)I"⟩
abbrev w_Te_secondOf : List Cond := Cond.code y_Te_secondOf b_Te_secondOf 2 (some .int) :: gw_T
abbrev b_Te_thirdOf : ByteArray := prog_4_method_14_code
def y_Te_thirdOf : MethodName := ⟨R_Te, "thirdOf", "(I)I"⟩
abbrev w_Te_thirdOf : List Cond := Cond.code y_Te_thirdOf b_Te_thirdOf 2 (some .int) :: gw_T
abbrev b_Te_numberOf : ByteArray := prog_4_method_15_code
def y_Te_numberOf : MethodName := ⟨R_Te, "numberOf", "(I)J"⟩
abbrev w_Te_numberOf : List Cond := Cond.code y_Te_numberOf b_Te_numberOf 2 (some .long) :: gw_T
abbrev b_Te_lackOf : ByteArray := prog_4_method_16_code
def y_Te_lackOf : MethodName := ⟨R_Te, "lackOf", "(I)I"⟩
abbrev w_Te_lackOf : List Cond := Cond.code y_Te_lackOf b_Te_lackOf 2 (some .int) :: gw_T
abbrev b_Th_init : ByteArray := prog_5_method_1_code
def y_Th_init : MethodName := ⟨R_Th, "<init>", "()V"⟩
abbrev w_Th_init : List Cond := Cond.code y_Th_init b_Th_init 1 none :: gw_T
abbrev b_Th_clear : ByteArray := prog_5_method_2_code
def y_Th_clear : MethodName := ⟨R_Th, "clear", "()V"⟩
abbrev w_Th_clear : List Cond := Cond.code y_Th_clear b_Th_clear 1 none :: gw_T
abbrev b_Th_has : ByteArray := prog_5_method_3_code
def y_Th_has : MethodName := ⟨R_Th, "has", "(I)Z"⟩
abbrev w_Th_has : List Cond := Cond.code y_Th_has b_Th_has 2 (some .boolean) :: gw_T
abbrev b_Th_hasRoomFor : ByteArray := prog_5_method_4_code
def y_Th_hasRoomFor : MethodName := ⟨R_Th, "hasRoomFor", "(I)Z"⟩
abbrev w_Th_hasRoomFor : List Cond := Cond.code y_Th_hasRoomFor b_Th_hasRoomFor 2 (some .boolean) :: gw_T
abbrev b_Th_add : ByteArray := prog_5_method_5_code
def y_Th_add : MethodName := ⟨R_Th, "add", "(II)I"⟩
abbrev w_Th_add : List Cond := Cond.code y_Th_add b_Th_add 5 (some .int) :: gw_T
abbrev b_Th_stateOf : ByteArray := prog_5_method_6_code
def y_Th_stateOf : MethodName := ⟨R_Th, "stateOf", "(I)I"⟩
abbrev w_Th_stateOf : List Cond := Cond.code y_Th_stateOf b_Th_stateOf 2 (some .int) :: gw_T
abbrev b_Th_termOf : ByteArray := prog_5_method_7_code
def y_Th_termOf : MethodName := ⟨R_Th, "termOf", "(I)I"⟩
abbrev w_Th_termOf : List Cond := Cond.code y_Th_termOf b_Th_termOf 2 (some .int) :: gw_T
abbrev b_Th_placesOf : ByteArray := prog_5_method_8_code
def y_Th_placesOf : MethodName := ⟨R_Th, "placesOf", "(I)I"⟩
abbrev w_Th_placesOf : List Cond := Cond.code y_Th_placesOf b_Th_placesOf 2 (some .int) :: gw_T
abbrev b_Th_timesOf : ByteArray := prog_5_method_9_code
def y_Th_timesOf : MethodName := ⟨R_Th, "timesOf", "(I)I"⟩
abbrev w_Th_timesOf : List Cond := Cond.code y_Th_timesOf b_Th_timesOf 2 (some .int) :: gw_T
abbrev b_Th_neederOf : ByteArray := prog_5_method_10_code
def y_Th_neederOf : MethodName := ⟨R_Th, "neederOf", "(I)I"⟩
abbrev w_Th_neederOf : List Cond := Cond.code y_Th_neederOf b_Th_neederOf 2 (some .int) :: gw_T
abbrev b_Th_countWork : ByteArray := prog_5_method_11_code
def y_Th_countWork : MethodName := ⟨R_Th, "countWork", "(I)V"⟩
abbrev w_Th_countWork : List Cond := Cond.code y_Th_countWork b_Th_countWork 2 none :: gw_T
abbrev b_Th_putInWork : ByteArray := prog_5_method_12_code
def y_Th_putInWork : MethodName := ⟨R_Th, "putInWork", "(II)V"⟩
abbrev w_Th_putInWork : List Cond := Cond.code y_Th_putInWork b_Th_putInWork 3 none :: gw_T
abbrev b_Th_finish : ByteArray := prog_5_method_13_code
def y_Th_finish : MethodName := ⟨R_Th, "finish", "(ILGraphWalker$Value;)V"⟩
abbrev w_Th_finish : List Cond := Cond.code y_Th_finish b_Th_finish 3 none :: gw_T
abbrev b_Th_copyValue : ByteArray := prog_5_method_14_code
def y_Th_copyValue : MethodName := ⟨R_Th, "copyValue", "(ILGraphWalker$Value;)V"⟩
abbrev w_Th_copyValue : List Cond := Cond.code y_Th_copyValue b_Th_copyValue 3 none :: gw_T
abbrev b_Th_valueSortOf : ByteArray := prog_5_method_15_code
def y_Th_valueSortOf : MethodName := ⟨R_Th, "valueSortOf", "(I)I"⟩
abbrev w_Th_valueSortOf : List Cond := Cond.code y_Th_valueSortOf b_Th_valueSortOf 2 (some .int) :: gw_T
abbrev b_Th_valueFirstOf : ByteArray := prog_5_method_16_code
def y_Th_valueFirstOf : MethodName := ⟨R_Th, "valueFirstOf", "(I)I"⟩
abbrev w_Th_valueFirstOf : List Cond := Cond.code y_Th_valueFirstOf b_Th_valueFirstOf 2 (some .int) :: gw_T
abbrev b_Th_valueSecondOf : ByteArray := prog_5_method_17_code
def y_Th_valueSecondOf : MethodName := ⟨R_Th, "valueSecondOf", "(I)I"⟩
abbrev w_Th_valueSecondOf : List Cond := Cond.code y_Th_valueSecondOf b_Th_valueSecondOf 2 (some .int) :: gw_T
abbrev b_Th_forgetReached : ByteArray := prog_5_method_18_code
def y_Th_forgetReached : MethodName := ⟨R_Th, "forgetReached", "()V"⟩
abbrev w_Th_forgetReached : List Cond := Cond.code y_Th_forgetReached b_Th_forgetReached 1 none :: gw_T
abbrev b_Th_reach : ByteArray := prog_5_method_19_code
def y_Th_reach : MethodName := ⟨R_Th, "reach", "(II)V"⟩
abbrev w_Th_reach : List Cond := Cond.code y_Th_reach b_Th_reach 4 none :: gw_T
abbrev b_Th_reachedAt : ByteArray := prog_5_method_20_code
def y_Th_reachedAt : MethodName := ⟨R_Th, "reachedAt", "(I)I"⟩
abbrev w_Th_reachedAt : List Cond := Cond.code y_Th_reachedAt b_Th_reachedAt 2 (some .int) :: gw_T
abbrev b_Th_keepReached : ByteArray := prog_5_method_21_code
def y_Th_keepReached : MethodName := ⟨R_Th, "keepReached", "(I)I"⟩
abbrev w_Th_keepReached : List Cond := Cond.code y_Th_keepReached b_Th_keepReached 6 (some .int) :: gw_T
abbrev b_Va_init : ByteArray := prog_6_method_1_code
def y_Va_init : MethodName := ⟨R_Va, "<init>", "()V"⟩
abbrev w_Va_init : List Cond := Cond.code y_Va_init b_Va_init 1 none :: gw_T
abbrev b_Va_beNumber : ByteArray := prog_6_method_2_code
def y_Va_beNumber : MethodName := ⟨R_Va, "beNumber", "(J)V"⟩
abbrev w_Va_beNumber : List Cond := Cond.code y_Va_beNumber b_Va_beNumber 3 none :: gw_T
abbrev b_Va_beLambda : ByteArray := prog_6_method_3_code
def y_Va_beLambda : MethodName := ⟨R_Va, "beLambda", "(II)V"⟩
abbrev w_Va_beLambda : List Cond := Cond.code y_Va_beLambda b_Va_beLambda 3 none :: gw_T
abbrev b_Va_bePair : ByteArray := prog_6_method_4_code
def y_Va_bePair : MethodName := ⟨R_Va, "bePair", "(II)V"⟩
abbrev w_Va_bePair : List Cond := Cond.code y_Va_bePair b_Va_bePair 3 none :: gw_T
abbrev b_Va_be : ByteArray := prog_6_method_5_code
def y_Va_be : MethodName := ⟨R_Va, "be", "(IJII)V"⟩
abbrev w_Va_be : List Cond := Cond.code y_Va_be b_Va_be 6 none :: gw_T
abbrev b_Wa_init : ByteArray := prog_7_method_1_code
def y_Wa_init : MethodName := ⟨R_Wa, "<init>", "()V"⟩
abbrev w_Wa_init : List Cond := Cond.code y_Wa_init b_Wa_init 1 none :: gw_T
abbrev b_Wa_start : ByteArray := prog_7_method_2_code
def y_Wa_start : MethodName := ⟨R_Wa, "start", "(IZ)V"⟩
abbrev w_Wa_start : List Cond := Cond.code y_Wa_start b_Wa_start 3 none :: gw_T
abbrev b_Wa_turnTo : ByteArray := prog_7_method_3_code
def y_Wa_turnTo : MethodName := ⟨R_Wa, "turnTo", "(I)V"⟩
abbrev w_Wa_turnTo : List Cond := Cond.code y_Wa_turnTo b_Wa_turnTo 2 none :: gw_T
abbrev b_Wa_step : ByteArray := prog_7_method_4_code
def y_Wa_step : MethodName := ⟨R_Wa, "step", "()V"⟩
abbrev w_Wa_step : List Cond := Cond.code y_Wa_step b_Wa_step 1 none :: gw_T
abbrev b_Wa_tally : ByteArray := prog_7_method_5_code
def y_Wa_tally : MethodName := ⟨R_Wa, "tally", "(I)I"⟩
abbrev w_Wa_tally : List Cond := Cond.code y_Wa_tally b_Wa_tally 2 (some .int) :: gw_T
abbrev b_Wa_ringThing : ByteArray := prog_7_method_6_code
def y_Wa_ringThing : MethodName := ⟨R_Wa, "ringThing", "(I)I"⟩
abbrev w_Wa_ringThing : List Cond := Cond.code y_Wa_ringThing b_Wa_ringThing 5 (some .int) :: gw_T
abbrev b_Wa_takeTerm : ByteArray := prog_7_method_7_code
def y_Wa_takeTerm : MethodName := ⟨R_Wa, "takeTerm", "(II)V"⟩
abbrev w_Wa_takeTerm : List Cond := Cond.code y_Wa_takeTerm b_Wa_takeTerm 3 none :: gw_T
abbrev b_Wa_stepWithTerm : ByteArray := prog_7_method_8_code
def y_Wa_stepWithTerm : MethodName := ⟨R_Wa, "stepWithTerm", "()V"⟩
abbrev w_Wa_stepWithTerm : List Cond := Cond.code y_Wa_stepWithTerm b_Wa_stepWithTerm 1 none :: gw_T
abbrev b_Wa_newThingsFor : ByteArray := prog_7_method_9_code
def y_Wa_newThingsFor : MethodName := ⟨R_Wa, "newThingsFor", "(I)I"⟩
abbrev w_Wa_newThingsFor : List Cond := Cond.code y_Wa_newThingsFor b_Wa_newThingsFor 2 (some .int) :: gw_T
abbrev b_Wa_thingFor : ByteArray := prog_7_method_10_code
def y_Wa_thingFor : MethodName := ⟨R_Wa, "thingFor", "(I)I"⟩
abbrev w_Wa_thingFor : List Cond := Cond.code y_Wa_thingFor b_Wa_thingFor 2 (some .int) :: gw_T
abbrev b_Wa_makePair : ByteArray := prog_7_method_11_code
def y_Wa_makePair : MethodName := ⟨R_Wa, "makePair", "(II)V"⟩
abbrev w_Wa_makePair : List Cond := Cond.code y_Wa_makePair b_Wa_makePair 5 none :: gw_T
abbrev b_Wa_enterApply : ByteArray := prog_7_method_12_code
def y_Wa_enterApply : MethodName := ⟨R_Wa, "enterApply", "(I)V"⟩
abbrev w_Wa_enterApply : List Cond := Cond.code y_Wa_enterApply b_Wa_enterApply 2 none :: gw_T
abbrev b_Wa_enterLet : ByteArray := prog_7_method_13_code
def y_Wa_enterLet : MethodName := ⟨R_Wa, "enterLet", "(II)V"⟩
abbrev w_Wa_enterLet : List Cond := Cond.code y_Wa_enterLet b_Wa_enterLet 4 none :: gw_T
abbrev b_Wa_enter : ByteArray := prog_7_method_14_code
def y_Wa_enter : MethodName := ⟨R_Wa, "enter", "(I)V"⟩
abbrev w_Wa_enter : List Cond := Cond.code y_Wa_enter b_Wa_enter 2 none :: gw_T
abbrev b_Wa_need : ByteArray := prog_7_method_15_code
def y_Wa_need : MethodName := ⟨R_Wa, "need", "(IZ)V"⟩
abbrev w_Wa_need : List Cond := Cond.code y_Wa_need b_Wa_need 3 none :: gw_T
abbrev b_Wa_needWaiting : ByteArray := prog_7_method_16_code
def y_Wa_needWaiting : MethodName := ⟨R_Wa, "needWaiting", "(IZ)V"⟩
abbrev w_Wa_needWaiting : List Cond := Cond.code y_Wa_needWaiting b_Wa_needWaiting 3 none :: gw_T
abbrev b_Wa_stepWithValue : ByteArray := prog_7_method_17_code
def y_Wa_stepWithValue : MethodName := ⟨R_Wa, "stepWithValue", "()V"⟩
abbrev w_Wa_stepWithValue : List Cond := Cond.code y_Wa_stepWithValue b_Wa_stepWithValue 2 none :: gw_T
abbrev b_Wa_giveThing : ByteArray := prog_7_method_18_code
def y_Wa_giveThing : MethodName := ⟨R_Wa, "giveThing", "(I)V"⟩
abbrev w_Wa_giveThing : List Cond := Cond.code y_Wa_giveThing b_Wa_giveThing 2 none :: gw_T
abbrev b_Wa_thenSecond : ByteArray := prog_7_method_19_code
def y_Wa_thenSecond : MethodName := ⟨R_Wa, "thenSecond", "(II)V"⟩
abbrev w_Wa_thenSecond : List Cond := Cond.code y_Wa_thenSecond b_Wa_thenSecond 3 none :: gw_T
abbrev b_Wa_actWith : ByteArray := prog_7_method_20_code
def y_Wa_actWith : MethodName := ⟨R_Wa, "actWith", "(IJ)V"⟩
abbrev w_Wa_actWith : List Cond := Cond.code y_Wa_actWith b_Wa_actWith 4 none :: gw_T
abbrev b_Wa_resultOf : ByteArray := prog_7_method_21_code
def y_Wa_resultOf : MethodName := ⟨R_Wa, "resultOf", "(IJJ)J"⟩
abbrev w_Wa_resultOf : List Cond := Cond.code y_Wa_resultOf b_Wa_resultOf 5 (some .long) :: gw_T
abbrev b_Wa_chooseBranch : ByteArray := prog_7_method_22_code
def y_Wa_chooseBranch : MethodName := ⟨R_Wa, "chooseBranch", "(II)V"⟩
abbrev w_Wa_chooseBranch : List Cond := Cond.code y_Wa_chooseBranch b_Wa_chooseBranch 4 none :: gw_T
abbrev b_Wa_takeOfPair : ByteArray := prog_7_method_23_code
def y_Wa_takeOfPair : MethodName := ⟨R_Wa, "takeOfPair", "(I)V"⟩
abbrev w_Wa_takeOfPair : List Cond := Cond.code y_Wa_takeOfPair b_Wa_takeOfPair 2 none :: gw_T
abbrev b_Wa_sweepUnreached : ByteArray := prog_7_method_24_code
def y_Wa_sweepUnreached : MethodName := ⟨R_Wa, "sweepUnreached", "()I"⟩
abbrev w_Wa_sweepUnreached : List Cond := Cond.code y_Wa_sweepUnreached b_Wa_sweepUnreached 2 (some .int) :: gw_T
abbrev b_Wa_reachFromHand : ByteArray := prog_7_method_25_code
def y_Wa_reachFromHand : MethodName := ⟨R_Wa, "reachFromHand", "()V"⟩
abbrev w_Wa_reachFromHand : List Cond := Cond.code y_Wa_reachFromHand b_Wa_reachFromHand 1 none :: gw_T
abbrev b_Wa_reachFromRow : ByteArray := prog_7_method_26_code
def y_Wa_reachFromRow : MethodName := ⟨R_Wa, "reachFromRow", "()V"⟩
abbrev w_Wa_reachFromRow : List Cond := Cond.code y_Wa_reachFromRow b_Wa_reachFromRow 2 none :: gw_T
abbrev b_Wa_reachFromThing : ByteArray := prog_7_method_27_code
def y_Wa_reachFromThing : MethodName := ⟨R_Wa, "reachFromThing", "(I)V"⟩
abbrev w_Wa_reachFromThing : List Cond := Cond.code y_Wa_reachFromThing b_Wa_reachFromThing 3 none :: gw_T
abbrev b_Wa_reachOfValue : ByteArray := prog_7_method_28_code
def y_Wa_reachOfValue : MethodName := ⟨R_Wa, "reachOfValue", "(III)V"⟩
abbrev w_Wa_reachOfValue : List Cond := Cond.code y_Wa_reachOfValue b_Wa_reachOfValue 4 none :: gw_T
abbrev b_Wa_reachPlaces : ByteArray := prog_7_method_29_code
def y_Wa_reachPlaces : MethodName := ⟨R_Wa, "reachPlaces", "(I)V"⟩
abbrev w_Wa_reachPlaces : List Cond := Cond.code y_Wa_reachPlaces b_Wa_reachPlaces 4 none :: gw_T
abbrev b_La_number : ByteArray := method_3_code
def y_La_number : MethodName := ⟨R_La, "number", "(LGraphWalker;J[J)I"⟩
abbrev b_La_variable : ByteArray := method_4_code
def y_La_variable : MethodName := ⟨R_La, "variable", "(LGraphWalker;I[J)I"⟩
abbrev b_La_one : ByteArray := method_5_code
def y_La_one : MethodName := ⟨R_La, "one", "(LGraphWalker;II[J)I"⟩
abbrev b_La_two : ByteArray := method_6_code
def y_La_two : MethodName := ⟨R_La, "two", "(LGraphWalker;III[J)I"⟩
abbrev b_La_choose : ByteArray := method_7_code
def y_La_choose : MethodName := ⟨R_La, "choose", "(LGraphWalker;III[J)I"⟩
abbrev b_La_lacks : ByteArray := method_8_code
def y_La_lacks : MethodName := ⟨R_La, "lacks", "(LGraphWalker;I[J)I"⟩
abbrev b_La_begin : ByteArray := method_9_code
def y_La_begin : MethodName := ⟨R_La, "begin", "(LGraphWalker;IZ)I"⟩
abbrev b_La_run : ByteArray := method_10_code
def y_La_run : MethodName := ⟨R_La, "run", "(LGraphWalker;I[J)I"⟩
abbrev b_La_into : ByteArray := method_11_code
def y_La_into : MethodName := ⟨R_La, "into", "(LGraphWalker;I)I"⟩
abbrev b_La_told : ByteArray := method_12_code
def y_La_told : MethodName := ⟨R_La, "told", "(LGraphWalker;I[J)I"⟩
abbrev b_La_thing : ByteArray := method_13_code
def y_La_thing : MethodName := ⟨R_La, "thing", "(LGraphWalker;I[J)I"⟩
abbrev b_La_worked : ByteArray := method_14_code
def y_La_worked : MethodName := ⟨R_La, "worked", "(LGraphWalker;II[J)I"⟩
abbrev b_La_ring : ByteArray := method_15_code
def y_La_ring : MethodName := ⟨R_La, "ring", "(LGraphWalker;I[J)I"⟩
abbrev b_La_entry : ByteArray := method_16_code
def y_La_entry : MethodName := ⟨R_La, "entry", "(LGraphWalker;I[J)I"⟩
abbrev b_La_collect : ByteArray := method_17_code
def y_La_collect : MethodName := ⟨R_La, "collect", "(LGraphWalker;[J)I"⟩
abbrev b_La_every : ByteArray := method_18_code
def y_La_every : MethodName := ⟨R_La, "every", "(LGraphWalker;I[J)I"⟩
theorem tb_2 : (Jvm.Cond.initialized "GraphWalker$Walk") ∈ gw_all := List.mem_filter.mpr ⟨List.mem_append_right _ (List.mem_of_getElem? (i := 2) (by decide +kernel)), rfl⟩
theorem tb_3 : (Jvm.Cond.initialized "GraphWalker$Terms") ∈ gw_all := List.mem_filter.mpr ⟨List.mem_append_right _ (List.mem_of_getElem? (i := 3) (by decide +kernel)), rfl⟩
theorem tb_4 : (Jvm.Cond.initialized "GraphWalker$Places") ∈ gw_all := List.mem_filter.mpr ⟨List.mem_append_right _ (List.mem_of_getElem? (i := 4) (by decide +kernel)), rfl⟩
theorem tb_5 : (Jvm.Cond.initialized "GraphWalker$Things") ∈ gw_all := List.mem_filter.mpr ⟨List.mem_append_right _ (List.mem_of_getElem? (i := 5) (by decide +kernel)), rfl⟩
theorem tb_6 : (Jvm.Cond.initialized "GraphWalker$Row") ∈ gw_all := List.mem_filter.mpr ⟨List.mem_append_right _ (List.mem_of_getElem? (i := 6) (by decide +kernel)), rfl⟩
theorem tb_7 : (Jvm.Cond.initialized "GraphWalker$Value") ∈ gw_all := List.mem_filter.mpr ⟨List.mem_append_right _ (List.mem_of_getElem? (i := 7) (by decide +kernel)), rfl⟩
theorem tb_8 : (Jvm.Cond.initialized "GraphWalkerModel") ∈ gw_all := List.mem_filter.mpr ⟨List.mem_append_right _ (List.mem_of_getElem? (i := 8) (by decide +kernel)), rfl⟩
theorem tb_15 : (Jvm.Cond.initialized "java/lang/Math") ∈ gw_all := List.mem_filter.mpr ⟨List.mem_append_right _ (List.mem_of_getElem? (i := 15) (by decide +kernel)), rfl⟩
theorem tb_36 : (Jvm.Cond.fieldLink "GraphWalker$Terms" (9 : Nat) "GraphWalker$Terms" "sorts" "[I") ∈ gw_all := List.mem_filter.mpr ⟨List.mem_append_right _ (List.mem_of_getElem? (i := 36) (by decide +kernel)), rfl⟩
theorem tb_37 : (Jvm.Cond.fieldLink "GraphWalker$Terms" (15 : Nat) "GraphWalker$Terms" "firsts" "[I") ∈ gw_all := List.mem_filter.mpr ⟨List.mem_append_right _ (List.mem_of_getElem? (i := 37) (by decide +kernel)), rfl⟩
theorem tb_38 : (Jvm.Cond.fieldLink "GraphWalker$Terms" (18 : Nat) "GraphWalker$Terms" "seconds" "[I") ∈ gw_all := List.mem_filter.mpr ⟨List.mem_append_right _ (List.mem_of_getElem? (i := 38) (by decide +kernel)), rfl⟩
theorem tb_39 : (Jvm.Cond.fieldLink "GraphWalker$Terms" (21 : Nat) "GraphWalker$Terms" "thirds" "[I") ∈ gw_all := List.mem_filter.mpr ⟨List.mem_append_right _ (List.mem_of_getElem? (i := 39) (by decide +kernel)), rfl⟩
theorem tb_40 : (Jvm.Cond.fieldLink "GraphWalker$Terms" (24 : Nat) "GraphWalker$Terms" "numbers" "[J") ∈ gw_all := List.mem_filter.mpr ⟨List.mem_append_right _ (List.mem_of_getElem? (i := 40) (by decide +kernel)), rfl⟩
theorem tb_41 : (Jvm.Cond.fieldLink "GraphWalker$Terms" (28 : Nat) "GraphWalker$Terms" "lacking" "[I") ∈ gw_all := List.mem_filter.mpr ⟨List.mem_append_right _ (List.mem_of_getElem? (i := 41) (by decide +kernel)), rfl⟩
theorem tb_42 : (Jvm.Cond.fieldLink "GraphWalker$Terms" (31 : Nat) "GraphWalker$Terms" "count" "I") ∈ gw_all := List.mem_filter.mpr ⟨List.mem_append_right _ (List.mem_of_getElem? (i := 42) (by decide +kernel)), rfl⟩
theorem tb_66 : (Jvm.Cond.fieldLink "GraphWalker$Places" (9 : Nat) "GraphWalker$Places" "held" "[I") ∈ gw_all := List.mem_filter.mpr ⟨List.mem_append_right _ (List.mem_of_getElem? (i := 66) (by decide +kernel)), rfl⟩
theorem tb_67 : (Jvm.Cond.fieldLink "GraphWalker$Places" (15 : Nat) "GraphWalker$Places" "outers" "[I") ∈ gw_all := List.mem_filter.mpr ⟨List.mem_append_right _ (List.mem_of_getElem? (i := 67) (by decide +kernel)), rfl⟩
theorem tb_68 : (Jvm.Cond.fieldLink "GraphWalker$Places" (18 : Nat) "GraphWalker$Places" "marks" "[I") ∈ gw_all := List.mem_filter.mpr ⟨List.mem_append_right _ (List.mem_of_getElem? (i := 68) (by decide +kernel)), rfl⟩
theorem tb_69 : (Jvm.Cond.fieldLink "GraphWalker$Places" (21 : Nat) "GraphWalker$Places" "made" "I") ∈ gw_all := List.mem_filter.mpr ⟨List.mem_append_right _ (List.mem_of_getElem? (i := 69) (by decide +kernel)), rfl⟩
theorem tb_70 : (Jvm.Cond.fieldLinkNest "GraphWalker$Walk" (123 : Nat) "GraphWalker$Places" "made" "I" "GraphWalker") ∈ gw_all := List.mem_filter.mpr ⟨List.mem_append_right _ (List.mem_of_getElem? (i := 70) (by decide +kernel)), rfl⟩
theorem tb_86 : (Jvm.Cond.fieldLink "GraphWalker$Things" (9 : Nat) "GraphWalker$Things" "states" "[I") ∈ gw_all := List.mem_filter.mpr ⟨List.mem_append_right _ (List.mem_of_getElem? (i := 86) (by decide +kernel)), rfl⟩
theorem tb_87 : (Jvm.Cond.fieldLink "GraphWalker$Things" (15 : Nat) "GraphWalker$Things" "terms" "[I") ∈ gw_all := List.mem_filter.mpr ⟨List.mem_append_right _ (List.mem_of_getElem? (i := 87) (by decide +kernel)), rfl⟩
theorem tb_88 : (Jvm.Cond.fieldLink "GraphWalker$Things" (18 : Nat) "GraphWalker$Things" "places" "[I") ∈ gw_all := List.mem_filter.mpr ⟨List.mem_append_right _ (List.mem_of_getElem? (i := 88) (by decide +kernel)), rfl⟩
theorem tb_89 : (Jvm.Cond.fieldLink "GraphWalker$Things" (21 : Nat) "GraphWalker$Things" "times" "[I") ∈ gw_all := List.mem_filter.mpr ⟨List.mem_append_right _ (List.mem_of_getElem? (i := 89) (by decide +kernel)), rfl⟩
theorem tb_90 : (Jvm.Cond.fieldLink "GraphWalker$Things" (24 : Nat) "GraphWalker$Things" "needers" "[I") ∈ gw_all := List.mem_filter.mpr ⟨List.mem_append_right _ (List.mem_of_getElem? (i := 90) (by decide +kernel)), rfl⟩
theorem tb_91 : (Jvm.Cond.fieldLink "GraphWalker$Things" (27 : Nat) "GraphWalker$Things" "valueSorts" "[I") ∈ gw_all := List.mem_filter.mpr ⟨List.mem_append_right _ (List.mem_of_getElem? (i := 91) (by decide +kernel)), rfl⟩
theorem tb_92 : (Jvm.Cond.fieldLink "GraphWalker$Things" (30 : Nat) "GraphWalker$Things" "valueNumbers" "[J") ∈ gw_all := List.mem_filter.mpr ⟨List.mem_append_right _ (List.mem_of_getElem? (i := 92) (by decide +kernel)), rfl⟩
theorem tb_93 : (Jvm.Cond.fieldLink "GraphWalker$Things" (34 : Nat) "GraphWalker$Things" "valueFirsts" "[I") ∈ gw_all := List.mem_filter.mpr ⟨List.mem_append_right _ (List.mem_of_getElem? (i := 93) (by decide +kernel)), rfl⟩
theorem tb_94 : (Jvm.Cond.fieldLink "GraphWalker$Things" (37 : Nat) "GraphWalker$Things" "valueSeconds" "[I") ∈ gw_all := List.mem_filter.mpr ⟨List.mem_append_right _ (List.mem_of_getElem? (i := 94) (by decide +kernel)), rfl⟩
theorem tb_95 : (Jvm.Cond.fieldLink "GraphWalker$Things" (40 : Nat) "GraphWalker$Things" "marks" "[I") ∈ gw_all := List.mem_filter.mpr ⟨List.mem_append_right _ (List.mem_of_getElem? (i := 95) (by decide +kernel)), rfl⟩
theorem tb_96 : (Jvm.Cond.fieldLink "GraphWalker$Things" (43 : Nat) "GraphWalker$Things" "there" "[I") ∈ gw_all := List.mem_filter.mpr ⟨List.mem_append_right _ (List.mem_of_getElem? (i := 96) (by decide +kernel)), rfl⟩
theorem tb_97 : (Jvm.Cond.fieldLink "GraphWalker$Things" (46 : Nat) "GraphWalker$Things" "reached" "[I") ∈ gw_all := List.mem_filter.mpr ⟨List.mem_append_right _ (List.mem_of_getElem? (i := 97) (by decide +kernel)), rfl⟩
theorem tb_98 : (Jvm.Cond.fieldLink "GraphWalker$Things" (49 : Nat) "GraphWalker$Things" "made" "I") ∈ gw_all := List.mem_filter.mpr ⟨List.mem_append_right _ (List.mem_of_getElem? (i := 98) (by decide +kernel)), rfl⟩
theorem tb_99 : (Jvm.Cond.fieldLinkNest "GraphWalker$Walk" (114 : Nat) "GraphWalker$Things" "made" "I" "GraphWalker") ∈ gw_all := List.mem_filter.mpr ⟨List.mem_append_right _ (List.mem_of_getElem? (i := 99) (by decide +kernel)), rfl⟩
theorem tb_100 : (Jvm.Cond.fieldLink "GraphWalker$Things" (53 : Nat) "GraphWalker$Things" "thereCount" "I") ∈ gw_all := List.mem_filter.mpr ⟨List.mem_append_right _ (List.mem_of_getElem? (i := 100) (by decide +kernel)), rfl⟩
theorem tb_101 : (Jvm.Cond.fieldLinkNest "GraphWalker$Walk" (117 : Nat) "GraphWalker$Things" "thereCount" "I" "GraphWalker") ∈ gw_all := List.mem_filter.mpr ⟨List.mem_append_right _ (List.mem_of_getElem? (i := 101) (by decide +kernel)), rfl⟩
theorem tb_102 : (Jvm.Cond.fieldLink "GraphWalker$Things" (56 : Nat) "GraphWalker$Things" "reachedCount" "I") ∈ gw_all := List.mem_filter.mpr ⟨List.mem_append_right _ (List.mem_of_getElem? (i := 102) (by decide +kernel)), rfl⟩
theorem tb_103 : (Jvm.Cond.fieldLinkNest "GraphWalker$Walk" (268 : Nat) "GraphWalker$Things" "reachedCount" "I" "GraphWalker") ∈ gw_all := List.mem_filter.mpr ⟨List.mem_append_right _ (List.mem_of_getElem? (i := 103) (by decide +kernel)), rfl⟩
theorem tb_141 : (Jvm.Cond.fieldLink "GraphWalker$Row" (9 : Nat) "GraphWalker$Row" "kinds" "[I") ∈ gw_all := List.mem_filter.mpr ⟨List.mem_append_right _ (List.mem_of_getElem? (i := 141) (by decide +kernel)), rfl⟩
theorem tb_142 : (Jvm.Cond.fieldLink "GraphWalker$Row" (15 : Nat) "GraphWalker$Row" "firsts" "[I") ∈ gw_all := List.mem_filter.mpr ⟨List.mem_append_right _ (List.mem_of_getElem? (i := 142) (by decide +kernel)), rfl⟩
theorem tb_143 : (Jvm.Cond.fieldLink "GraphWalker$Row" (18 : Nat) "GraphWalker$Row" "seconds" "[I") ∈ gw_all := List.mem_filter.mpr ⟨List.mem_append_right _ (List.mem_of_getElem? (i := 143) (by decide +kernel)), rfl⟩
theorem tb_144 : (Jvm.Cond.fieldLink "GraphWalker$Row" (21 : Nat) "GraphWalker$Row" "numbers" "[J") ∈ gw_all := List.mem_filter.mpr ⟨List.mem_append_right _ (List.mem_of_getElem? (i := 144) (by decide +kernel)), rfl⟩
theorem tb_145 : (Jvm.Cond.fieldLink "GraphWalker$Row" (25 : Nat) "GraphWalker$Row" "length" "I") ∈ gw_all := List.mem_filter.mpr ⟨List.mem_append_right _ (List.mem_of_getElem? (i := 145) (by decide +kernel)), rfl⟩
theorem tb_146 : (Jvm.Cond.fieldLinkNest "GraphWalker$Walk" (111 : Nat) "GraphWalker$Row" "length" "I" "GraphWalker") ∈ gw_all := List.mem_filter.mpr ⟨List.mem_append_right _ (List.mem_of_getElem? (i := 146) (by decide +kernel)), rfl⟩
theorem tb_147 : (Jvm.Cond.fieldLink "GraphWalker$Row" (29 : Nat) "GraphWalker$Row" "greatest" "I") ∈ gw_all := List.mem_filter.mpr ⟨List.mem_append_right _ (List.mem_of_getElem? (i := 147) (by decide +kernel)), rfl⟩
theorem tb_148 : (Jvm.Cond.fieldLinkNest "GraphWalker$Walk" (120 : Nat) "GraphWalker$Row" "greatest" "I" "GraphWalker") ∈ gw_all := List.mem_filter.mpr ⟨List.mem_append_right _ (List.mem_of_getElem? (i := 148) (by decide +kernel)), rfl⟩
theorem tb_168 : (Jvm.Cond.fieldLink "GraphWalker$Value" (9 : Nat) "GraphWalker$Value" "sort" "I") ∈ gw_all := List.mem_filter.mpr ⟨List.mem_append_right _ (List.mem_of_getElem? (i := 168) (by decide +kernel)), rfl⟩
theorem tb_169 : (Jvm.Cond.fieldLinkNest "GraphWalker" (87 : Nat) "GraphWalker$Value" "sort" "I" "GraphWalker") ∈ gw_all := List.mem_filter.mpr ⟨List.mem_append_right _ (List.mem_of_getElem? (i := 169) (by decide +kernel)), rfl⟩
theorem tb_170 : (Jvm.Cond.fieldLinkNest "GraphWalker$Things" (63 : Nat) "GraphWalker$Value" "sort" "I" "GraphWalker") ∈ gw_all := List.mem_filter.mpr ⟨List.mem_append_right _ (List.mem_of_getElem? (i := 170) (by decide +kernel)), rfl⟩
theorem tb_171 : (Jvm.Cond.fieldLinkNest "GraphWalker$Walk" (248 : Nat) "GraphWalker$Value" "sort" "I" "GraphWalker") ∈ gw_all := List.mem_filter.mpr ⟨List.mem_append_right _ (List.mem_of_getElem? (i := 171) (by decide +kernel)), rfl⟩
theorem tb_172 : (Jvm.Cond.fieldLink "GraphWalker$Value" (15 : Nat) "GraphWalker$Value" "number" "J") ∈ gw_all := List.mem_filter.mpr ⟨List.mem_append_right _ (List.mem_of_getElem? (i := 172) (by decide +kernel)), rfl⟩
theorem tb_173 : (Jvm.Cond.fieldLinkNest "GraphWalker" (105 : Nat) "GraphWalker$Value" "number" "J" "GraphWalker") ∈ gw_all := List.mem_filter.mpr ⟨List.mem_append_right _ (List.mem_of_getElem? (i := 173) (by decide +kernel)), rfl⟩
theorem tb_174 : (Jvm.Cond.fieldLinkNest "GraphWalker$Things" (68 : Nat) "GraphWalker$Value" "number" "J" "GraphWalker") ∈ gw_all := List.mem_filter.mpr ⟨List.mem_append_right _ (List.mem_of_getElem? (i := 174) (by decide +kernel)), rfl⟩
theorem tb_175 : (Jvm.Cond.fieldLinkNest "GraphWalker$Walk" (251 : Nat) "GraphWalker$Value" "number" "J" "GraphWalker") ∈ gw_all := List.mem_filter.mpr ⟨List.mem_append_right _ (List.mem_of_getElem? (i := 175) (by decide +kernel)), rfl⟩
theorem tb_176 : (Jvm.Cond.fieldLink "GraphWalker$Value" (19 : Nat) "GraphWalker$Value" "first" "I") ∈ gw_all := List.mem_filter.mpr ⟨List.mem_append_right _ (List.mem_of_getElem? (i := 176) (by decide +kernel)), rfl⟩
theorem tb_178 : (Jvm.Cond.fieldLinkNest "GraphWalker$Things" (72 : Nat) "GraphWalker$Value" "first" "I" "GraphWalker") ∈ gw_all := List.mem_filter.mpr ⟨List.mem_append_right _ (List.mem_of_getElem? (i := 178) (by decide +kernel)), rfl⟩
theorem tb_179 : (Jvm.Cond.fieldLinkNest "GraphWalker$Walk" (239 : Nat) "GraphWalker$Value" "first" "I" "GraphWalker") ∈ gw_all := List.mem_filter.mpr ⟨List.mem_append_right _ (List.mem_of_getElem? (i := 179) (by decide +kernel)), rfl⟩
theorem tb_180 : (Jvm.Cond.fieldLink "GraphWalker$Value" (22 : Nat) "GraphWalker$Value" "second" "I") ∈ gw_all := List.mem_filter.mpr ⟨List.mem_append_right _ (List.mem_of_getElem? (i := 180) (by decide +kernel)), rfl⟩
theorem tb_182 : (Jvm.Cond.fieldLinkNest "GraphWalker$Things" (75 : Nat) "GraphWalker$Value" "second" "I" "GraphWalker") ∈ gw_all := List.mem_filter.mpr ⟨List.mem_append_right _ (List.mem_of_getElem? (i := 182) (by decide +kernel)), rfl⟩
theorem tb_183 : (Jvm.Cond.fieldLinkNest "GraphWalker$Walk" (245 : Nat) "GraphWalker$Value" "second" "I" "GraphWalker") ∈ gw_all := List.mem_filter.mpr ⟨List.mem_append_right _ (List.mem_of_getElem? (i := 183) (by decide +kernel)), rfl⟩
theorem tb_193 : (Jvm.Cond.fieldLink "GraphWalker$Walk" (12 : Nat) "GraphWalker$Walk" "terms" "LGraphWalker$Terms;") ∈ gw_all := List.mem_filter.mpr ⟨List.mem_append_right _ (List.mem_of_getElem? (i := 193) (by decide +kernel)), rfl⟩
theorem tb_195 : (Jvm.Cond.fieldLink "GraphWalker$Walk" (21 : Nat) "GraphWalker$Walk" "places" "LGraphWalker$Places;") ∈ gw_all := List.mem_filter.mpr ⟨List.mem_append_right _ (List.mem_of_getElem? (i := 195) (by decide +kernel)), rfl⟩
theorem tb_196 : (Jvm.Cond.fieldLink "GraphWalker$Walk" (28 : Nat) "GraphWalker$Walk" "things" "LGraphWalker$Things;") ∈ gw_all := List.mem_filter.mpr ⟨List.mem_append_right _ (List.mem_of_getElem? (i := 196) (by decide +kernel)), rfl⟩
theorem tb_198 : (Jvm.Cond.fieldLink "GraphWalker$Walk" (35 : Nat) "GraphWalker$Walk" "row" "LGraphWalker$Row;") ∈ gw_all := List.mem_filter.mpr ⟨List.mem_append_right _ (List.mem_of_getElem? (i := 198) (by decide +kernel)), rfl⟩
theorem tb_200 : (Jvm.Cond.fieldLink "GraphWalker$Walk" (42 : Nat) "GraphWalker$Walk" "value" "LGraphWalker$Value;") ∈ gw_all := List.mem_filter.mpr ⟨List.mem_append_right _ (List.mem_of_getElem? (i := 200) (by decide +kernel)), rfl⟩
theorem tb_201 : (Jvm.Cond.fieldLinkNest "GraphWalker" (83 : Nat) "GraphWalker$Walk" "value" "LGraphWalker$Value;" "GraphWalker") ∈ gw_all := List.mem_filter.mpr ⟨List.mem_append_right _ (List.mem_of_getElem? (i := 201) (by decide +kernel)), rfl⟩
theorem tb_202 : (Jvm.Cond.fieldLink "GraphWalker$Walk" (46 : Nat) "GraphWalker$Walk" "outcome" "I") ∈ gw_all := List.mem_filter.mpr ⟨List.mem_append_right _ (List.mem_of_getElem? (i := 202) (by decide +kernel)), rfl⟩
theorem tb_203 : (Jvm.Cond.fieldLinkNest "GraphWalker" (76 : Nat) "GraphWalker$Walk" "outcome" "I" "GraphWalker") ∈ gw_all := List.mem_filter.mpr ⟨List.mem_append_right _ (List.mem_of_getElem? (i := 203) (by decide +kernel)), rfl⟩
theorem tb_204 : (Jvm.Cond.fieldLink "GraphWalker$Walk" (50 : Nat) "GraphWalker$Walk" "shares" "Z") ∈ gw_all := List.mem_filter.mpr ⟨List.mem_append_right _ (List.mem_of_getElem? (i := 204) (by decide +kernel)), rfl⟩
theorem tb_205 : (Jvm.Cond.fieldLink "GraphWalker$Walk" (54 : Nat) "GraphWalker$Walk" "hand" "I") ∈ gw_all := List.mem_filter.mpr ⟨List.mem_append_right _ (List.mem_of_getElem? (i := 205) (by decide +kernel)), rfl⟩
theorem tb_206 : (Jvm.Cond.fieldLink "GraphWalker$Walk" (57 : Nat) "GraphWalker$Walk" "handTerm" "I") ∈ gw_all := List.mem_filter.mpr ⟨List.mem_append_right _ (List.mem_of_getElem? (i := 206) (by decide +kernel)), rfl⟩
theorem tb_207 : (Jvm.Cond.fieldLink "GraphWalker$Walk" (60 : Nat) "GraphWalker$Walk" "handPlaces" "I") ∈ gw_all := List.mem_filter.mpr ⟨List.mem_append_right _ (List.mem_of_getElem? (i := 207) (by decide +kernel)), rfl⟩
theorem tb_208 : (Jvm.Cond.fieldLink "GraphWalker$Walk" (63 : Nat) "GraphWalker$Walk" "handThing" "I") ∈ gw_all := List.mem_filter.mpr ⟨List.mem_append_right _ (List.mem_of_getElem? (i := 208) (by decide +kernel)), rfl⟩
theorem tb_209 : (Jvm.Cond.fieldLink "GraphWalker$Walk" (66 : Nat) "GraphWalker$Walk" "steps" "I") ∈ gw_all := List.mem_filter.mpr ⟨List.mem_append_right _ (List.mem_of_getElem? (i := 209) (by decide +kernel)), rfl⟩
theorem tb_210 : (Jvm.Cond.fieldLink "GraphWalker$Walk" (69 : Nat) "GraphWalker$Walk" "needsOfDone" "I") ∈ gw_all := List.mem_filter.mpr ⟨List.mem_append_right _ (List.mem_of_getElem? (i := 210) (by decide +kernel)), rfl⟩
theorem tb_211 : (Jvm.Cond.fieldLink "GraphWalker$Walk" (72 : Nat) "GraphWalker$Walk" "needsOfWaiting" "I") ∈ gw_all := List.mem_filter.mpr ⟨List.mem_append_right _ (List.mem_of_getElem? (i := 211) (by decide +kernel)), rfl⟩
theorem tb_212 : (Jvm.Cond.fieldLink "GraphWalker$Walk" (75 : Nat) "GraphWalker$Walk" "ringNeeded" "I") ∈ gw_all := List.mem_filter.mpr ⟨List.mem_append_right _ (List.mem_of_getElem? (i := 212) (by decide +kernel)), rfl⟩
theorem tb_213 : (Jvm.Cond.fieldLink "GraphWalker$Walk" (78 : Nat) "GraphWalker$Walk" "pace" "I") ∈ gw_all := List.mem_filter.mpr ⟨List.mem_append_right _ (List.mem_of_getElem? (i := 213) (by decide +kernel)), rfl⟩
theorem tb_215 : (Jvm.Cond.fieldLink "GraphWalker$Walk" (81 : Nat) "GraphWalker$Walk" "round" "I") ∈ gw_all := List.mem_filter.mpr ⟨List.mem_append_right _ (List.mem_of_getElem? (i := 215) (by decide +kernel)), rfl⟩
theorem tb_251 : (Jvm.Cond.fieldLink "GraphWalker" (10 : Nat) "GraphWalker" "walk" "LGraphWalker$Walk;") ∈ gw_all := List.mem_filter.mpr ⟨List.mem_append_right _ (List.mem_of_getElem? (i := 251) (by decide +kernel)), rfl⟩
theorem tb_355 : (Jvm.Cond.methodLink "GraphWalker$Terms" (35 : Nat) ({ cls := "GraphWalker$Terms", name := "add", desc := "(IIIIJI)I" } : Jvm.MethodName)) ∈ gw_all := List.mem_filter.mpr ⟨List.mem_append_right _ (List.mem_of_getElem? (i := 355) (by decide +kernel)), rfl⟩
theorem tb_357 : (Jvm.Cond.instanceMethod ({ cls := "GraphWalker$Terms", name := "add", desc := "(IIIIJI)I" } : Jvm.MethodName)) ∈ gw_all := List.mem_filter.mpr ⟨List.mem_append_right _ (List.mem_of_getElem? (i := 357) (by decide +kernel)), rfl⟩
theorem tb_358 : (Jvm.Cond.code ({ cls := "GraphWalker$Terms", name := "add", desc := "(IIIIJI)I" } : Jvm.MethodName) prog_4_method_10_code (9 : Nat) (Option.some Jvm.ClassFile.FieldType.int)) ∈ gw_T := List.mem_filter.mpr ⟨List.mem_append_right _ (List.mem_of_getElem? (i := 358) (by decide +kernel)), rfl⟩
theorem tb_400 : (Jvm.Cond.instanceMethod ({ cls := "GraphWalker$Terms", name := "has", desc := "(I)Z" } : Jvm.MethodName)) ∈ gw_all := List.mem_filter.mpr ⟨List.mem_append_right _ (List.mem_of_getElem? (i := 400) (by decide +kernel)), rfl⟩
theorem tb_401 : (Jvm.Cond.selects "GraphWalker$Terms" ({ cls := "GraphWalker$Terms", name := "has", desc := "(I)Z" } : Jvm.MethodName) ({ cls := "GraphWalker$Terms", name := "has", desc := "(I)Z" } : Jvm.MethodName)) ∈ gw_all := List.mem_filter.mpr ⟨List.mem_append_right _ (List.mem_of_getElem? (i := 401) (by decide +kernel)), rfl⟩
theorem tb_402 : (Jvm.Cond.code ({ cls := "GraphWalker$Terms", name := "has", desc := "(I)Z" } : Jvm.MethodName) prog_4_method_2_code (2 : Nat) (Option.some Jvm.ClassFile.FieldType.boolean)) ∈ gw_T := List.mem_filter.mpr ⟨List.mem_append_right _ (List.mem_of_getElem? (i := 402) (by decide +kernel)), rfl⟩
theorem tb_424 : (Jvm.Cond.methodLink "GraphWalker$Terms" (39 : Nat) ({ cls := "GraphWalker$Terms", name := "lackOf", desc := "(I)I" } : Jvm.MethodName)) ∈ gw_all := List.mem_filter.mpr ⟨List.mem_append_right _ (List.mem_of_getElem? (i := 424) (by decide +kernel)), rfl⟩
theorem tb_425 : (Jvm.Cond.instanceMethod ({ cls := "GraphWalker$Terms", name := "lackOf", desc := "(I)I" } : Jvm.MethodName)) ∈ gw_all := List.mem_filter.mpr ⟨List.mem_append_right _ (List.mem_of_getElem? (i := 425) (by decide +kernel)), rfl⟩
theorem tb_426 : (Jvm.Cond.selects "GraphWalker$Terms" ({ cls := "GraphWalker$Terms", name := "lackOf", desc := "(I)I" } : Jvm.MethodName) ({ cls := "GraphWalker$Terms", name := "lackOf", desc := "(I)I" } : Jvm.MethodName)) ∈ gw_all := List.mem_filter.mpr ⟨List.mem_append_right _ (List.mem_of_getElem? (i := 426) (by decide +kernel)), rfl⟩
theorem tb_427 : (Jvm.Cond.code ({ cls := "GraphWalker$Terms", name := "lackOf", desc := "(I)I" } : Jvm.MethodName) prog_4_method_16_code (2 : Nat) (Option.some Jvm.ClassFile.FieldType.int)) ∈ gw_T := List.mem_filter.mpr ⟨List.mem_append_right _ (List.mem_of_getElem? (i := 427) (by decide +kernel)), rfl⟩
theorem tb_428 : (Jvm.Cond.methodLink "GraphWalker$Terms" (52 : Nat) ({ cls := "GraphWalker$Terms", name := "has", desc := "(I)Z" } : Jvm.MethodName)) ∈ gw_all := List.mem_filter.mpr ⟨List.mem_append_right _ (List.mem_of_getElem? (i := 428) (by decide +kernel)), rfl⟩
theorem tb_429 : (Jvm.Cond.methodLink "GraphWalker$Terms" (43 : Nat) ({ cls := "GraphWalker$Terms", name := "oneLess", desc := "(I)I" } : Jvm.MethodName)) ∈ gw_all := List.mem_filter.mpr ⟨List.mem_append_right _ (List.mem_of_getElem? (i := 429) (by decide +kernel)), rfl⟩
theorem tb_430 : (Jvm.Cond.static ({ cls := "GraphWalker$Terms", name := "oneLess", desc := "(I)I" } : Jvm.MethodName)) ∈ gw_all := List.mem_filter.mpr ⟨List.mem_append_right _ (List.mem_of_getElem? (i := 430) (by decide +kernel)), rfl⟩
theorem tb_431 : (Jvm.Cond.code ({ cls := "GraphWalker$Terms", name := "oneLess", desc := "(I)I" } : Jvm.MethodName) prog_4_method_9_code (1 : Nat) (Option.some Jvm.ClassFile.FieldType.int)) ∈ gw_T := List.mem_filter.mpr ⟨List.mem_append_right _ (List.mem_of_getElem? (i := 431) (by decide +kernel)), rfl⟩
theorem tb_432 : (Jvm.Cond.methodLink "GraphWalker$Terms" (46 : Nat) ({ cls := "java/lang/Math", name := "max", desc := "(II)I" } : Jvm.MethodName)) ∈ gw_all := List.mem_filter.mpr ⟨List.mem_append_right _ (List.mem_of_getElem? (i := 432) (by decide +kernel)), rfl⟩
theorem tb_433 : (Jvm.Cond.static ({ cls := "java/lang/Math", name := "max", desc := "(II)I" } : Jvm.MethodName)) ∈ gw_all := List.mem_filter.mpr ⟨List.mem_append_right _ (List.mem_of_getElem? (i := 433) (by decide +kernel)), rfl⟩
theorem tb_434 : (Jvm.Cond.code ({ cls := "java/lang/Math", name := "max", desc := "(II)I" } : Jvm.MethodName) prog_14_method_65_code (2 : Nat) (Option.some Jvm.ClassFile.FieldType.int)) ∈ gw_T := List.mem_filter.mpr ⟨List.mem_append_right _ (List.mem_of_getElem? (i := 434) (by decide +kernel)), rfl⟩
theorem tb_478 : (Jvm.Cond.methodLink "GraphWalker$Walk" (84 : Nat) ({ cls := "GraphWalker$Places", name := "clear", desc := "()V" } : Jvm.MethodName)) ∈ gw_all := List.mem_filter.mpr ⟨List.mem_append_right _ (List.mem_of_getElem? (i := 478) (by decide +kernel)), rfl⟩
theorem tb_479 : (Jvm.Cond.instanceMethod ({ cls := "GraphWalker$Places", name := "clear", desc := "()V" } : Jvm.MethodName)) ∈ gw_all := List.mem_filter.mpr ⟨List.mem_append_right _ (List.mem_of_getElem? (i := 479) (by decide +kernel)), rfl⟩
theorem tb_480 : (Jvm.Cond.selects "GraphWalker$Places" ({ cls := "GraphWalker$Places", name := "clear", desc := "()V" } : Jvm.MethodName) ({ cls := "GraphWalker$Places", name := "clear", desc := "()V" } : Jvm.MethodName)) ∈ gw_all := List.mem_filter.mpr ⟨List.mem_append_right _ (List.mem_of_getElem? (i := 480) (by decide +kernel)), rfl⟩
theorem tb_481 : (Jvm.Cond.code ({ cls := "GraphWalker$Places", name := "clear", desc := "()V" } : Jvm.MethodName) prog_2_method_2_code (1 : Nat) (Option.none : Option Jvm.ClassFile.FieldType)) ∈ gw_T := List.mem_filter.mpr ⟨List.mem_append_right _ (List.mem_of_getElem? (i := 481) (by decide +kernel)), rfl⟩
theorem tb_482 : (Jvm.Cond.methodLink "GraphWalker$Walk" (87 : Nat) ({ cls := "GraphWalker$Things", name := "clear", desc := "()V" } : Jvm.MethodName)) ∈ gw_all := List.mem_filter.mpr ⟨List.mem_append_right _ (List.mem_of_getElem? (i := 482) (by decide +kernel)), rfl⟩
theorem tb_483 : (Jvm.Cond.instanceMethod ({ cls := "GraphWalker$Things", name := "clear", desc := "()V" } : Jvm.MethodName)) ∈ gw_all := List.mem_filter.mpr ⟨List.mem_append_right _ (List.mem_of_getElem? (i := 483) (by decide +kernel)), rfl⟩
theorem tb_484 : (Jvm.Cond.selects "GraphWalker$Things" ({ cls := "GraphWalker$Things", name := "clear", desc := "()V" } : Jvm.MethodName) ({ cls := "GraphWalker$Things", name := "clear", desc := "()V" } : Jvm.MethodName)) ∈ gw_all := List.mem_filter.mpr ⟨List.mem_append_right _ (List.mem_of_getElem? (i := 484) (by decide +kernel)), rfl⟩
theorem tb_485 : (Jvm.Cond.code ({ cls := "GraphWalker$Things", name := "clear", desc := "()V" } : Jvm.MethodName) prog_5_method_2_code (1 : Nat) (Option.none : Option Jvm.ClassFile.FieldType)) ∈ gw_T := List.mem_filter.mpr ⟨List.mem_append_right _ (List.mem_of_getElem? (i := 485) (by decide +kernel)), rfl⟩
theorem tb_486 : (Jvm.Cond.methodLink "GraphWalker$Walk" (88 : Nat) ({ cls := "GraphWalker$Row", name := "clear", desc := "()V" } : Jvm.MethodName)) ∈ gw_all := List.mem_filter.mpr ⟨List.mem_append_right _ (List.mem_of_getElem? (i := 486) (by decide +kernel)), rfl⟩
theorem tb_487 : (Jvm.Cond.instanceMethod ({ cls := "GraphWalker$Row", name := "clear", desc := "()V" } : Jvm.MethodName)) ∈ gw_all := List.mem_filter.mpr ⟨List.mem_append_right _ (List.mem_of_getElem? (i := 487) (by decide +kernel)), rfl⟩
theorem tb_488 : (Jvm.Cond.selects "GraphWalker$Row" ({ cls := "GraphWalker$Row", name := "clear", desc := "()V" } : Jvm.MethodName) ({ cls := "GraphWalker$Row", name := "clear", desc := "()V" } : Jvm.MethodName)) ∈ gw_all := List.mem_filter.mpr ⟨List.mem_append_right _ (List.mem_of_getElem? (i := 488) (by decide +kernel)), rfl⟩
theorem tb_489 : (Jvm.Cond.code ({ cls := "GraphWalker$Row", name := "clear", desc := "()V" } : Jvm.MethodName) prog_3_method_2_code (1 : Nat) (Option.none : Option Jvm.ClassFile.FieldType)) ∈ gw_T := List.mem_filter.mpr ⟨List.mem_append_right _ (List.mem_of_getElem? (i := 489) (by decide +kernel)), rfl⟩
theorem tb_490 : (Jvm.Cond.methodLink "GraphWalker$Walk" (89 : Nat) ({ cls := "GraphWalker$Value", name := "beNumber", desc := "(J)V" } : Jvm.MethodName)) ∈ gw_all := List.mem_filter.mpr ⟨List.mem_append_right _ (List.mem_of_getElem? (i := 490) (by decide +kernel)), rfl⟩
theorem tb_491 : (Jvm.Cond.instanceMethod ({ cls := "GraphWalker$Value", name := "beNumber", desc := "(J)V" } : Jvm.MethodName)) ∈ gw_all := List.mem_filter.mpr ⟨List.mem_append_right _ (List.mem_of_getElem? (i := 491) (by decide +kernel)), rfl⟩
theorem tb_492 : (Jvm.Cond.selects "GraphWalker$Value" ({ cls := "GraphWalker$Value", name := "beNumber", desc := "(J)V" } : Jvm.MethodName) ({ cls := "GraphWalker$Value", name := "beNumber", desc := "(J)V" } : Jvm.MethodName)) ∈ gw_all := List.mem_filter.mpr ⟨List.mem_append_right _ (List.mem_of_getElem? (i := 492) (by decide +kernel)), rfl⟩
theorem tb_493 : (Jvm.Cond.code ({ cls := "GraphWalker$Value", name := "beNumber", desc := "(J)V" } : Jvm.MethodName) prog_6_method_2_code (3 : Nat) (Option.none : Option Jvm.ClassFile.FieldType)) ∈ gw_T := List.mem_filter.mpr ⟨List.mem_append_right _ (List.mem_of_getElem? (i := 493) (by decide +kernel)), rfl⟩
theorem tb_494 : (Jvm.Cond.methodLink "GraphWalker$Value" (25 : Nat) ({ cls := "GraphWalker$Value", name := "be", desc := "(IJII)V" } : Jvm.MethodName)) ∈ gw_all := List.mem_filter.mpr ⟨List.mem_append_right _ (List.mem_of_getElem? (i := 494) (by decide +kernel)), rfl⟩
theorem tb_495 : (Jvm.Cond.instanceMethod ({ cls := "GraphWalker$Value", name := "be", desc := "(IJII)V" } : Jvm.MethodName)) ∈ gw_all := List.mem_filter.mpr ⟨List.mem_append_right _ (List.mem_of_getElem? (i := 495) (by decide +kernel)), rfl⟩
theorem tb_496 : (Jvm.Cond.selects "GraphWalker$Value" ({ cls := "GraphWalker$Value", name := "be", desc := "(IJII)V" } : Jvm.MethodName) ({ cls := "GraphWalker$Value", name := "be", desc := "(IJII)V" } : Jvm.MethodName)) ∈ gw_all := List.mem_filter.mpr ⟨List.mem_append_right _ (List.mem_of_getElem? (i := 496) (by decide +kernel)), rfl⟩
theorem tb_497 : (Jvm.Cond.code ({ cls := "GraphWalker$Value", name := "be", desc := "(IJII)V" } : Jvm.MethodName) prog_6_method_5_code (6 : Nat) (Option.none : Option Jvm.ClassFile.FieldType)) ∈ gw_T := List.mem_filter.mpr ⟨List.mem_append_right _ (List.mem_of_getElem? (i := 497) (by decide +kernel)), rfl⟩
theorem tb_498 : (Jvm.Cond.methodLink "GraphWalker$Walk" (93 : Nat) ({ cls := "GraphWalker$Walk", name := "takeTerm", desc := "(II)V" } : Jvm.MethodName)) ∈ gw_all := List.mem_filter.mpr ⟨List.mem_append_right _ (List.mem_of_getElem? (i := 498) (by decide +kernel)), rfl⟩
theorem tb_500 : (Jvm.Cond.instanceMethod ({ cls := "GraphWalker$Walk", name := "takeTerm", desc := "(II)V" } : Jvm.MethodName)) ∈ gw_all := List.mem_filter.mpr ⟨List.mem_append_right _ (List.mem_of_getElem? (i := 500) (by decide +kernel)), rfl⟩
theorem tb_501 : (Jvm.Cond.code ({ cls := "GraphWalker$Walk", name := "takeTerm", desc := "(II)V" } : Jvm.MethodName) prog_7_method_7_code (3 : Nat) (Option.none : Option Jvm.ClassFile.FieldType)) ∈ gw_T := List.mem_filter.mpr ⟨List.mem_append_right _ (List.mem_of_getElem? (i := 501) (by decide +kernel)), rfl⟩
theorem tb_519 : (Jvm.Cond.methodLink "GraphWalker$Walk" (97 : Nat) ({ cls := "GraphWalker$Walk", name := "sweepUnreached", desc := "()I" } : Jvm.MethodName)) ∈ gw_all := List.mem_filter.mpr ⟨List.mem_append_right _ (List.mem_of_getElem? (i := 519) (by decide +kernel)), rfl⟩
theorem tb_520 : (Jvm.Cond.instanceMethod ({ cls := "GraphWalker$Walk", name := "sweepUnreached", desc := "()I" } : Jvm.MethodName)) ∈ gw_all := List.mem_filter.mpr ⟨List.mem_append_right _ (List.mem_of_getElem? (i := 520) (by decide +kernel)), rfl⟩
theorem tb_521 : (Jvm.Cond.selects "GraphWalker$Walk" ({ cls := "GraphWalker$Walk", name := "sweepUnreached", desc := "()I" } : Jvm.MethodName) ({ cls := "GraphWalker$Walk", name := "sweepUnreached", desc := "()I" } : Jvm.MethodName)) ∈ gw_all := List.mem_filter.mpr ⟨List.mem_append_right _ (List.mem_of_getElem? (i := 521) (by decide +kernel)), rfl⟩
theorem tb_522 : (Jvm.Cond.code ({ cls := "GraphWalker$Walk", name := "sweepUnreached", desc := "()I" } : Jvm.MethodName) prog_7_method_24_code (2 : Nat) (Option.some Jvm.ClassFile.FieldType.int)) ∈ gw_T := List.mem_filter.mpr ⟨List.mem_append_right _ (List.mem_of_getElem? (i := 522) (by decide +kernel)), rfl⟩
theorem tb_523 : (Jvm.Cond.methodLink "GraphWalker$Walk" (259 : Nat) ({ cls := "GraphWalker$Things", name := "forgetReached", desc := "()V" } : Jvm.MethodName)) ∈ gw_all := List.mem_filter.mpr ⟨List.mem_append_right _ (List.mem_of_getElem? (i := 523) (by decide +kernel)), rfl⟩
theorem tb_524 : (Jvm.Cond.instanceMethod ({ cls := "GraphWalker$Things", name := "forgetReached", desc := "()V" } : Jvm.MethodName)) ∈ gw_all := List.mem_filter.mpr ⟨List.mem_append_right _ (List.mem_of_getElem? (i := 524) (by decide +kernel)), rfl⟩
theorem tb_525 : (Jvm.Cond.selects "GraphWalker$Things" ({ cls := "GraphWalker$Things", name := "forgetReached", desc := "()V" } : Jvm.MethodName) ({ cls := "GraphWalker$Things", name := "forgetReached", desc := "()V" } : Jvm.MethodName)) ∈ gw_all := List.mem_filter.mpr ⟨List.mem_append_right _ (List.mem_of_getElem? (i := 525) (by decide +kernel)), rfl⟩
theorem tb_526 : (Jvm.Cond.code ({ cls := "GraphWalker$Things", name := "forgetReached", desc := "()V" } : Jvm.MethodName) prog_5_method_18_code (1 : Nat) (Option.none : Option Jvm.ClassFile.FieldType)) ∈ gw_T := List.mem_filter.mpr ⟨List.mem_append_right _ (List.mem_of_getElem? (i := 526) (by decide +kernel)), rfl⟩
theorem tb_527 : (Jvm.Cond.methodLink "GraphWalker$Walk" (262 : Nat) ({ cls := "GraphWalker$Walk", name := "reachFromHand", desc := "()V" } : Jvm.MethodName)) ∈ gw_all := List.mem_filter.mpr ⟨List.mem_append_right _ (List.mem_of_getElem? (i := 527) (by decide +kernel)), rfl⟩
theorem tb_529 : (Jvm.Cond.instanceMethod ({ cls := "GraphWalker$Walk", name := "reachFromHand", desc := "()V" } : Jvm.MethodName)) ∈ gw_all := List.mem_filter.mpr ⟨List.mem_append_right _ (List.mem_of_getElem? (i := 529) (by decide +kernel)), rfl⟩
theorem tb_530 : (Jvm.Cond.code ({ cls := "GraphWalker$Walk", name := "reachFromHand", desc := "()V" } : Jvm.MethodName) prog_7_method_25_code (1 : Nat) (Option.none : Option Jvm.ClassFile.FieldType)) ∈ gw_T := List.mem_filter.mpr ⟨List.mem_append_right _ (List.mem_of_getElem? (i := 530) (by decide +kernel)), rfl⟩
theorem tb_531 : (Jvm.Cond.methodLink "GraphWalker$Walk" (280 : Nat) ({ cls := "GraphWalker$Walk", name := "reachPlaces", desc := "(I)V" } : Jvm.MethodName)) ∈ gw_all := List.mem_filter.mpr ⟨List.mem_append_right _ (List.mem_of_getElem? (i := 531) (by decide +kernel)), rfl⟩
theorem tb_533 : (Jvm.Cond.instanceMethod ({ cls := "GraphWalker$Walk", name := "reachPlaces", desc := "(I)V" } : Jvm.MethodName)) ∈ gw_all := List.mem_filter.mpr ⟨List.mem_append_right _ (List.mem_of_getElem? (i := 533) (by decide +kernel)), rfl⟩
theorem tb_534 : (Jvm.Cond.code ({ cls := "GraphWalker$Walk", name := "reachPlaces", desc := "(I)V" } : Jvm.MethodName) prog_7_method_29_code (4 : Nat) (Option.none : Option Jvm.ClassFile.FieldType)) ∈ gw_T := List.mem_filter.mpr ⟨List.mem_append_right _ (List.mem_of_getElem? (i := 534) (by decide +kernel)), rfl⟩
theorem tb_535 : (Jvm.Cond.methodLink "GraphWalker$Walk" (299 : Nat) ({ cls := "GraphWalker$Places", name := "mark", desc := "(II)Z" } : Jvm.MethodName)) ∈ gw_all := List.mem_filter.mpr ⟨List.mem_append_right _ (List.mem_of_getElem? (i := 535) (by decide +kernel)), rfl⟩
theorem tb_536 : (Jvm.Cond.instanceMethod ({ cls := "GraphWalker$Places", name := "mark", desc := "(II)Z" } : Jvm.MethodName)) ∈ gw_all := List.mem_filter.mpr ⟨List.mem_append_right _ (List.mem_of_getElem? (i := 536) (by decide +kernel)), rfl⟩
theorem tb_537 : (Jvm.Cond.selects "GraphWalker$Places" ({ cls := "GraphWalker$Places", name := "mark", desc := "(II)Z" } : Jvm.MethodName) ({ cls := "GraphWalker$Places", name := "mark", desc := "(II)Z" } : Jvm.MethodName)) ∈ gw_all := List.mem_filter.mpr ⟨List.mem_append_right _ (List.mem_of_getElem? (i := 537) (by decide +kernel)), rfl⟩
theorem tb_538 : (Jvm.Cond.code ({ cls := "GraphWalker$Places", name := "mark", desc := "(II)Z" } : Jvm.MethodName) prog_2_method_9_code (3 : Nat) (Option.some Jvm.ClassFile.FieldType.boolean)) ∈ gw_T := List.mem_filter.mpr ⟨List.mem_append_right _ (List.mem_of_getElem? (i := 538) (by decide +kernel)), rfl⟩
theorem tb_539 : (Jvm.Cond.methodLink "GraphWalker$Walk" (303 : Nat) ({ cls := "GraphWalker$Places", name := "heldBy", desc := "(I)I" } : Jvm.MethodName)) ∈ gw_all := List.mem_filter.mpr ⟨List.mem_append_right _ (List.mem_of_getElem? (i := 539) (by decide +kernel)), rfl⟩
theorem tb_540 : (Jvm.Cond.instanceMethod ({ cls := "GraphWalker$Places", name := "heldBy", desc := "(I)I" } : Jvm.MethodName)) ∈ gw_all := List.mem_filter.mpr ⟨List.mem_append_right _ (List.mem_of_getElem? (i := 540) (by decide +kernel)), rfl⟩
theorem tb_541 : (Jvm.Cond.selects "GraphWalker$Places" ({ cls := "GraphWalker$Places", name := "heldBy", desc := "(I)I" } : Jvm.MethodName) ({ cls := "GraphWalker$Places", name := "heldBy", desc := "(I)I" } : Jvm.MethodName)) ∈ gw_all := List.mem_filter.mpr ⟨List.mem_append_right _ (List.mem_of_getElem? (i := 541) (by decide +kernel)), rfl⟩
theorem tb_542 : (Jvm.Cond.code ({ cls := "GraphWalker$Places", name := "heldBy", desc := "(I)I" } : Jvm.MethodName) prog_2_method_6_code (2 : Nat) (Option.some Jvm.ClassFile.FieldType.int)) ∈ gw_T := List.mem_filter.mpr ⟨List.mem_append_right _ (List.mem_of_getElem? (i := 542) (by decide +kernel)), rfl⟩
theorem tb_543 : (Jvm.Cond.methodLink "GraphWalker$Places" (25 : Nat) ({ cls := "GraphWalker$Places", name := "has", desc := "(I)Z" } : Jvm.MethodName)) ∈ gw_all := List.mem_filter.mpr ⟨List.mem_append_right _ (List.mem_of_getElem? (i := 543) (by decide +kernel)), rfl⟩
theorem tb_544 : (Jvm.Cond.instanceMethod ({ cls := "GraphWalker$Places", name := "has", desc := "(I)Z" } : Jvm.MethodName)) ∈ gw_all := List.mem_filter.mpr ⟨List.mem_append_right _ (List.mem_of_getElem? (i := 544) (by decide +kernel)), rfl⟩
theorem tb_545 : (Jvm.Cond.selects "GraphWalker$Places" ({ cls := "GraphWalker$Places", name := "has", desc := "(I)Z" } : Jvm.MethodName) ({ cls := "GraphWalker$Places", name := "has", desc := "(I)Z" } : Jvm.MethodName)) ∈ gw_all := List.mem_filter.mpr ⟨List.mem_append_right _ (List.mem_of_getElem? (i := 545) (by decide +kernel)), rfl⟩
theorem tb_546 : (Jvm.Cond.code ({ cls := "GraphWalker$Places", name := "has", desc := "(I)Z" } : Jvm.MethodName) prog_2_method_3_code (2 : Nat) (Option.some Jvm.ClassFile.FieldType.boolean)) ∈ gw_T := List.mem_filter.mpr ⟨List.mem_append_right _ (List.mem_of_getElem? (i := 546) (by decide +kernel)), rfl⟩
theorem tb_547 : (Jvm.Cond.methodLink "GraphWalker$Walk" (287 : Nat) ({ cls := "GraphWalker$Things", name := "reach", desc := "(II)V" } : Jvm.MethodName)) ∈ gw_all := List.mem_filter.mpr ⟨List.mem_append_right _ (List.mem_of_getElem? (i := 547) (by decide +kernel)), rfl⟩
theorem tb_548 : (Jvm.Cond.instanceMethod ({ cls := "GraphWalker$Things", name := "reach", desc := "(II)V" } : Jvm.MethodName)) ∈ gw_all := List.mem_filter.mpr ⟨List.mem_append_right _ (List.mem_of_getElem? (i := 548) (by decide +kernel)), rfl⟩
theorem tb_549 : (Jvm.Cond.selects "GraphWalker$Things" ({ cls := "GraphWalker$Things", name := "reach", desc := "(II)V" } : Jvm.MethodName) ({ cls := "GraphWalker$Things", name := "reach", desc := "(II)V" } : Jvm.MethodName)) ∈ gw_all := List.mem_filter.mpr ⟨List.mem_append_right _ (List.mem_of_getElem? (i := 549) (by decide +kernel)), rfl⟩
theorem tb_550 : (Jvm.Cond.code ({ cls := "GraphWalker$Things", name := "reach", desc := "(II)V" } : Jvm.MethodName) prog_5_method_19_code (4 : Nat) (Option.none : Option Jvm.ClassFile.FieldType)) ∈ gw_T := List.mem_filter.mpr ⟨List.mem_append_right _ (List.mem_of_getElem? (i := 550) (by decide +kernel)), rfl⟩
theorem tb_551 : (Jvm.Cond.methodLink "GraphWalker$Walk" (306 : Nat) ({ cls := "GraphWalker$Places", name := "outerOf", desc := "(I)I" } : Jvm.MethodName)) ∈ gw_all := List.mem_filter.mpr ⟨List.mem_append_right _ (List.mem_of_getElem? (i := 551) (by decide +kernel)), rfl⟩
theorem tb_552 : (Jvm.Cond.instanceMethod ({ cls := "GraphWalker$Places", name := "outerOf", desc := "(I)I" } : Jvm.MethodName)) ∈ gw_all := List.mem_filter.mpr ⟨List.mem_append_right _ (List.mem_of_getElem? (i := 552) (by decide +kernel)), rfl⟩
theorem tb_553 : (Jvm.Cond.selects "GraphWalker$Places" ({ cls := "GraphWalker$Places", name := "outerOf", desc := "(I)I" } : Jvm.MethodName) ({ cls := "GraphWalker$Places", name := "outerOf", desc := "(I)I" } : Jvm.MethodName)) ∈ gw_all := List.mem_filter.mpr ⟨List.mem_append_right _ (List.mem_of_getElem? (i := 553) (by decide +kernel)), rfl⟩
theorem tb_554 : (Jvm.Cond.code ({ cls := "GraphWalker$Places", name := "outerOf", desc := "(I)I" } : Jvm.MethodName) prog_2_method_7_code (2 : Nat) (Option.some Jvm.ClassFile.FieldType.int)) ∈ gw_T := List.mem_filter.mpr ⟨List.mem_append_right _ (List.mem_of_getElem? (i := 554) (by decide +kernel)), rfl⟩
theorem tb_555 : (Jvm.Cond.methodLink "GraphWalker$Walk" (283 : Nat) ({ cls := "GraphWalker$Walk", name := "reachOfValue", desc := "(III)V" } : Jvm.MethodName)) ∈ gw_all := List.mem_filter.mpr ⟨List.mem_append_right _ (List.mem_of_getElem? (i := 555) (by decide +kernel)), rfl⟩
theorem tb_557 : (Jvm.Cond.instanceMethod ({ cls := "GraphWalker$Walk", name := "reachOfValue", desc := "(III)V" } : Jvm.MethodName)) ∈ gw_all := List.mem_filter.mpr ⟨List.mem_append_right _ (List.mem_of_getElem? (i := 557) (by decide +kernel)), rfl⟩
theorem tb_558 : (Jvm.Cond.code ({ cls := "GraphWalker$Walk", name := "reachOfValue", desc := "(III)V" } : Jvm.MethodName) prog_7_method_28_code (4 : Nat) (Option.none : Option Jvm.ClassFile.FieldType)) ∈ gw_T := List.mem_filter.mpr ⟨List.mem_append_right _ (List.mem_of_getElem? (i := 558) (by decide +kernel)), rfl⟩
theorem tb_559 : (Jvm.Cond.methodLink "GraphWalker$Walk" (265 : Nat) ({ cls := "GraphWalker$Walk", name := "reachFromRow", desc := "()V" } : Jvm.MethodName)) ∈ gw_all := List.mem_filter.mpr ⟨List.mem_append_right _ (List.mem_of_getElem? (i := 559) (by decide +kernel)), rfl⟩
theorem tb_561 : (Jvm.Cond.instanceMethod ({ cls := "GraphWalker$Walk", name := "reachFromRow", desc := "()V" } : Jvm.MethodName)) ∈ gw_all := List.mem_filter.mpr ⟨List.mem_append_right _ (List.mem_of_getElem? (i := 561) (by decide +kernel)), rfl⟩
theorem tb_562 : (Jvm.Cond.code ({ cls := "GraphWalker$Walk", name := "reachFromRow", desc := "()V" } : Jvm.MethodName) prog_7_method_26_code (2 : Nat) (Option.none : Option Jvm.ClassFile.FieldType)) ∈ gw_T := List.mem_filter.mpr ⟨List.mem_append_right _ (List.mem_of_getElem? (i := 562) (by decide +kernel)), rfl⟩
theorem tb_563 : (Jvm.Cond.methodLink "GraphWalker$Walk" (124 : Nat) ({ cls := "GraphWalker$Row", name := "kindOf", desc := "(I)I" } : Jvm.MethodName)) ∈ gw_all := List.mem_filter.mpr ⟨List.mem_append_right _ (List.mem_of_getElem? (i := 563) (by decide +kernel)), rfl⟩
theorem tb_564 : (Jvm.Cond.instanceMethod ({ cls := "GraphWalker$Row", name := "kindOf", desc := "(I)I" } : Jvm.MethodName)) ∈ gw_all := List.mem_filter.mpr ⟨List.mem_append_right _ (List.mem_of_getElem? (i := 564) (by decide +kernel)), rfl⟩
theorem tb_565 : (Jvm.Cond.selects "GraphWalker$Row" ({ cls := "GraphWalker$Row", name := "kindOf", desc := "(I)I" } : Jvm.MethodName) ({ cls := "GraphWalker$Row", name := "kindOf", desc := "(I)I" } : Jvm.MethodName)) ∈ gw_all := List.mem_filter.mpr ⟨List.mem_append_right _ (List.mem_of_getElem? (i := 565) (by decide +kernel)), rfl⟩
theorem tb_566 : (Jvm.Cond.code ({ cls := "GraphWalker$Row", name := "kindOf", desc := "(I)I" } : Jvm.MethodName) prog_3_method_8_code (2 : Nat) (Option.some Jvm.ClassFile.FieldType.int)) ∈ gw_T := List.mem_filter.mpr ⟨List.mem_append_right _ (List.mem_of_getElem? (i := 566) (by decide +kernel)), rfl⟩
theorem tb_567 : (Jvm.Cond.methodLink "GraphWalker$Row" (32 : Nat) ({ cls := "GraphWalker$Row", name := "has", desc := "(I)Z" } : Jvm.MethodName)) ∈ gw_all := List.mem_filter.mpr ⟨List.mem_append_right _ (List.mem_of_getElem? (i := 567) (by decide +kernel)), rfl⟩
theorem tb_568 : (Jvm.Cond.instanceMethod ({ cls := "GraphWalker$Row", name := "has", desc := "(I)Z" } : Jvm.MethodName)) ∈ gw_all := List.mem_filter.mpr ⟨List.mem_append_right _ (List.mem_of_getElem? (i := 568) (by decide +kernel)), rfl⟩
theorem tb_569 : (Jvm.Cond.selects "GraphWalker$Row" ({ cls := "GraphWalker$Row", name := "has", desc := "(I)Z" } : Jvm.MethodName) ({ cls := "GraphWalker$Row", name := "has", desc := "(I)Z" } : Jvm.MethodName)) ∈ gw_all := List.mem_filter.mpr ⟨List.mem_append_right _ (List.mem_of_getElem? (i := 569) (by decide +kernel)), rfl⟩
theorem tb_570 : (Jvm.Cond.code ({ cls := "GraphWalker$Row", name := "has", desc := "(I)Z" } : Jvm.MethodName) prog_3_method_3_code (2 : Nat) (Option.some Jvm.ClassFile.FieldType.boolean)) ∈ gw_T := List.mem_filter.mpr ⟨List.mem_append_right _ (List.mem_of_getElem? (i := 570) (by decide +kernel)), rfl⟩
theorem tb_571 : (Jvm.Cond.methodLink "GraphWalker$Walk" (128 : Nat) ({ cls := "GraphWalker$Row", name := "firstOf", desc := "(I)I" } : Jvm.MethodName)) ∈ gw_all := List.mem_filter.mpr ⟨List.mem_append_right _ (List.mem_of_getElem? (i := 571) (by decide +kernel)), rfl⟩
theorem tb_572 : (Jvm.Cond.instanceMethod ({ cls := "GraphWalker$Row", name := "firstOf", desc := "(I)I" } : Jvm.MethodName)) ∈ gw_all := List.mem_filter.mpr ⟨List.mem_append_right _ (List.mem_of_getElem? (i := 572) (by decide +kernel)), rfl⟩
theorem tb_573 : (Jvm.Cond.selects "GraphWalker$Row" ({ cls := "GraphWalker$Row", name := "firstOf", desc := "(I)I" } : Jvm.MethodName) ({ cls := "GraphWalker$Row", name := "firstOf", desc := "(I)I" } : Jvm.MethodName)) ∈ gw_all := List.mem_filter.mpr ⟨List.mem_append_right _ (List.mem_of_getElem? (i := 573) (by decide +kernel)), rfl⟩
theorem tb_574 : (Jvm.Cond.code ({ cls := "GraphWalker$Row", name := "firstOf", desc := "(I)I" } : Jvm.MethodName) prog_3_method_9_code (2 : Nat) (Option.some Jvm.ClassFile.FieldType.int)) ∈ gw_T := List.mem_filter.mpr ⟨List.mem_append_right _ (List.mem_of_getElem? (i := 574) (by decide +kernel)), rfl⟩
theorem tb_575 : (Jvm.Cond.methodLink "GraphWalker$Walk" (224 : Nat) ({ cls := "GraphWalker$Row", name := "secondOf", desc := "(I)I" } : Jvm.MethodName)) ∈ gw_all := List.mem_filter.mpr ⟨List.mem_append_right _ (List.mem_of_getElem? (i := 575) (by decide +kernel)), rfl⟩
theorem tb_576 : (Jvm.Cond.instanceMethod ({ cls := "GraphWalker$Row", name := "secondOf", desc := "(I)I" } : Jvm.MethodName)) ∈ gw_all := List.mem_filter.mpr ⟨List.mem_append_right _ (List.mem_of_getElem? (i := 576) (by decide +kernel)), rfl⟩
theorem tb_577 : (Jvm.Cond.selects "GraphWalker$Row" ({ cls := "GraphWalker$Row", name := "secondOf", desc := "(I)I" } : Jvm.MethodName) ({ cls := "GraphWalker$Row", name := "secondOf", desc := "(I)I" } : Jvm.MethodName)) ∈ gw_all := List.mem_filter.mpr ⟨List.mem_append_right _ (List.mem_of_getElem? (i := 577) (by decide +kernel)), rfl⟩
theorem tb_578 : (Jvm.Cond.code ({ cls := "GraphWalker$Row", name := "secondOf", desc := "(I)I" } : Jvm.MethodName) prog_3_method_10_code (2 : Nat) (Option.some Jvm.ClassFile.FieldType.int)) ∈ gw_T := List.mem_filter.mpr ⟨List.mem_append_right _ (List.mem_of_getElem? (i := 578) (by decide +kernel)), rfl⟩
theorem tb_579 : (Jvm.Cond.methodLink "GraphWalker$Walk" (271 : Nat) ({ cls := "GraphWalker$Things", name := "reachedAt", desc := "(I)I" } : Jvm.MethodName)) ∈ gw_all := List.mem_filter.mpr ⟨List.mem_append_right _ (List.mem_of_getElem? (i := 579) (by decide +kernel)), rfl⟩
theorem tb_580 : (Jvm.Cond.instanceMethod ({ cls := "GraphWalker$Things", name := "reachedAt", desc := "(I)I" } : Jvm.MethodName)) ∈ gw_all := List.mem_filter.mpr ⟨List.mem_append_right _ (List.mem_of_getElem? (i := 580) (by decide +kernel)), rfl⟩
theorem tb_581 : (Jvm.Cond.selects "GraphWalker$Things" ({ cls := "GraphWalker$Things", name := "reachedAt", desc := "(I)I" } : Jvm.MethodName) ({ cls := "GraphWalker$Things", name := "reachedAt", desc := "(I)I" } : Jvm.MethodName)) ∈ gw_all := List.mem_filter.mpr ⟨List.mem_append_right _ (List.mem_of_getElem? (i := 581) (by decide +kernel)), rfl⟩
theorem tb_582 : (Jvm.Cond.code ({ cls := "GraphWalker$Things", name := "reachedAt", desc := "(I)I" } : Jvm.MethodName) prog_5_method_20_code (2 : Nat) (Option.some Jvm.ClassFile.FieldType.int)) ∈ gw_T := List.mem_filter.mpr ⟨List.mem_append_right _ (List.mem_of_getElem? (i := 582) (by decide +kernel)), rfl⟩
theorem tb_583 : (Jvm.Cond.methodLink "GraphWalker$Walk" (274 : Nat) ({ cls := "GraphWalker$Walk", name := "reachFromThing", desc := "(I)V" } : Jvm.MethodName)) ∈ gw_all := List.mem_filter.mpr ⟨List.mem_append_right _ (List.mem_of_getElem? (i := 583) (by decide +kernel)), rfl⟩
theorem tb_585 : (Jvm.Cond.instanceMethod ({ cls := "GraphWalker$Walk", name := "reachFromThing", desc := "(I)V" } : Jvm.MethodName)) ∈ gw_all := List.mem_filter.mpr ⟨List.mem_append_right _ (List.mem_of_getElem? (i := 585) (by decide +kernel)), rfl⟩
theorem tb_586 : (Jvm.Cond.code ({ cls := "GraphWalker$Walk", name := "reachFromThing", desc := "(I)V" } : Jvm.MethodName) prog_7_method_27_code (3 : Nat) (Option.none : Option Jvm.ClassFile.FieldType)) ∈ gw_T := List.mem_filter.mpr ⟨List.mem_append_right _ (List.mem_of_getElem? (i := 586) (by decide +kernel)), rfl⟩
theorem tb_587 : (Jvm.Cond.methodLink "GraphWalker$Walk" (187 : Nat) ({ cls := "GraphWalker$Things", name := "stateOf", desc := "(I)I" } : Jvm.MethodName)) ∈ gw_all := List.mem_filter.mpr ⟨List.mem_append_right _ (List.mem_of_getElem? (i := 587) (by decide +kernel)), rfl⟩
theorem tb_588 : (Jvm.Cond.instanceMethod ({ cls := "GraphWalker$Things", name := "stateOf", desc := "(I)I" } : Jvm.MethodName)) ∈ gw_all := List.mem_filter.mpr ⟨List.mem_append_right _ (List.mem_of_getElem? (i := 588) (by decide +kernel)), rfl⟩
theorem tb_589 : (Jvm.Cond.selects "GraphWalker$Things" ({ cls := "GraphWalker$Things", name := "stateOf", desc := "(I)I" } : Jvm.MethodName) ({ cls := "GraphWalker$Things", name := "stateOf", desc := "(I)I" } : Jvm.MethodName)) ∈ gw_all := List.mem_filter.mpr ⟨List.mem_append_right _ (List.mem_of_getElem? (i := 589) (by decide +kernel)), rfl⟩
theorem tb_590 : (Jvm.Cond.code ({ cls := "GraphWalker$Things", name := "stateOf", desc := "(I)I" } : Jvm.MethodName) prog_5_method_6_code (2 : Nat) (Option.some Jvm.ClassFile.FieldType.int)) ∈ gw_T := List.mem_filter.mpr ⟨List.mem_append_right _ (List.mem_of_getElem? (i := 590) (by decide +kernel)), rfl⟩
theorem tb_591 : (Jvm.Cond.methodLink "GraphWalker$Things" (59 : Nat) ({ cls := "GraphWalker$Things", name := "has", desc := "(I)Z" } : Jvm.MethodName)) ∈ gw_all := List.mem_filter.mpr ⟨List.mem_append_right _ (List.mem_of_getElem? (i := 591) (by decide +kernel)), rfl⟩
theorem tb_592 : (Jvm.Cond.instanceMethod ({ cls := "GraphWalker$Things", name := "has", desc := "(I)Z" } : Jvm.MethodName)) ∈ gw_all := List.mem_filter.mpr ⟨List.mem_append_right _ (List.mem_of_getElem? (i := 592) (by decide +kernel)), rfl⟩
theorem tb_593 : (Jvm.Cond.selects "GraphWalker$Things" ({ cls := "GraphWalker$Things", name := "has", desc := "(I)Z" } : Jvm.MethodName) ({ cls := "GraphWalker$Things", name := "has", desc := "(I)Z" } : Jvm.MethodName)) ∈ gw_all := List.mem_filter.mpr ⟨List.mem_append_right _ (List.mem_of_getElem? (i := 593) (by decide +kernel)), rfl⟩
theorem tb_594 : (Jvm.Cond.code ({ cls := "GraphWalker$Things", name := "has", desc := "(I)Z" } : Jvm.MethodName) prog_5_method_3_code (2 : Nat) (Option.some Jvm.ClassFile.FieldType.boolean)) ∈ gw_T := List.mem_filter.mpr ⟨List.mem_append_right _ (List.mem_of_getElem? (i := 594) (by decide +kernel)), rfl⟩
theorem tb_595 : (Jvm.Cond.methodLink "GraphWalker$Walk" (212 : Nat) ({ cls := "GraphWalker$Things", name := "placesOf", desc := "(I)I" } : Jvm.MethodName)) ∈ gw_all := List.mem_filter.mpr ⟨List.mem_append_right _ (List.mem_of_getElem? (i := 595) (by decide +kernel)), rfl⟩
theorem tb_596 : (Jvm.Cond.instanceMethod ({ cls := "GraphWalker$Things", name := "placesOf", desc := "(I)I" } : Jvm.MethodName)) ∈ gw_all := List.mem_filter.mpr ⟨List.mem_append_right _ (List.mem_of_getElem? (i := 596) (by decide +kernel)), rfl⟩
theorem tb_597 : (Jvm.Cond.selects "GraphWalker$Things" ({ cls := "GraphWalker$Things", name := "placesOf", desc := "(I)I" } : Jvm.MethodName) ({ cls := "GraphWalker$Things", name := "placesOf", desc := "(I)I" } : Jvm.MethodName)) ∈ gw_all := List.mem_filter.mpr ⟨List.mem_append_right _ (List.mem_of_getElem? (i := 597) (by decide +kernel)), rfl⟩
theorem tb_598 : (Jvm.Cond.code ({ cls := "GraphWalker$Things", name := "placesOf", desc := "(I)I" } : Jvm.MethodName) prog_5_method_8_code (2 : Nat) (Option.some Jvm.ClassFile.FieldType.int)) ∈ gw_T := List.mem_filter.mpr ⟨List.mem_append_right _ (List.mem_of_getElem? (i := 598) (by decide +kernel)), rfl⟩
theorem tb_599 : (Jvm.Cond.methodLink "GraphWalker$Walk" (290 : Nat) ({ cls := "GraphWalker$Things", name := "valueSortOf", desc := "(I)I" } : Jvm.MethodName)) ∈ gw_all := List.mem_filter.mpr ⟨List.mem_append_right _ (List.mem_of_getElem? (i := 599) (by decide +kernel)), rfl⟩
theorem tb_600 : (Jvm.Cond.instanceMethod ({ cls := "GraphWalker$Things", name := "valueSortOf", desc := "(I)I" } : Jvm.MethodName)) ∈ gw_all := List.mem_filter.mpr ⟨List.mem_append_right _ (List.mem_of_getElem? (i := 600) (by decide +kernel)), rfl⟩
theorem tb_601 : (Jvm.Cond.selects "GraphWalker$Things" ({ cls := "GraphWalker$Things", name := "valueSortOf", desc := "(I)I" } : Jvm.MethodName) ({ cls := "GraphWalker$Things", name := "valueSortOf", desc := "(I)I" } : Jvm.MethodName)) ∈ gw_all := List.mem_filter.mpr ⟨List.mem_append_right _ (List.mem_of_getElem? (i := 601) (by decide +kernel)), rfl⟩
theorem tb_602 : (Jvm.Cond.code ({ cls := "GraphWalker$Things", name := "valueSortOf", desc := "(I)I" } : Jvm.MethodName) prog_5_method_15_code (2 : Nat) (Option.some Jvm.ClassFile.FieldType.int)) ∈ gw_T := List.mem_filter.mpr ⟨List.mem_append_right _ (List.mem_of_getElem? (i := 602) (by decide +kernel)), rfl⟩
theorem tb_603 : (Jvm.Cond.methodLink "GraphWalker$Walk" (293 : Nat) ({ cls := "GraphWalker$Things", name := "valueFirstOf", desc := "(I)I" } : Jvm.MethodName)) ∈ gw_all := List.mem_filter.mpr ⟨List.mem_append_right _ (List.mem_of_getElem? (i := 603) (by decide +kernel)), rfl⟩
theorem tb_604 : (Jvm.Cond.instanceMethod ({ cls := "GraphWalker$Things", name := "valueFirstOf", desc := "(I)I" } : Jvm.MethodName)) ∈ gw_all := List.mem_filter.mpr ⟨List.mem_append_right _ (List.mem_of_getElem? (i := 604) (by decide +kernel)), rfl⟩
theorem tb_605 : (Jvm.Cond.selects "GraphWalker$Things" ({ cls := "GraphWalker$Things", name := "valueFirstOf", desc := "(I)I" } : Jvm.MethodName) ({ cls := "GraphWalker$Things", name := "valueFirstOf", desc := "(I)I" } : Jvm.MethodName)) ∈ gw_all := List.mem_filter.mpr ⟨List.mem_append_right _ (List.mem_of_getElem? (i := 605) (by decide +kernel)), rfl⟩
theorem tb_606 : (Jvm.Cond.code ({ cls := "GraphWalker$Things", name := "valueFirstOf", desc := "(I)I" } : Jvm.MethodName) prog_5_method_16_code (2 : Nat) (Option.some Jvm.ClassFile.FieldType.int)) ∈ gw_T := List.mem_filter.mpr ⟨List.mem_append_right _ (List.mem_of_getElem? (i := 606) (by decide +kernel)), rfl⟩
theorem tb_607 : (Jvm.Cond.methodLink "GraphWalker$Walk" (296 : Nat) ({ cls := "GraphWalker$Things", name := "valueSecondOf", desc := "(I)I" } : Jvm.MethodName)) ∈ gw_all := List.mem_filter.mpr ⟨List.mem_append_right _ (List.mem_of_getElem? (i := 607) (by decide +kernel)), rfl⟩
theorem tb_608 : (Jvm.Cond.instanceMethod ({ cls := "GraphWalker$Things", name := "valueSecondOf", desc := "(I)I" } : Jvm.MethodName)) ∈ gw_all := List.mem_filter.mpr ⟨List.mem_append_right _ (List.mem_of_getElem? (i := 608) (by decide +kernel)), rfl⟩
theorem tb_609 : (Jvm.Cond.selects "GraphWalker$Things" ({ cls := "GraphWalker$Things", name := "valueSecondOf", desc := "(I)I" } : Jvm.MethodName) ({ cls := "GraphWalker$Things", name := "valueSecondOf", desc := "(I)I" } : Jvm.MethodName)) ∈ gw_all := List.mem_filter.mpr ⟨List.mem_append_right _ (List.mem_of_getElem? (i := 609) (by decide +kernel)), rfl⟩
theorem tb_610 : (Jvm.Cond.code ({ cls := "GraphWalker$Things", name := "valueSecondOf", desc := "(I)I" } : Jvm.MethodName) prog_5_method_17_code (2 : Nat) (Option.some Jvm.ClassFile.FieldType.int)) ∈ gw_T := List.mem_filter.mpr ⟨List.mem_append_right _ (List.mem_of_getElem? (i := 610) (by decide +kernel)), rfl⟩
theorem tb_611 : (Jvm.Cond.methodLink "GraphWalker$Walk" (277 : Nat) ({ cls := "GraphWalker$Things", name := "keepReached", desc := "(I)I" } : Jvm.MethodName)) ∈ gw_all := List.mem_filter.mpr ⟨List.mem_append_right _ (List.mem_of_getElem? (i := 611) (by decide +kernel)), rfl⟩
theorem tb_612 : (Jvm.Cond.instanceMethod ({ cls := "GraphWalker$Things", name := "keepReached", desc := "(I)I" } : Jvm.MethodName)) ∈ gw_all := List.mem_filter.mpr ⟨List.mem_append_right _ (List.mem_of_getElem? (i := 612) (by decide +kernel)), rfl⟩
theorem tb_613 : (Jvm.Cond.selects "GraphWalker$Things" ({ cls := "GraphWalker$Things", name := "keepReached", desc := "(I)I" } : Jvm.MethodName) ({ cls := "GraphWalker$Things", name := "keepReached", desc := "(I)I" } : Jvm.MethodName)) ∈ gw_all := List.mem_filter.mpr ⟨List.mem_append_right _ (List.mem_of_getElem? (i := 613) (by decide +kernel)), rfl⟩
theorem tb_614 : (Jvm.Cond.code ({ cls := "GraphWalker$Things", name := "keepReached", desc := "(I)I" } : Jvm.MethodName) prog_5_method_21_code (6 : Nat) (Option.some Jvm.ClassFile.FieldType.int)) ∈ gw_T := List.mem_filter.mpr ⟨List.mem_append_right _ (List.mem_of_getElem? (i := 614) (by decide +kernel)), rfl⟩
theorem tb_615 : (Jvm.Cond.methodLink "GraphWalker$Walk" (101 : Nat) ({ cls := "GraphWalker$Walk", name := "stepWithTerm", desc := "()V" } : Jvm.MethodName)) ∈ gw_all := List.mem_filter.mpr ⟨List.mem_append_right _ (List.mem_of_getElem? (i := 615) (by decide +kernel)), rfl⟩
theorem tb_617 : (Jvm.Cond.instanceMethod ({ cls := "GraphWalker$Walk", name := "stepWithTerm", desc := "()V" } : Jvm.MethodName)) ∈ gw_all := List.mem_filter.mpr ⟨List.mem_append_right _ (List.mem_of_getElem? (i := 617) (by decide +kernel)), rfl⟩
theorem tb_618 : (Jvm.Cond.code ({ cls := "GraphWalker$Walk", name := "stepWithTerm", desc := "()V" } : Jvm.MethodName) prog_7_method_8_code (1 : Nat) (Option.none : Option Jvm.ClassFile.FieldType)) ∈ gw_T := List.mem_filter.mpr ⟨List.mem_append_right _ (List.mem_of_getElem? (i := 618) (by decide +kernel)), rfl⟩
theorem tb_619 : (Jvm.Cond.methodLink "GraphWalker$Walk" (131 : Nat) ({ cls := "GraphWalker$Terms", name := "sortOf", desc := "(I)I" } : Jvm.MethodName)) ∈ gw_all := List.mem_filter.mpr ⟨List.mem_append_right _ (List.mem_of_getElem? (i := 619) (by decide +kernel)), rfl⟩
theorem tb_620 : (Jvm.Cond.instanceMethod ({ cls := "GraphWalker$Terms", name := "sortOf", desc := "(I)I" } : Jvm.MethodName)) ∈ gw_all := List.mem_filter.mpr ⟨List.mem_append_right _ (List.mem_of_getElem? (i := 620) (by decide +kernel)), rfl⟩
theorem tb_621 : (Jvm.Cond.selects "GraphWalker$Terms" ({ cls := "GraphWalker$Terms", name := "sortOf", desc := "(I)I" } : Jvm.MethodName) ({ cls := "GraphWalker$Terms", name := "sortOf", desc := "(I)I" } : Jvm.MethodName)) ∈ gw_all := List.mem_filter.mpr ⟨List.mem_append_right _ (List.mem_of_getElem? (i := 621) (by decide +kernel)), rfl⟩
theorem tb_622 : (Jvm.Cond.code ({ cls := "GraphWalker$Terms", name := "sortOf", desc := "(I)I" } : Jvm.MethodName) prog_4_method_11_code (2 : Nat) (Option.some Jvm.ClassFile.FieldType.int)) ∈ gw_T := List.mem_filter.mpr ⟨List.mem_append_right _ (List.mem_of_getElem? (i := 622) (by decide +kernel)), rfl⟩
theorem tb_623 : (Jvm.Cond.methodLink "GraphWalker$Walk" (134 : Nat) ({ cls := "GraphWalker$Terms", name := "numberOf", desc := "(I)J" } : Jvm.MethodName)) ∈ gw_all := List.mem_filter.mpr ⟨List.mem_append_right _ (List.mem_of_getElem? (i := 623) (by decide +kernel)), rfl⟩
theorem tb_624 : (Jvm.Cond.instanceMethod ({ cls := "GraphWalker$Terms", name := "numberOf", desc := "(I)J" } : Jvm.MethodName)) ∈ gw_all := List.mem_filter.mpr ⟨List.mem_append_right _ (List.mem_of_getElem? (i := 624) (by decide +kernel)), rfl⟩
theorem tb_625 : (Jvm.Cond.selects "GraphWalker$Terms" ({ cls := "GraphWalker$Terms", name := "numberOf", desc := "(I)J" } : Jvm.MethodName) ({ cls := "GraphWalker$Terms", name := "numberOf", desc := "(I)J" } : Jvm.MethodName)) ∈ gw_all := List.mem_filter.mpr ⟨List.mem_append_right _ (List.mem_of_getElem? (i := 625) (by decide +kernel)), rfl⟩
theorem tb_626 : (Jvm.Cond.code ({ cls := "GraphWalker$Terms", name := "numberOf", desc := "(I)J" } : Jvm.MethodName) prog_4_method_15_code (2 : Nat) (Option.some Jvm.ClassFile.FieldType.long)) ∈ gw_T := List.mem_filter.mpr ⟨List.mem_append_right _ (List.mem_of_getElem? (i := 626) (by decide +kernel)), rfl⟩
theorem tb_627 : (Jvm.Cond.methodLink "GraphWalker$Walk" (138 : Nat) ({ cls := "GraphWalker$Value", name := "beLambda", desc := "(II)V" } : Jvm.MethodName)) ∈ gw_all := List.mem_filter.mpr ⟨List.mem_append_right _ (List.mem_of_getElem? (i := 627) (by decide +kernel)), rfl⟩
theorem tb_628 : (Jvm.Cond.instanceMethod ({ cls := "GraphWalker$Value", name := "beLambda", desc := "(II)V" } : Jvm.MethodName)) ∈ gw_all := List.mem_filter.mpr ⟨List.mem_append_right _ (List.mem_of_getElem? (i := 628) (by decide +kernel)), rfl⟩
theorem tb_629 : (Jvm.Cond.selects "GraphWalker$Value" ({ cls := "GraphWalker$Value", name := "beLambda", desc := "(II)V" } : Jvm.MethodName) ({ cls := "GraphWalker$Value", name := "beLambda", desc := "(II)V" } : Jvm.MethodName)) ∈ gw_all := List.mem_filter.mpr ⟨List.mem_append_right _ (List.mem_of_getElem? (i := 629) (by decide +kernel)), rfl⟩
theorem tb_630 : (Jvm.Cond.code ({ cls := "GraphWalker$Value", name := "beLambda", desc := "(II)V" } : Jvm.MethodName) prog_6_method_3_code (3 : Nat) (Option.none : Option Jvm.ClassFile.FieldType)) ∈ gw_T := List.mem_filter.mpr ⟨List.mem_append_right _ (List.mem_of_getElem? (i := 630) (by decide +kernel)), rfl⟩
theorem tb_631 : (Jvm.Cond.methodLink "GraphWalker$Walk" (141 : Nat) ({ cls := "GraphWalker$Terms", name := "firstOf", desc := "(I)I" } : Jvm.MethodName)) ∈ gw_all := List.mem_filter.mpr ⟨List.mem_append_right _ (List.mem_of_getElem? (i := 631) (by decide +kernel)), rfl⟩
theorem tb_632 : (Jvm.Cond.instanceMethod ({ cls := "GraphWalker$Terms", name := "firstOf", desc := "(I)I" } : Jvm.MethodName)) ∈ gw_all := List.mem_filter.mpr ⟨List.mem_append_right _ (List.mem_of_getElem? (i := 632) (by decide +kernel)), rfl⟩
theorem tb_633 : (Jvm.Cond.selects "GraphWalker$Terms" ({ cls := "GraphWalker$Terms", name := "firstOf", desc := "(I)I" } : Jvm.MethodName) ({ cls := "GraphWalker$Terms", name := "firstOf", desc := "(I)I" } : Jvm.MethodName)) ∈ gw_all := List.mem_filter.mpr ⟨List.mem_append_right _ (List.mem_of_getElem? (i := 633) (by decide +kernel)), rfl⟩
theorem tb_634 : (Jvm.Cond.code ({ cls := "GraphWalker$Terms", name := "firstOf", desc := "(I)I" } : Jvm.MethodName) prog_4_method_12_code (2 : Nat) (Option.some Jvm.ClassFile.FieldType.int)) ∈ gw_T := List.mem_filter.mpr ⟨List.mem_append_right _ (List.mem_of_getElem? (i := 634) (by decide +kernel)), rfl⟩
theorem tb_635 : (Jvm.Cond.methodLink "GraphWalker$Walk" (142 : Nat) ({ cls := "GraphWalker$Places", name := "thingAt", desc := "(II)I" } : Jvm.MethodName)) ∈ gw_all := List.mem_filter.mpr ⟨List.mem_append_right _ (List.mem_of_getElem? (i := 635) (by decide +kernel)), rfl⟩
theorem tb_636 : (Jvm.Cond.instanceMethod ({ cls := "GraphWalker$Places", name := "thingAt", desc := "(II)I" } : Jvm.MethodName)) ∈ gw_all := List.mem_filter.mpr ⟨List.mem_append_right _ (List.mem_of_getElem? (i := 636) (by decide +kernel)), rfl⟩
theorem tb_637 : (Jvm.Cond.selects "GraphWalker$Places" ({ cls := "GraphWalker$Places", name := "thingAt", desc := "(II)I" } : Jvm.MethodName) ({ cls := "GraphWalker$Places", name := "thingAt", desc := "(II)I" } : Jvm.MethodName)) ∈ gw_all := List.mem_filter.mpr ⟨List.mem_append_right _ (List.mem_of_getElem? (i := 637) (by decide +kernel)), rfl⟩
theorem tb_638 : (Jvm.Cond.code ({ cls := "GraphWalker$Places", name := "thingAt", desc := "(II)I" } : Jvm.MethodName) prog_2_method_8_code (5 : Nat) (Option.some Jvm.ClassFile.FieldType.int)) ∈ gw_T := List.mem_filter.mpr ⟨List.mem_append_right _ (List.mem_of_getElem? (i := 638) (by decide +kernel)), rfl⟩
theorem tb_639 : (Jvm.Cond.methodLink "GraphWalker$Walk" (107 : Nat) ({ cls := "GraphWalker$Walk", name := "need", desc := "(IZ)V" } : Jvm.MethodName)) ∈ gw_all := List.mem_filter.mpr ⟨List.mem_append_right _ (List.mem_of_getElem? (i := 639) (by decide +kernel)), rfl⟩
theorem tb_641 : (Jvm.Cond.instanceMethod ({ cls := "GraphWalker$Walk", name := "need", desc := "(IZ)V" } : Jvm.MethodName)) ∈ gw_all := List.mem_filter.mpr ⟨List.mem_append_right _ (List.mem_of_getElem? (i := 641) (by decide +kernel)), rfl⟩
theorem tb_642 : (Jvm.Cond.code ({ cls := "GraphWalker$Walk", name := "need", desc := "(IZ)V" } : Jvm.MethodName) prog_7_method_15_code (3 : Nat) (Option.none : Option Jvm.ClassFile.FieldType)) ∈ gw_T := List.mem_filter.mpr ⟨List.mem_append_right _ (List.mem_of_getElem? (i := 642) (by decide +kernel)), rfl⟩
theorem tb_643 : (Jvm.Cond.methodLink "GraphWalker$Walk" (190 : Nat) ({ cls := "GraphWalker$Row", name := "drop", desc := "()V" } : Jvm.MethodName)) ∈ gw_all := List.mem_filter.mpr ⟨List.mem_append_right _ (List.mem_of_getElem? (i := 643) (by decide +kernel)), rfl⟩
theorem tb_644 : (Jvm.Cond.instanceMethod ({ cls := "GraphWalker$Row", name := "drop", desc := "()V" } : Jvm.MethodName)) ∈ gw_all := List.mem_filter.mpr ⟨List.mem_append_right _ (List.mem_of_getElem? (i := 644) (by decide +kernel)), rfl⟩
theorem tb_645 : (Jvm.Cond.selects "GraphWalker$Row" ({ cls := "GraphWalker$Row", name := "drop", desc := "()V" } : Jvm.MethodName) ({ cls := "GraphWalker$Row", name := "drop", desc := "()V" } : Jvm.MethodName)) ∈ gw_all := List.mem_filter.mpr ⟨List.mem_append_right _ (List.mem_of_getElem? (i := 645) (by decide +kernel)), rfl⟩
theorem tb_646 : (Jvm.Cond.code ({ cls := "GraphWalker$Row", name := "drop", desc := "()V" } : Jvm.MethodName) prog_3_method_6_code (1 : Nat) (Option.none : Option Jvm.ClassFile.FieldType)) ∈ gw_T := List.mem_filter.mpr ⟨List.mem_append_right _ (List.mem_of_getElem? (i := 646) (by decide +kernel)), rfl⟩
theorem tb_647 : (Jvm.Cond.methodLink "GraphWalker$Walk" (193 : Nat) ({ cls := "GraphWalker$Things", name := "copyValue", desc := "(ILGraphWalker$Value;)V" } : Jvm.MethodName)) ∈ gw_all := List.mem_filter.mpr ⟨List.mem_append_right _ (List.mem_of_getElem? (i := 647) (by decide +kernel)), rfl⟩
theorem tb_648 : (Jvm.Cond.instanceMethod ({ cls := "GraphWalker$Things", name := "copyValue", desc := "(ILGraphWalker$Value;)V" } : Jvm.MethodName)) ∈ gw_all := List.mem_filter.mpr ⟨List.mem_append_right _ (List.mem_of_getElem? (i := 648) (by decide +kernel)), rfl⟩
theorem tb_649 : (Jvm.Cond.selects "GraphWalker$Things" ({ cls := "GraphWalker$Things", name := "copyValue", desc := "(ILGraphWalker$Value;)V" } : Jvm.MethodName) ({ cls := "GraphWalker$Things", name := "copyValue", desc := "(ILGraphWalker$Value;)V" } : Jvm.MethodName)) ∈ gw_all := List.mem_filter.mpr ⟨List.mem_append_right _ (List.mem_of_getElem? (i := 649) (by decide +kernel)), rfl⟩
theorem tb_650 : (Jvm.Cond.code ({ cls := "GraphWalker$Things", name := "copyValue", desc := "(ILGraphWalker$Value;)V" } : Jvm.MethodName) prog_5_method_14_code (3 : Nat) (Option.none : Option Jvm.ClassFile.FieldType)) ∈ gw_T := List.mem_filter.mpr ⟨List.mem_append_right _ (List.mem_of_getElem? (i := 650) (by decide +kernel)), rfl⟩
theorem tb_651 : (Jvm.Cond.methodLink "GraphWalker$Things" (78 : Nat) ({ cls := "GraphWalker$Value", name := "be", desc := "(IJII)V" } : Jvm.MethodName)) ∈ gw_all := List.mem_filter.mpr ⟨List.mem_append_right _ (List.mem_of_getElem? (i := 651) (by decide +kernel)), rfl⟩
theorem tb_652 : (Jvm.Cond.methodLink "GraphWalker$Walk" (197 : Nat) ({ cls := "GraphWalker$Walk", name := "needWaiting", desc := "(IZ)V" } : Jvm.MethodName)) ∈ gw_all := List.mem_filter.mpr ⟨List.mem_append_right _ (List.mem_of_getElem? (i := 652) (by decide +kernel)), rfl⟩
theorem tb_654 : (Jvm.Cond.instanceMethod ({ cls := "GraphWalker$Walk", name := "needWaiting", desc := "(IZ)V" } : Jvm.MethodName)) ∈ gw_all := List.mem_filter.mpr ⟨List.mem_append_right _ (List.mem_of_getElem? (i := 654) (by decide +kernel)), rfl⟩
theorem tb_655 : (Jvm.Cond.code ({ cls := "GraphWalker$Walk", name := "needWaiting", desc := "(IZ)V" } : Jvm.MethodName) prog_7_method_16_code (3 : Nat) (Option.none : Option Jvm.ClassFile.FieldType)) ∈ gw_T := List.mem_filter.mpr ⟨List.mem_append_right _ (List.mem_of_getElem? (i := 655) (by decide +kernel)), rfl⟩
theorem tb_656 : (Jvm.Cond.methodLink "GraphWalker$Walk" (178 : Nat) ({ cls := "GraphWalker$Row", name := "isFull", desc := "()Z" } : Jvm.MethodName)) ∈ gw_all := List.mem_filter.mpr ⟨List.mem_append_right _ (List.mem_of_getElem? (i := 656) (by decide +kernel)), rfl⟩
theorem tb_657 : (Jvm.Cond.instanceMethod ({ cls := "GraphWalker$Row", name := "isFull", desc := "()Z" } : Jvm.MethodName)) ∈ gw_all := List.mem_filter.mpr ⟨List.mem_append_right _ (List.mem_of_getElem? (i := 657) (by decide +kernel)), rfl⟩
theorem tb_658 : (Jvm.Cond.selects "GraphWalker$Row" ({ cls := "GraphWalker$Row", name := "isFull", desc := "()Z" } : Jvm.MethodName) ({ cls := "GraphWalker$Row", name := "isFull", desc := "()Z" } : Jvm.MethodName)) ∈ gw_all := List.mem_filter.mpr ⟨List.mem_append_right _ (List.mem_of_getElem? (i := 658) (by decide +kernel)), rfl⟩
theorem tb_659 : (Jvm.Cond.code ({ cls := "GraphWalker$Row", name := "isFull", desc := "()Z" } : Jvm.MethodName) prog_3_method_4_code (1 : Nat) (Option.some Jvm.ClassFile.FieldType.boolean)) ∈ gw_T := List.mem_filter.mpr ⟨List.mem_append_right _ (List.mem_of_getElem? (i := 659) (by decide +kernel)), rfl⟩
theorem tb_660 : (Jvm.Cond.methodLink "GraphWalker$Walk" (200 : Nat) ({ cls := "GraphWalker$Things", name := "countWork", desc := "(I)V" } : Jvm.MethodName)) ∈ gw_all := List.mem_filter.mpr ⟨List.mem_append_right _ (List.mem_of_getElem? (i := 660) (by decide +kernel)), rfl⟩
theorem tb_661 : (Jvm.Cond.instanceMethod ({ cls := "GraphWalker$Things", name := "countWork", desc := "(I)V" } : Jvm.MethodName)) ∈ gw_all := List.mem_filter.mpr ⟨List.mem_append_right _ (List.mem_of_getElem? (i := 661) (by decide +kernel)), rfl⟩
theorem tb_662 : (Jvm.Cond.selects "GraphWalker$Things" ({ cls := "GraphWalker$Things", name := "countWork", desc := "(I)V" } : Jvm.MethodName) ({ cls := "GraphWalker$Things", name := "countWork", desc := "(I)V" } : Jvm.MethodName)) ∈ gw_all := List.mem_filter.mpr ⟨List.mem_append_right _ (List.mem_of_getElem? (i := 662) (by decide +kernel)), rfl⟩
theorem tb_663 : (Jvm.Cond.code ({ cls := "GraphWalker$Things", name := "countWork", desc := "(I)V" } : Jvm.MethodName) prog_5_method_11_code (2 : Nat) (Option.none : Option Jvm.ClassFile.FieldType)) ∈ gw_T := List.mem_filter.mpr ⟨List.mem_append_right _ (List.mem_of_getElem? (i := 663) (by decide +kernel)), rfl⟩
theorem tb_664 : (Jvm.Cond.methodLink "GraphWalker$Walk" (203 : Nat) ({ cls := "GraphWalker$Row", name := "newestInWork", desc := "()I" } : Jvm.MethodName)) ∈ gw_all := List.mem_filter.mpr ⟨List.mem_append_right _ (List.mem_of_getElem? (i := 664) (by decide +kernel)), rfl⟩
theorem tb_665 : (Jvm.Cond.instanceMethod ({ cls := "GraphWalker$Row", name := "newestInWork", desc := "()I" } : Jvm.MethodName)) ∈ gw_all := List.mem_filter.mpr ⟨List.mem_append_right _ (List.mem_of_getElem? (i := 665) (by decide +kernel)), rfl⟩
theorem tb_666 : (Jvm.Cond.selects "GraphWalker$Row" ({ cls := "GraphWalker$Row", name := "newestInWork", desc := "()I" } : Jvm.MethodName) ({ cls := "GraphWalker$Row", name := "newestInWork", desc := "()I" } : Jvm.MethodName)) ∈ gw_all := List.mem_filter.mpr ⟨List.mem_append_right _ (List.mem_of_getElem? (i := 666) (by decide +kernel)), rfl⟩
theorem tb_667 : (Jvm.Cond.code ({ cls := "GraphWalker$Row", name := "newestInWork", desc := "()I" } : Jvm.MethodName) prog_3_method_12_code (2 : Nat) (Option.some Jvm.ClassFile.FieldType.int)) ∈ gw_T := List.mem_filter.mpr ⟨List.mem_append_right _ (List.mem_of_getElem? (i := 667) (by decide +kernel)), rfl⟩
theorem tb_668 : (Jvm.Cond.methodLink "GraphWalker$Walk" (206 : Nat) ({ cls := "GraphWalker$Things", name := "putInWork", desc := "(II)V" } : Jvm.MethodName)) ∈ gw_all := List.mem_filter.mpr ⟨List.mem_append_right _ (List.mem_of_getElem? (i := 668) (by decide +kernel)), rfl⟩
theorem tb_669 : (Jvm.Cond.instanceMethod ({ cls := "GraphWalker$Things", name := "putInWork", desc := "(II)V" } : Jvm.MethodName)) ∈ gw_all := List.mem_filter.mpr ⟨List.mem_append_right _ (List.mem_of_getElem? (i := 669) (by decide +kernel)), rfl⟩
theorem tb_670 : (Jvm.Cond.selects "GraphWalker$Things" ({ cls := "GraphWalker$Things", name := "putInWork", desc := "(II)V" } : Jvm.MethodName) ({ cls := "GraphWalker$Things", name := "putInWork", desc := "(II)V" } : Jvm.MethodName)) ∈ gw_all := List.mem_filter.mpr ⟨List.mem_append_right _ (List.mem_of_getElem? (i := 670) (by decide +kernel)), rfl⟩
theorem tb_671 : (Jvm.Cond.code ({ cls := "GraphWalker$Things", name := "putInWork", desc := "(II)V" } : Jvm.MethodName) prog_5_method_12_code (3 : Nat) (Option.none : Option Jvm.ClassFile.FieldType)) ∈ gw_T := List.mem_filter.mpr ⟨List.mem_append_right _ (List.mem_of_getElem? (i := 671) (by decide +kernel)), rfl⟩
theorem tb_672 : (Jvm.Cond.methodLink "GraphWalker$Walk" (182 : Nat) ({ cls := "GraphWalker$Row", name := "add", desc := "(IIIJ)V" } : Jvm.MethodName)) ∈ gw_all := List.mem_filter.mpr ⟨List.mem_append_right _ (List.mem_of_getElem? (i := 672) (by decide +kernel)), rfl⟩
theorem tb_673 : (Jvm.Cond.instanceMethod ({ cls := "GraphWalker$Row", name := "add", desc := "(IIIJ)V" } : Jvm.MethodName)) ∈ gw_all := List.mem_filter.mpr ⟨List.mem_append_right _ (List.mem_of_getElem? (i := 673) (by decide +kernel)), rfl⟩
theorem tb_674 : (Jvm.Cond.selects "GraphWalker$Row" ({ cls := "GraphWalker$Row", name := "add", desc := "(IIIJ)V" } : Jvm.MethodName) ({ cls := "GraphWalker$Row", name := "add", desc := "(IIIJ)V" } : Jvm.MethodName)) ∈ gw_all := List.mem_filter.mpr ⟨List.mem_append_right _ (List.mem_of_getElem? (i := 674) (by decide +kernel)), rfl⟩
theorem tb_675 : (Jvm.Cond.code ({ cls := "GraphWalker$Row", name := "add", desc := "(IIIJ)V" } : Jvm.MethodName) prog_3_method_5_code (7 : Nat) (Option.none : Option Jvm.ClassFile.FieldType)) ∈ gw_T := List.mem_filter.mpr ⟨List.mem_append_right _ (List.mem_of_getElem? (i := 675) (by decide +kernel)), rfl⟩
theorem tb_676 : (Jvm.Cond.methodLink "GraphWalker$Walk" (209 : Nat) ({ cls := "GraphWalker$Things", name := "termOf", desc := "(I)I" } : Jvm.MethodName)) ∈ gw_all := List.mem_filter.mpr ⟨List.mem_append_right _ (List.mem_of_getElem? (i := 676) (by decide +kernel)), rfl⟩
theorem tb_677 : (Jvm.Cond.instanceMethod ({ cls := "GraphWalker$Things", name := "termOf", desc := "(I)I" } : Jvm.MethodName)) ∈ gw_all := List.mem_filter.mpr ⟨List.mem_append_right _ (List.mem_of_getElem? (i := 677) (by decide +kernel)), rfl⟩
theorem tb_678 : (Jvm.Cond.selects "GraphWalker$Things" ({ cls := "GraphWalker$Things", name := "termOf", desc := "(I)I" } : Jvm.MethodName) ({ cls := "GraphWalker$Things", name := "termOf", desc := "(I)I" } : Jvm.MethodName)) ∈ gw_all := List.mem_filter.mpr ⟨List.mem_append_right _ (List.mem_of_getElem? (i := 678) (by decide +kernel)), rfl⟩
theorem tb_679 : (Jvm.Cond.code ({ cls := "GraphWalker$Things", name := "termOf", desc := "(I)I" } : Jvm.MethodName) prog_5_method_7_code (2 : Nat) (Option.some Jvm.ClassFile.FieldType.int)) ∈ gw_T := List.mem_filter.mpr ⟨List.mem_append_right _ (List.mem_of_getElem? (i := 679) (by decide +kernel)), rfl⟩
theorem tb_680 : (Jvm.Cond.methodLink "GraphWalker$Walk" (146 : Nat) ({ cls := "GraphWalker$Terms", name := "secondOf", desc := "(I)I" } : Jvm.MethodName)) ∈ gw_all := List.mem_filter.mpr ⟨List.mem_append_right _ (List.mem_of_getElem? (i := 680) (by decide +kernel)), rfl⟩
theorem tb_681 : (Jvm.Cond.instanceMethod ({ cls := "GraphWalker$Terms", name := "secondOf", desc := "(I)I" } : Jvm.MethodName)) ∈ gw_all := List.mem_filter.mpr ⟨List.mem_append_right _ (List.mem_of_getElem? (i := 681) (by decide +kernel)), rfl⟩
theorem tb_682 : (Jvm.Cond.selects "GraphWalker$Terms" ({ cls := "GraphWalker$Terms", name := "secondOf", desc := "(I)I" } : Jvm.MethodName) ({ cls := "GraphWalker$Terms", name := "secondOf", desc := "(I)I" } : Jvm.MethodName)) ∈ gw_all := List.mem_filter.mpr ⟨List.mem_append_right _ (List.mem_of_getElem? (i := 682) (by decide +kernel)), rfl⟩
theorem tb_683 : (Jvm.Cond.code ({ cls := "GraphWalker$Terms", name := "secondOf", desc := "(I)I" } : Jvm.MethodName) prog_4_method_13_code (2 : Nat) (Option.some Jvm.ClassFile.FieldType.int)) ∈ gw_T := List.mem_filter.mpr ⟨List.mem_append_right _ (List.mem_of_getElem? (i := 683) (by decide +kernel)), rfl⟩
theorem tb_684 : (Jvm.Cond.methodLink "GraphWalker$Walk" (149 : Nat) ({ cls := "GraphWalker$Walk", name := "makePair", desc := "(II)V" } : Jvm.MethodName)) ∈ gw_all := List.mem_filter.mpr ⟨List.mem_append_right _ (List.mem_of_getElem? (i := 684) (by decide +kernel)), rfl⟩
theorem tb_686 : (Jvm.Cond.instanceMethod ({ cls := "GraphWalker$Walk", name := "makePair", desc := "(II)V" } : Jvm.MethodName)) ∈ gw_all := List.mem_filter.mpr ⟨List.mem_append_right _ (List.mem_of_getElem? (i := 686) (by decide +kernel)), rfl⟩
theorem tb_687 : (Jvm.Cond.code ({ cls := "GraphWalker$Walk", name := "makePair", desc := "(II)V" } : Jvm.MethodName) prog_7_method_11_code (5 : Nat) (Option.none : Option Jvm.ClassFile.FieldType)) ∈ gw_T := List.mem_filter.mpr ⟨List.mem_append_right _ (List.mem_of_getElem? (i := 687) (by decide +kernel)), rfl⟩
theorem tb_688 : (Jvm.Cond.methodLink "GraphWalker$Walk" (165 : Nat) ({ cls := "GraphWalker$Walk", name := "newThingsFor", desc := "(I)I" } : Jvm.MethodName)) ∈ gw_all := List.mem_filter.mpr ⟨List.mem_append_right _ (List.mem_of_getElem? (i := 688) (by decide +kernel)), rfl⟩
theorem tb_690 : (Jvm.Cond.instanceMethod ({ cls := "GraphWalker$Walk", name := "newThingsFor", desc := "(I)I" } : Jvm.MethodName)) ∈ gw_all := List.mem_filter.mpr ⟨List.mem_append_right _ (List.mem_of_getElem? (i := 690) (by decide +kernel)), rfl⟩
theorem tb_691 : (Jvm.Cond.code ({ cls := "GraphWalker$Walk", name := "newThingsFor", desc := "(I)I" } : Jvm.MethodName) prog_7_method_9_code (2 : Nat) (Option.some Jvm.ClassFile.FieldType.int)) ∈ gw_T := List.mem_filter.mpr ⟨List.mem_append_right _ (List.mem_of_getElem? (i := 691) (by decide +kernel)), rfl⟩
theorem tb_692 : (Jvm.Cond.methodLink "GraphWalker$Walk" (168 : Nat) ({ cls := "GraphWalker$Things", name := "hasRoomFor", desc := "(I)Z" } : Jvm.MethodName)) ∈ gw_all := List.mem_filter.mpr ⟨List.mem_append_right _ (List.mem_of_getElem? (i := 692) (by decide +kernel)), rfl⟩
theorem tb_693 : (Jvm.Cond.instanceMethod ({ cls := "GraphWalker$Things", name := "hasRoomFor", desc := "(I)Z" } : Jvm.MethodName)) ∈ gw_all := List.mem_filter.mpr ⟨List.mem_append_right _ (List.mem_of_getElem? (i := 693) (by decide +kernel)), rfl⟩
theorem tb_694 : (Jvm.Cond.selects "GraphWalker$Things" ({ cls := "GraphWalker$Things", name := "hasRoomFor", desc := "(I)Z" } : Jvm.MethodName) ({ cls := "GraphWalker$Things", name := "hasRoomFor", desc := "(I)Z" } : Jvm.MethodName)) ∈ gw_all := List.mem_filter.mpr ⟨List.mem_append_right _ (List.mem_of_getElem? (i := 694) (by decide +kernel)), rfl⟩
theorem tb_695 : (Jvm.Cond.code ({ cls := "GraphWalker$Things", name := "hasRoomFor", desc := "(I)Z" } : Jvm.MethodName) prog_5_method_4_code (2 : Nat) (Option.some Jvm.ClassFile.FieldType.boolean)) ∈ gw_T := List.mem_filter.mpr ⟨List.mem_append_right _ (List.mem_of_getElem? (i := 695) (by decide +kernel)), rfl⟩
theorem tb_696 : (Jvm.Cond.methodLink "GraphWalker$Walk" (172 : Nat) ({ cls := "GraphWalker$Walk", name := "thingFor", desc := "(I)I" } : Jvm.MethodName)) ∈ gw_all := List.mem_filter.mpr ⟨List.mem_append_right _ (List.mem_of_getElem? (i := 696) (by decide +kernel)), rfl⟩
theorem tb_698 : (Jvm.Cond.instanceMethod ({ cls := "GraphWalker$Walk", name := "thingFor", desc := "(I)I" } : Jvm.MethodName)) ∈ gw_all := List.mem_filter.mpr ⟨List.mem_append_right _ (List.mem_of_getElem? (i := 698) (by decide +kernel)), rfl⟩
theorem tb_699 : (Jvm.Cond.code ({ cls := "GraphWalker$Walk", name := "thingFor", desc := "(I)I" } : Jvm.MethodName) prog_7_method_10_code (2 : Nat) (Option.some Jvm.ClassFile.FieldType.int)) ∈ gw_T := List.mem_filter.mpr ⟨List.mem_append_right _ (List.mem_of_getElem? (i := 699) (by decide +kernel)), rfl⟩
theorem tb_700 : (Jvm.Cond.methodLink "GraphWalker$Walk" (162 : Nat) ({ cls := "GraphWalker$Things", name := "add", desc := "(II)I" } : Jvm.MethodName)) ∈ gw_all := List.mem_filter.mpr ⟨List.mem_append_right _ (List.mem_of_getElem? (i := 700) (by decide +kernel)), rfl⟩
theorem tb_701 : (Jvm.Cond.instanceMethod ({ cls := "GraphWalker$Things", name := "add", desc := "(II)I" } : Jvm.MethodName)) ∈ gw_all := List.mem_filter.mpr ⟨List.mem_append_right _ (List.mem_of_getElem? (i := 701) (by decide +kernel)), rfl⟩
theorem tb_702 : (Jvm.Cond.selects "GraphWalker$Things" ({ cls := "GraphWalker$Things", name := "add", desc := "(II)I" } : Jvm.MethodName) ({ cls := "GraphWalker$Things", name := "add", desc := "(II)I" } : Jvm.MethodName)) ∈ gw_all := List.mem_filter.mpr ⟨List.mem_append_right _ (List.mem_of_getElem? (i := 702) (by decide +kernel)), rfl⟩
theorem tb_703 : (Jvm.Cond.code ({ cls := "GraphWalker$Things", name := "add", desc := "(II)I" } : Jvm.MethodName) prog_5_method_5_code (5 : Nat) (Option.some Jvm.ClassFile.FieldType.int)) ∈ gw_T := List.mem_filter.mpr ⟨List.mem_append_right _ (List.mem_of_getElem? (i := 703) (by decide +kernel)), rfl⟩
theorem tb_704 : (Jvm.Cond.methodLink "GraphWalker$Walk" (175 : Nat) ({ cls := "GraphWalker$Value", name := "bePair", desc := "(II)V" } : Jvm.MethodName)) ∈ gw_all := List.mem_filter.mpr ⟨List.mem_append_right _ (List.mem_of_getElem? (i := 704) (by decide +kernel)), rfl⟩
theorem tb_705 : (Jvm.Cond.instanceMethod ({ cls := "GraphWalker$Value", name := "bePair", desc := "(II)V" } : Jvm.MethodName)) ∈ gw_all := List.mem_filter.mpr ⟨List.mem_append_right _ (List.mem_of_getElem? (i := 705) (by decide +kernel)), rfl⟩
theorem tb_706 : (Jvm.Cond.selects "GraphWalker$Value" ({ cls := "GraphWalker$Value", name := "bePair", desc := "(II)V" } : Jvm.MethodName) ({ cls := "GraphWalker$Value", name := "bePair", desc := "(II)V" } : Jvm.MethodName)) ∈ gw_all := List.mem_filter.mpr ⟨List.mem_append_right _ (List.mem_of_getElem? (i := 706) (by decide +kernel)), rfl⟩
theorem tb_707 : (Jvm.Cond.code ({ cls := "GraphWalker$Value", name := "bePair", desc := "(II)V" } : Jvm.MethodName) prog_6_method_4_code (3 : Nat) (Option.none : Option Jvm.ClassFile.FieldType)) ∈ gw_T := List.mem_filter.mpr ⟨List.mem_append_right _ (List.mem_of_getElem? (i := 707) (by decide +kernel)), rfl⟩
theorem tb_708 : (Jvm.Cond.methodLink "GraphWalker$Walk" (152 : Nat) ({ cls := "GraphWalker$Walk", name := "enterApply", desc := "(I)V" } : Jvm.MethodName)) ∈ gw_all := List.mem_filter.mpr ⟨List.mem_append_right _ (List.mem_of_getElem? (i := 708) (by decide +kernel)), rfl⟩
theorem tb_710 : (Jvm.Cond.instanceMethod ({ cls := "GraphWalker$Walk", name := "enterApply", desc := "(I)V" } : Jvm.MethodName)) ∈ gw_all := List.mem_filter.mpr ⟨List.mem_append_right _ (List.mem_of_getElem? (i := 710) (by decide +kernel)), rfl⟩
theorem tb_711 : (Jvm.Cond.code ({ cls := "GraphWalker$Walk", name := "enterApply", desc := "(I)V" } : Jvm.MethodName) prog_7_method_12_code (2 : Nat) (Option.none : Option Jvm.ClassFile.FieldType)) ∈ gw_T := List.mem_filter.mpr ⟨List.mem_append_right _ (List.mem_of_getElem? (i := 711) (by decide +kernel)), rfl⟩
theorem tb_712 : (Jvm.Cond.methodLink "GraphWalker$Walk" (156 : Nat) ({ cls := "GraphWalker$Walk", name := "enterLet", desc := "(II)V" } : Jvm.MethodName)) ∈ gw_all := List.mem_filter.mpr ⟨List.mem_append_right _ (List.mem_of_getElem? (i := 712) (by decide +kernel)), rfl⟩
theorem tb_714 : (Jvm.Cond.instanceMethod ({ cls := "GraphWalker$Walk", name := "enterLet", desc := "(II)V" } : Jvm.MethodName)) ∈ gw_all := List.mem_filter.mpr ⟨List.mem_append_right _ (List.mem_of_getElem? (i := 714) (by decide +kernel)), rfl⟩
theorem tb_715 : (Jvm.Cond.code ({ cls := "GraphWalker$Walk", name := "enterLet", desc := "(II)V" } : Jvm.MethodName) prog_7_method_13_code (4 : Nat) (Option.none : Option Jvm.ClassFile.FieldType)) ∈ gw_T := List.mem_filter.mpr ⟨List.mem_append_right _ (List.mem_of_getElem? (i := 715) (by decide +kernel)), rfl⟩
theorem tb_716 : (Jvm.Cond.methodLink "GraphWalker$Walk" (185 : Nat) ({ cls := "GraphWalker$Places", name := "isFull", desc := "()Z" } : Jvm.MethodName)) ∈ gw_all := List.mem_filter.mpr ⟨List.mem_append_right _ (List.mem_of_getElem? (i := 716) (by decide +kernel)), rfl⟩
theorem tb_717 : (Jvm.Cond.instanceMethod ({ cls := "GraphWalker$Places", name := "isFull", desc := "()Z" } : Jvm.MethodName)) ∈ gw_all := List.mem_filter.mpr ⟨List.mem_append_right _ (List.mem_of_getElem? (i := 717) (by decide +kernel)), rfl⟩
theorem tb_718 : (Jvm.Cond.selects "GraphWalker$Places" ({ cls := "GraphWalker$Places", name := "isFull", desc := "()Z" } : Jvm.MethodName) ({ cls := "GraphWalker$Places", name := "isFull", desc := "()Z" } : Jvm.MethodName)) ∈ gw_all := List.mem_filter.mpr ⟨List.mem_append_right _ (List.mem_of_getElem? (i := 718) (by decide +kernel)), rfl⟩
theorem tb_719 : (Jvm.Cond.code ({ cls := "GraphWalker$Places", name := "isFull", desc := "()Z" } : Jvm.MethodName) prog_2_method_4_code (1 : Nat) (Option.some Jvm.ClassFile.FieldType.boolean)) ∈ gw_T := List.mem_filter.mpr ⟨List.mem_append_right _ (List.mem_of_getElem? (i := 719) (by decide +kernel)), rfl⟩
theorem tb_720 : (Jvm.Cond.methodLink "GraphWalker$Walk" (186 : Nat) ({ cls := "GraphWalker$Places", name := "add", desc := "(II)I" } : Jvm.MethodName)) ∈ gw_all := List.mem_filter.mpr ⟨List.mem_append_right _ (List.mem_of_getElem? (i := 720) (by decide +kernel)), rfl⟩
theorem tb_721 : (Jvm.Cond.instanceMethod ({ cls := "GraphWalker$Places", name := "add", desc := "(II)I" } : Jvm.MethodName)) ∈ gw_all := List.mem_filter.mpr ⟨List.mem_append_right _ (List.mem_of_getElem? (i := 721) (by decide +kernel)), rfl⟩
theorem tb_722 : (Jvm.Cond.selects "GraphWalker$Places" ({ cls := "GraphWalker$Places", name := "add", desc := "(II)I" } : Jvm.MethodName) ({ cls := "GraphWalker$Places", name := "add", desc := "(II)I" } : Jvm.MethodName)) ∈ gw_all := List.mem_filter.mpr ⟨List.mem_append_right _ (List.mem_of_getElem? (i := 722) (by decide +kernel)), rfl⟩
theorem tb_723 : (Jvm.Cond.code ({ cls := "GraphWalker$Places", name := "add", desc := "(II)I" } : Jvm.MethodName) prog_2_method_5_code (4 : Nat) (Option.some Jvm.ClassFile.FieldType.int)) ∈ gw_T := List.mem_filter.mpr ⟨List.mem_append_right _ (List.mem_of_getElem? (i := 723) (by decide +kernel)), rfl⟩
theorem tb_724 : (Jvm.Cond.methodLink "GraphWalker$Walk" (159 : Nat) ({ cls := "GraphWalker$Walk", name := "enter", desc := "(I)V" } : Jvm.MethodName)) ∈ gw_all := List.mem_filter.mpr ⟨List.mem_append_right _ (List.mem_of_getElem? (i := 724) (by decide +kernel)), rfl⟩
theorem tb_726 : (Jvm.Cond.instanceMethod ({ cls := "GraphWalker$Walk", name := "enter", desc := "(I)V" } : Jvm.MethodName)) ∈ gw_all := List.mem_filter.mpr ⟨List.mem_append_right _ (List.mem_of_getElem? (i := 726) (by decide +kernel)), rfl⟩
theorem tb_727 : (Jvm.Cond.code ({ cls := "GraphWalker$Walk", name := "enter", desc := "(I)V" } : Jvm.MethodName) prog_7_method_14_code (2 : Nat) (Option.none : Option Jvm.ClassFile.FieldType)) ∈ gw_T := List.mem_filter.mpr ⟨List.mem_append_right _ (List.mem_of_getElem? (i := 727) (by decide +kernel)), rfl⟩
theorem tb_728 : (Jvm.Cond.methodLink "GraphWalker$Walk" (104 : Nat) ({ cls := "GraphWalker$Walk", name := "stepWithValue", desc := "()V" } : Jvm.MethodName)) ∈ gw_all := List.mem_filter.mpr ⟨List.mem_append_right _ (List.mem_of_getElem? (i := 728) (by decide +kernel)), rfl⟩
theorem tb_730 : (Jvm.Cond.instanceMethod ({ cls := "GraphWalker$Walk", name := "stepWithValue", desc := "()V" } : Jvm.MethodName)) ∈ gw_all := List.mem_filter.mpr ⟨List.mem_append_right _ (List.mem_of_getElem? (i := 730) (by decide +kernel)), rfl⟩
theorem tb_731 : (Jvm.Cond.code ({ cls := "GraphWalker$Walk", name := "stepWithValue", desc := "()V" } : Jvm.MethodName) prog_7_method_17_code (2 : Nat) (Option.none : Option Jvm.ClassFile.FieldType)) ∈ gw_T := List.mem_filter.mpr ⟨List.mem_append_right _ (List.mem_of_getElem? (i := 731) (by decide +kernel)), rfl⟩
theorem tb_732 : (Jvm.Cond.methodLink "GraphWalker$Walk" (215 : Nat) ({ cls := "GraphWalker$Row", name := "newest", desc := "()I" } : Jvm.MethodName)) ∈ gw_all := List.mem_filter.mpr ⟨List.mem_append_right _ (List.mem_of_getElem? (i := 732) (by decide +kernel)), rfl⟩
theorem tb_733 : (Jvm.Cond.instanceMethod ({ cls := "GraphWalker$Row", name := "newest", desc := "()I" } : Jvm.MethodName)) ∈ gw_all := List.mem_filter.mpr ⟨List.mem_append_right _ (List.mem_of_getElem? (i := 733) (by decide +kernel)), rfl⟩
theorem tb_734 : (Jvm.Cond.selects "GraphWalker$Row" ({ cls := "GraphWalker$Row", name := "newest", desc := "()I" } : Jvm.MethodName) ({ cls := "GraphWalker$Row", name := "newest", desc := "()I" } : Jvm.MethodName)) ∈ gw_all := List.mem_filter.mpr ⟨List.mem_append_right _ (List.mem_of_getElem? (i := 734) (by decide +kernel)), rfl⟩
theorem tb_735 : (Jvm.Cond.code ({ cls := "GraphWalker$Row", name := "newest", desc := "()I" } : Jvm.MethodName) prog_3_method_7_code (1 : Nat) (Option.some Jvm.ClassFile.FieldType.int)) ∈ gw_T := List.mem_filter.mpr ⟨List.mem_append_right _ (List.mem_of_getElem? (i := 735) (by decide +kernel)), rfl⟩
theorem tb_736 : (Jvm.Cond.methodLink "GraphWalker$Walk" (218 : Nat) ({ cls := "GraphWalker$Things", name := "finish", desc := "(ILGraphWalker$Value;)V" } : Jvm.MethodName)) ∈ gw_all := List.mem_filter.mpr ⟨List.mem_append_right _ (List.mem_of_getElem? (i := 736) (by decide +kernel)), rfl⟩
theorem tb_737 : (Jvm.Cond.instanceMethod ({ cls := "GraphWalker$Things", name := "finish", desc := "(ILGraphWalker$Value;)V" } : Jvm.MethodName)) ∈ gw_all := List.mem_filter.mpr ⟨List.mem_append_right _ (List.mem_of_getElem? (i := 737) (by decide +kernel)), rfl⟩
theorem tb_738 : (Jvm.Cond.selects "GraphWalker$Things" ({ cls := "GraphWalker$Things", name := "finish", desc := "(ILGraphWalker$Value;)V" } : Jvm.MethodName) ({ cls := "GraphWalker$Things", name := "finish", desc := "(ILGraphWalker$Value;)V" } : Jvm.MethodName)) ∈ gw_all := List.mem_filter.mpr ⟨List.mem_append_right _ (List.mem_of_getElem? (i := 738) (by decide +kernel)), rfl⟩
theorem tb_739 : (Jvm.Cond.code ({ cls := "GraphWalker$Things", name := "finish", desc := "(ILGraphWalker$Value;)V" } : Jvm.MethodName) prog_5_method_13_code (3 : Nat) (Option.none : Option Jvm.ClassFile.FieldType)) ∈ gw_T := List.mem_filter.mpr ⟨List.mem_append_right _ (List.mem_of_getElem? (i := 739) (by decide +kernel)), rfl⟩
theorem tb_740 : (Jvm.Cond.methodLink "GraphWalker$Walk" (221 : Nat) ({ cls := "GraphWalker$Walk", name := "giveThing", desc := "(I)V" } : Jvm.MethodName)) ∈ gw_all := List.mem_filter.mpr ⟨List.mem_append_right _ (List.mem_of_getElem? (i := 740) (by decide +kernel)), rfl⟩
theorem tb_742 : (Jvm.Cond.instanceMethod ({ cls := "GraphWalker$Walk", name := "giveThing", desc := "(I)V" } : Jvm.MethodName)) ∈ gw_all := List.mem_filter.mpr ⟨List.mem_append_right _ (List.mem_of_getElem? (i := 742) (by decide +kernel)), rfl⟩
theorem tb_743 : (Jvm.Cond.code ({ cls := "GraphWalker$Walk", name := "giveThing", desc := "(I)V" } : Jvm.MethodName) prog_7_method_18_code (2 : Nat) (Option.none : Option Jvm.ClassFile.FieldType)) ∈ gw_T := List.mem_filter.mpr ⟨List.mem_append_right _ (List.mem_of_getElem? (i := 743) (by decide +kernel)), rfl⟩
theorem tb_744 : (Jvm.Cond.methodLink "GraphWalker$Walk" (225 : Nat) ({ cls := "GraphWalker$Walk", name := "thenSecond", desc := "(II)V" } : Jvm.MethodName)) ∈ gw_all := List.mem_filter.mpr ⟨List.mem_append_right _ (List.mem_of_getElem? (i := 744) (by decide +kernel)), rfl⟩
theorem tb_746 : (Jvm.Cond.instanceMethod ({ cls := "GraphWalker$Walk", name := "thenSecond", desc := "(II)V" } : Jvm.MethodName)) ∈ gw_all := List.mem_filter.mpr ⟨List.mem_append_right _ (List.mem_of_getElem? (i := 746) (by decide +kernel)), rfl⟩
theorem tb_747 : (Jvm.Cond.code ({ cls := "GraphWalker$Walk", name := "thenSecond", desc := "(II)V" } : Jvm.MethodName) prog_7_method_19_code (3 : Nat) (Option.none : Option Jvm.ClassFile.FieldType)) ∈ gw_T := List.mem_filter.mpr ⟨List.mem_append_right _ (List.mem_of_getElem? (i := 747) (by decide +kernel)), rfl⟩
theorem tb_748 : (Jvm.Cond.methodLink "GraphWalker$Walk" (228 : Nat) ({ cls := "GraphWalker$Terms", name := "thirdOf", desc := "(I)I" } : Jvm.MethodName)) ∈ gw_all := List.mem_filter.mpr ⟨List.mem_append_right _ (List.mem_of_getElem? (i := 748) (by decide +kernel)), rfl⟩
theorem tb_749 : (Jvm.Cond.instanceMethod ({ cls := "GraphWalker$Terms", name := "thirdOf", desc := "(I)I" } : Jvm.MethodName)) ∈ gw_all := List.mem_filter.mpr ⟨List.mem_append_right _ (List.mem_of_getElem? (i := 749) (by decide +kernel)), rfl⟩
theorem tb_750 : (Jvm.Cond.selects "GraphWalker$Terms" ({ cls := "GraphWalker$Terms", name := "thirdOf", desc := "(I)I" } : Jvm.MethodName) ({ cls := "GraphWalker$Terms", name := "thirdOf", desc := "(I)I" } : Jvm.MethodName)) ∈ gw_all := List.mem_filter.mpr ⟨List.mem_append_right _ (List.mem_of_getElem? (i := 750) (by decide +kernel)), rfl⟩
theorem tb_751 : (Jvm.Cond.code ({ cls := "GraphWalker$Terms", name := "thirdOf", desc := "(I)I" } : Jvm.MethodName) prog_4_method_14_code (2 : Nat) (Option.some Jvm.ClassFile.FieldType.int)) ∈ gw_T := List.mem_filter.mpr ⟨List.mem_append_right _ (List.mem_of_getElem? (i := 751) (by decide +kernel)), rfl⟩
theorem tb_752 : (Jvm.Cond.methodLink "GraphWalker$Walk" (231 : Nat) ({ cls := "GraphWalker$Row", name := "numberOf", desc := "(I)J" } : Jvm.MethodName)) ∈ gw_all := List.mem_filter.mpr ⟨List.mem_append_right _ (List.mem_of_getElem? (i := 752) (by decide +kernel)), rfl⟩
theorem tb_753 : (Jvm.Cond.instanceMethod ({ cls := "GraphWalker$Row", name := "numberOf", desc := "(I)J" } : Jvm.MethodName)) ∈ gw_all := List.mem_filter.mpr ⟨List.mem_append_right _ (List.mem_of_getElem? (i := 753) (by decide +kernel)), rfl⟩
theorem tb_754 : (Jvm.Cond.selects "GraphWalker$Row" ({ cls := "GraphWalker$Row", name := "numberOf", desc := "(I)J" } : Jvm.MethodName) ({ cls := "GraphWalker$Row", name := "numberOf", desc := "(I)J" } : Jvm.MethodName)) ∈ gw_all := List.mem_filter.mpr ⟨List.mem_append_right _ (List.mem_of_getElem? (i := 754) (by decide +kernel)), rfl⟩
theorem tb_755 : (Jvm.Cond.code ({ cls := "GraphWalker$Row", name := "numberOf", desc := "(I)J" } : Jvm.MethodName) prog_3_method_11_code (2 : Nat) (Option.some Jvm.ClassFile.FieldType.long)) ∈ gw_T := List.mem_filter.mpr ⟨List.mem_append_right _ (List.mem_of_getElem? (i := 755) (by decide +kernel)), rfl⟩
theorem tb_756 : (Jvm.Cond.methodLink "GraphWalker$Walk" (232 : Nat) ({ cls := "GraphWalker$Walk", name := "actWith", desc := "(IJ)V" } : Jvm.MethodName)) ∈ gw_all := List.mem_filter.mpr ⟨List.mem_append_right _ (List.mem_of_getElem? (i := 756) (by decide +kernel)), rfl⟩
theorem tb_758 : (Jvm.Cond.instanceMethod ({ cls := "GraphWalker$Walk", name := "actWith", desc := "(IJ)V" } : Jvm.MethodName)) ∈ gw_all := List.mem_filter.mpr ⟨List.mem_append_right _ (List.mem_of_getElem? (i := 758) (by decide +kernel)), rfl⟩
theorem tb_759 : (Jvm.Cond.code ({ cls := "GraphWalker$Walk", name := "actWith", desc := "(IJ)V" } : Jvm.MethodName) prog_7_method_20_code (4 : Nat) (Option.none : Option Jvm.ClassFile.FieldType)) ∈ gw_T := List.mem_filter.mpr ⟨List.mem_append_right _ (List.mem_of_getElem? (i := 759) (by decide +kernel)), rfl⟩
theorem tb_760 : (Jvm.Cond.methodLink "GraphWalker$Walk" (255 : Nat) ({ cls := "GraphWalker$Walk", name := "resultOf", desc := "(IJJ)J" } : Jvm.MethodName)) ∈ gw_all := List.mem_filter.mpr ⟨List.mem_append_right _ (List.mem_of_getElem? (i := 760) (by decide +kernel)), rfl⟩
theorem tb_761 : (Jvm.Cond.static ({ cls := "GraphWalker$Walk", name := "resultOf", desc := "(IJJ)J" } : Jvm.MethodName)) ∈ gw_all := List.mem_filter.mpr ⟨List.mem_append_right _ (List.mem_of_getElem? (i := 761) (by decide +kernel)), rfl⟩
theorem tb_762 : (Jvm.Cond.code ({ cls := "GraphWalker$Walk", name := "resultOf", desc := "(IJJ)J" } : Jvm.MethodName) prog_7_method_21_code (5 : Nat) (Option.some Jvm.ClassFile.FieldType.long)) ∈ gw_T := List.mem_filter.mpr ⟨List.mem_append_right _ (List.mem_of_getElem? (i := 762) (by decide +kernel)), rfl⟩
theorem tb_763 : (Jvm.Cond.methodLink "GraphWalker$Walk" (236 : Nat) ({ cls := "GraphWalker$Walk", name := "chooseBranch", desc := "(II)V" } : Jvm.MethodName)) ∈ gw_all := List.mem_filter.mpr ⟨List.mem_append_right _ (List.mem_of_getElem? (i := 763) (by decide +kernel)), rfl⟩
theorem tb_765 : (Jvm.Cond.instanceMethod ({ cls := "GraphWalker$Walk", name := "chooseBranch", desc := "(II)V" } : Jvm.MethodName)) ∈ gw_all := List.mem_filter.mpr ⟨List.mem_append_right _ (List.mem_of_getElem? (i := 765) (by decide +kernel)), rfl⟩
theorem tb_766 : (Jvm.Cond.code ({ cls := "GraphWalker$Walk", name := "chooseBranch", desc := "(II)V" } : Jvm.MethodName) prog_7_method_22_code (4 : Nat) (Option.none : Option Jvm.ClassFile.FieldType)) ∈ gw_T := List.mem_filter.mpr ⟨List.mem_append_right _ (List.mem_of_getElem? (i := 766) (by decide +kernel)), rfl⟩
theorem tb_767 : (Jvm.Cond.methodLink "GraphWalker$Walk" (242 : Nat) ({ cls := "GraphWalker$Walk", name := "takeOfPair", desc := "(I)V" } : Jvm.MethodName)) ∈ gw_all := List.mem_filter.mpr ⟨List.mem_append_right _ (List.mem_of_getElem? (i := 767) (by decide +kernel)), rfl⟩
theorem tb_769 : (Jvm.Cond.instanceMethod ({ cls := "GraphWalker$Walk", name := "takeOfPair", desc := "(I)V" } : Jvm.MethodName)) ∈ gw_all := List.mem_filter.mpr ⟨List.mem_append_right _ (List.mem_of_getElem? (i := 769) (by decide +kernel)), rfl⟩
theorem tb_770 : (Jvm.Cond.code ({ cls := "GraphWalker$Walk", name := "takeOfPair", desc := "(I)V" } : Jvm.MethodName) prog_7_method_23_code (2 : Nat) (Option.none : Option Jvm.ClassFile.FieldType)) ∈ gw_T := List.mem_filter.mpr ⟨List.mem_append_right _ (List.mem_of_getElem? (i := 770) (by decide +kernel)), rfl⟩
theorem tb_871 : (Jvm.Cond.fieldLink "GraphWalkerModel" (91 : Nat) "GraphWalkerModel" "terms" "I") ∈ gw_all := List.mem_filter.mpr ⟨List.mem_append_right _ (List.mem_of_getElem? (i := 871) (by decide +kernel)), rfl⟩
theorem tb_872 : (Jvm.Cond.fieldLink "GraphWalkerModel" (7 : Nat) "GraphWalkerModel" "kinds" "[I") ∈ gw_all := List.mem_filter.mpr ⟨List.mem_append_right _ (List.mem_of_getElem? (i := 872) (by decide +kernel)), rfl⟩
theorem tb_873 : (Jvm.Cond.fieldLink "GraphWalkerModel" (13 : Nat) "GraphWalkerModel" "as" "[I") ∈ gw_all := List.mem_filter.mpr ⟨List.mem_append_right _ (List.mem_of_getElem? (i := 873) (by decide +kernel)), rfl⟩
theorem tb_874 : (Jvm.Cond.fieldLink "GraphWalkerModel" (16 : Nat) "GraphWalkerModel" "bs" "[I") ∈ gw_all := List.mem_filter.mpr ⟨List.mem_append_right _ (List.mem_of_getElem? (i := 874) (by decide +kernel)), rfl⟩
theorem tb_875 : (Jvm.Cond.fieldLink "GraphWalkerModel" (19 : Nat) "GraphWalkerModel" "cs" "[I") ∈ gw_all := List.mem_filter.mpr ⟨List.mem_append_right _ (List.mem_of_getElem? (i := 875) (by decide +kernel)), rfl⟩
theorem tb_876 : (Jvm.Cond.fieldLink "GraphWalkerModel" (22 : Nat) "GraphWalkerModel" "numbers" "[J") ∈ gw_all := List.mem_filter.mpr ⟨List.mem_append_right _ (List.mem_of_getElem? (i := 876) (by decide +kernel)), rfl⟩
theorem tb_877 : (Jvm.Cond.fieldLink "GraphWalkerModel" (26 : Nat) "GraphWalkerModel" "lacking" "[I") ∈ gw_all := List.mem_filter.mpr ⟨List.mem_append_right _ (List.mem_of_getElem? (i := 877) (by decide +kernel)), rfl⟩
theorem tb_878 : (Jvm.Cond.fieldLink "GraphWalkerModel" (113 : Nat) "GraphWalkerModel" "things" "I") ∈ gw_all := List.mem_filter.mpr ⟨List.mem_append_right _ (List.mem_of_getElem? (i := 878) (by decide +kernel)), rfl⟩
theorem tb_879 : (Jvm.Cond.fieldLink "GraphWalkerModel" (116 : Nat) "GraphWalkerModel" "there" "I") ∈ gw_all := List.mem_filter.mpr ⟨List.mem_append_right _ (List.mem_of_getElem? (i := 879) (by decide +kernel)), rfl⟩
theorem tb_880 : (Jvm.Cond.fieldLink "GraphWalkerModel" (29 : Nat) "GraphWalkerModel" "states" "[I") ∈ gw_all := List.mem_filter.mpr ⟨List.mem_append_right _ (List.mem_of_getElem? (i := 880) (by decide +kernel)), rfl⟩
theorem tb_881 : (Jvm.Cond.fieldLink "GraphWalkerModel" (32 : Nat) "GraphWalkerModel" "thingTerms" "[I") ∈ gw_all := List.mem_filter.mpr ⟨List.mem_append_right _ (List.mem_of_getElem? (i := 881) (by decide +kernel)), rfl⟩
theorem tb_882 : (Jvm.Cond.fieldLink "GraphWalkerModel" (35 : Nat) "GraphWalkerModel" "thingPlaces" "[I") ∈ gw_all := List.mem_filter.mpr ⟨List.mem_append_right _ (List.mem_of_getElem? (i := 882) (by decide +kernel)), rfl⟩
theorem tb_883 : (Jvm.Cond.fieldLink "GraphWalkerModel" (38 : Nat) "GraphWalkerModel" "valueSorts" "[I") ∈ gw_all := List.mem_filter.mpr ⟨List.mem_append_right _ (List.mem_of_getElem? (i := 883) (by decide +kernel)), rfl⟩
theorem tb_884 : (Jvm.Cond.fieldLink "GraphWalkerModel" (41 : Nat) "GraphWalkerModel" "valueNumbers" "[J") ∈ gw_all := List.mem_filter.mpr ⟨List.mem_append_right _ (List.mem_of_getElem? (i := 884) (by decide +kernel)), rfl⟩
theorem tb_885 : (Jvm.Cond.fieldLink "GraphWalkerModel" (44 : Nat) "GraphWalkerModel" "valueLefts" "[I") ∈ gw_all := List.mem_filter.mpr ⟨List.mem_append_right _ (List.mem_of_getElem? (i := 885) (by decide +kernel)), rfl⟩
theorem tb_886 : (Jvm.Cond.fieldLink "GraphWalkerModel" (47 : Nat) "GraphWalkerModel" "valueRights" "[I") ∈ gw_all := List.mem_filter.mpr ⟨List.mem_append_right _ (List.mem_of_getElem? (i := 886) (by decide +kernel)), rfl⟩
theorem tb_887 : (Jvm.Cond.fieldLink "GraphWalkerModel" (50 : Nat) "GraphWalkerModel" "works" "[I") ∈ gw_all := List.mem_filter.mpr ⟨List.mem_append_right _ (List.mem_of_getElem? (i := 887) (by decide +kernel)), rfl⟩
theorem tb_888 : (Jvm.Cond.fieldLink "GraphWalkerModel" (53 : Nat) "GraphWalkerModel" "neededBy" "[I") ∈ gw_all := List.mem_filter.mpr ⟨List.mem_append_right _ (List.mem_of_getElem? (i := 888) (by decide +kernel)), rfl⟩
theorem tb_889 : (Jvm.Cond.fieldLink "GraphWalkerModel" (56 : Nat) "GraphWalkerModel" "wasNeeded" "[Z") ∈ gw_all := List.mem_filter.mpr ⟨List.mem_append_right _ (List.mem_of_getElem? (i := 889) (by decide +kernel)), rfl⟩
theorem tb_890 : (Jvm.Cond.fieldLink "GraphWalkerModel" (119 : Nat) "GraphWalkerModel" "places" "I") ∈ gw_all := List.mem_filter.mpr ⟨List.mem_append_right _ (List.mem_of_getElem? (i := 890) (by decide +kernel)), rfl⟩
theorem tb_891 : (Jvm.Cond.fieldLink "GraphWalkerModel" (60 : Nat) "GraphWalkerModel" "placeThings" "[I") ∈ gw_all := List.mem_filter.mpr ⟨List.mem_append_right _ (List.mem_of_getElem? (i := 891) (by decide +kernel)), rfl⟩
theorem tb_892 : (Jvm.Cond.fieldLink "GraphWalkerModel" (63 : Nat) "GraphWalkerModel" "placeNexts" "[I") ∈ gw_all := List.mem_filter.mpr ⟨List.mem_append_right _ (List.mem_of_getElem? (i := 892) (by decide +kernel)), rfl⟩
theorem tb_893 : (Jvm.Cond.fieldLink "GraphWalkerModel" (122 : Nat) "GraphWalkerModel" "length" "I") ∈ gw_all := List.mem_filter.mpr ⟨List.mem_append_right _ (List.mem_of_getElem? (i := 893) (by decide +kernel)), rfl⟩
theorem tb_894 : (Jvm.Cond.fieldLink "GraphWalkerModel" (125 : Nat) "GraphWalkerModel" "longest" "I") ∈ gw_all := List.mem_filter.mpr ⟨List.mem_append_right _ (List.mem_of_getElem? (i := 894) (by decide +kernel)), rfl⟩
theorem tb_895 : (Jvm.Cond.fieldLink "GraphWalkerModel" (66 : Nat) "GraphWalkerModel" "entries" "[I") ∈ gw_all := List.mem_filter.mpr ⟨List.mem_append_right _ (List.mem_of_getElem? (i := 895) (by decide +kernel)), rfl⟩
theorem tb_896 : (Jvm.Cond.fieldLink "GraphWalkerModel" (69 : Nat) "GraphWalkerModel" "entryThings" "[I") ∈ gw_all := List.mem_filter.mpr ⟨List.mem_append_right _ (List.mem_of_getElem? (i := 896) (by decide +kernel)), rfl⟩
theorem tb_897 : (Jvm.Cond.fieldLink "GraphWalkerModel" (72 : Nat) "GraphWalkerModel" "entryPlaces" "[I") ∈ gw_all := List.mem_filter.mpr ⟨List.mem_append_right _ (List.mem_of_getElem? (i := 897) (by decide +kernel)), rfl⟩
theorem tb_898 : (Jvm.Cond.fieldLink "GraphWalkerModel" (75 : Nat) "GraphWalkerModel" "entryNumbers" "[J") ∈ gw_all := List.mem_filter.mpr ⟨List.mem_append_right _ (List.mem_of_getElem? (i := 898) (by decide +kernel)), rfl⟩
theorem tb_899 : (Jvm.Cond.fieldLink "GraphWalkerModel" (148 : Nat) "GraphWalkerModel" "hand" "I") ∈ gw_all := List.mem_filter.mpr ⟨List.mem_append_right _ (List.mem_of_getElem? (i := 899) (by decide +kernel)), rfl⟩
theorem tb_900 : (Jvm.Cond.fieldLink "GraphWalkerModel" (151 : Nat) "GraphWalkerModel" "handTerm" "I") ∈ gw_all := List.mem_filter.mpr ⟨List.mem_append_right _ (List.mem_of_getElem? (i := 900) (by decide +kernel)), rfl⟩
theorem tb_901 : (Jvm.Cond.fieldLink "GraphWalkerModel" (154 : Nat) "GraphWalkerModel" "handPlaces" "I") ∈ gw_all := List.mem_filter.mpr ⟨List.mem_append_right _ (List.mem_of_getElem? (i := 901) (by decide +kernel)), rfl⟩
theorem tb_902 : (Jvm.Cond.fieldLink "GraphWalkerModel" (180 : Nat) "GraphWalkerModel" "handThing" "I") ∈ gw_all := List.mem_filter.mpr ⟨List.mem_append_right _ (List.mem_of_getElem? (i := 902) (by decide +kernel)), rfl⟩
theorem tb_903 : (Jvm.Cond.fieldLink "GraphWalkerModel" (157 : Nat) "GraphWalkerModel" "sort" "I") ∈ gw_all := List.mem_filter.mpr ⟨List.mem_append_right _ (List.mem_of_getElem? (i := 903) (by decide +kernel)), rfl⟩
theorem tb_904 : (Jvm.Cond.fieldLink "GraphWalkerModel" (160 : Nat) "GraphWalkerModel" "number" "J") ∈ gw_all := List.mem_filter.mpr ⟨List.mem_append_right _ (List.mem_of_getElem? (i := 904) (by decide +kernel)), rfl⟩
theorem tb_905 : (Jvm.Cond.fieldLink "GraphWalkerModel" (164 : Nat) "GraphWalkerModel" "left" "I") ∈ gw_all := List.mem_filter.mpr ⟨List.mem_append_right _ (List.mem_of_getElem? (i := 905) (by decide +kernel)), rfl⟩
theorem tb_906 : (Jvm.Cond.fieldLink "GraphWalkerModel" (167 : Nat) "GraphWalkerModel" "right" "I") ∈ gw_all := List.mem_filter.mpr ⟨List.mem_append_right _ (List.mem_of_getElem? (i := 906) (by decide +kernel)), rfl⟩
theorem tb_907 : (Jvm.Cond.fieldLink "GraphWalkerModel" (141 : Nat) "GraphWalkerModel" "outcome" "I") ∈ gw_all := List.mem_filter.mpr ⟨List.mem_append_right _ (List.mem_of_getElem? (i := 907) (by decide +kernel)), rfl⟩
theorem tb_908 : (Jvm.Cond.fieldLink "GraphWalkerModel" (137 : Nat) "GraphWalkerModel" "shares" "Z") ∈ gw_all := List.mem_filter.mpr ⟨List.mem_append_right _ (List.mem_of_getElem? (i := 908) (by decide +kernel)), rfl⟩
theorem tb_909 : (Jvm.Cond.fieldLink "GraphWalkerModel" (128 : Nat) "GraphWalkerModel" "steps" "I") ∈ gw_all := List.mem_filter.mpr ⟨List.mem_append_right _ (List.mem_of_getElem? (i := 909) (by decide +kernel)), rfl⟩
theorem tb_910 : (Jvm.Cond.fieldLink "GraphWalkerModel" (131 : Nat) "GraphWalkerModel" "needsDone" "I") ∈ gw_all := List.mem_filter.mpr ⟨List.mem_append_right _ (List.mem_of_getElem? (i := 910) (by decide +kernel)), rfl⟩
theorem tb_911 : (Jvm.Cond.fieldLink "GraphWalkerModel" (134 : Nat) "GraphWalkerModel" "needsWaiting" "I") ∈ gw_all := List.mem_filter.mpr ⟨List.mem_append_right _ (List.mem_of_getElem? (i := 911) (by decide +kernel)), rfl⟩
theorem tb_912 : (Jvm.Cond.fieldLink "GraphWalkerModel" (193 : Nat) "GraphWalkerModel" "ringThing" "I") ∈ gw_all := List.mem_filter.mpr ⟨List.mem_append_right _ (List.mem_of_getElem? (i := 912) (by decide +kernel)), rfl⟩
theorem tb_913 : (Jvm.Cond.fieldLink "GraphWalkerModel" (170 : Nat) "GraphWalkerModel" "often" "I") ∈ gw_all := List.mem_filter.mpr ⟨List.mem_append_right _ (List.mem_of_getElem? (i := 913) (by decide +kernel)), rfl⟩
theorem tb_914 : (Jvm.Cond.fieldLink "GraphWalkerModel" (87 : Nat) "GraphWalkerModel" "code" "I") ∈ gw_all := List.mem_filter.mpr ⟨List.mem_append_right _ (List.mem_of_getElem? (i := 914) (by decide +kernel)), rfl⟩
theorem tb_915 : (Jvm.Cond.fieldLink "GraphWalkerModel" (78 : Nat) "GraphWalkerModel" "reached" "[Z") ∈ gw_all := List.mem_filter.mpr ⟨List.mem_append_right _ (List.mem_of_getElem? (i := 915) (by decide +kernel)), rfl⟩
theorem tb_916 : (Jvm.Cond.fieldLink "GraphWalkerModel" (81 : Nat) "GraphWalkerModel" "walked" "[Z") ∈ gw_all := List.mem_filter.mpr ⟨List.mem_append_right _ (List.mem_of_getElem? (i := 916) (by decide +kernel)), rfl⟩
theorem tb_917 : (Jvm.Cond.fieldLink "GraphWalkerModel" (84 : Nat) "GraphWalkerModel" "line" "[I") ∈ gw_all := List.mem_filter.mpr ⟨List.mem_append_right _ (List.mem_of_getElem? (i := 917) (by decide +kernel)), rfl⟩
theorem tb_918 : (Jvm.Cond.fieldLink "GraphWalkerModel" (233 : Nat) "GraphWalkerModel" "lined" "I") ∈ gw_all := List.mem_filter.mpr ⟨List.mem_append_right _ (List.mem_of_getElem? (i := 918) (by decide +kernel)), rfl⟩
theorem tb_1025 : (Jvm.Cond.methodLink "GraphWalkerModel" (94 : Nat) ({ cls := "GraphWalkerModel", name := "thrownBy", desc := "(I)I" } : Jvm.MethodName)) ∈ gw_all := List.mem_filter.mpr ⟨List.mem_append_right _ (List.mem_of_getElem? (i := 1025) (by decide +kernel)), rfl⟩
theorem tb_1027 : (Jvm.Cond.instanceMethod ({ cls := "GraphWalkerModel", name := "thrownBy", desc := "(I)I" } : Jvm.MethodName)) ∈ gw_all := List.mem_filter.mpr ⟨List.mem_append_right _ (List.mem_of_getElem? (i := 1027) (by decide +kernel)), rfl⟩
theorem tb_1028 : (Jvm.Cond.code ({ cls := "GraphWalkerModel", name := "thrownBy", desc := "(I)I" } : Jvm.MethodName) prog_9_method_4_code (2 : Nat) (Option.some Jvm.ClassFile.FieldType.int)) ∈ gw_T := List.mem_filter.mpr ⟨List.mem_append_right _ (List.mem_of_getElem? (i := 1028) (by decide +kernel)), rfl⟩
theorem tb_1029 : (Jvm.Cond.methodLink "GraphWalkerModel" (98 : Nat) ({ cls := "GraphWalkerModel", name := "term", desc := "(IIII)I" } : Jvm.MethodName)) ∈ gw_all := List.mem_filter.mpr ⟨List.mem_append_right _ (List.mem_of_getElem? (i := 1029) (by decide +kernel)), rfl⟩
theorem tb_1031 : (Jvm.Cond.instanceMethod ({ cls := "GraphWalkerModel", name := "term", desc := "(IIII)I" } : Jvm.MethodName)) ∈ gw_all := List.mem_filter.mpr ⟨List.mem_append_right _ (List.mem_of_getElem? (i := 1031) (by decide +kernel)), rfl⟩
theorem tb_1032 : (Jvm.Cond.code ({ cls := "GraphWalkerModel", name := "term", desc := "(IIII)I" } : Jvm.MethodName) prog_9_method_5_code (5 : Nat) (Option.some Jvm.ClassFile.FieldType.int)) ∈ gw_T := List.mem_filter.mpr ⟨List.mem_append_right _ (List.mem_of_getElem? (i := 1032) (by decide +kernel)), rfl⟩
theorem tb_1041 : (Jvm.Cond.methodLink "GraphWalkerModel" (102 : Nat) ({ cls := "GraphWalkerModel", name := "isTerm", desc := "(I)Z" } : Jvm.MethodName)) ∈ gw_all := List.mem_filter.mpr ⟨List.mem_append_right _ (List.mem_of_getElem? (i := 1041) (by decide +kernel)), rfl⟩
theorem tb_1043 : (Jvm.Cond.instanceMethod ({ cls := "GraphWalkerModel", name := "isTerm", desc := "(I)Z" } : Jvm.MethodName)) ∈ gw_all := List.mem_filter.mpr ⟨List.mem_append_right _ (List.mem_of_getElem? (i := 1043) (by decide +kernel)), rfl⟩
theorem tb_1044 : (Jvm.Cond.code ({ cls := "GraphWalkerModel", name := "isTerm", desc := "(I)Z" } : Jvm.MethodName) prog_9_method_3_code (2 : Nat) (Option.some Jvm.ClassFile.FieldType.boolean)) ∈ gw_T := List.mem_filter.mpr ⟨List.mem_append_right _ (List.mem_of_getElem? (i := 1044) (by decide +kernel)), rfl⟩
theorem tb_1045 : (Jvm.Cond.methodLink "GraphWalkerModel" (106 : Nat) ({ cls := "GraphWalkerModel", name := "lessOne", desc := "(I)I" } : Jvm.MethodName)) ∈ gw_all := List.mem_filter.mpr ⟨List.mem_append_right _ (List.mem_of_getElem? (i := 1045) (by decide +kernel)), rfl⟩
theorem tb_1046 : (Jvm.Cond.static ({ cls := "GraphWalkerModel", name := "lessOne", desc := "(I)I" } : Jvm.MethodName)) ∈ gw_all := List.mem_filter.mpr ⟨List.mem_append_right _ (List.mem_of_getElem? (i := 1046) (by decide +kernel)), rfl⟩
theorem tb_1047 : (Jvm.Cond.code ({ cls := "GraphWalkerModel", name := "lessOne", desc := "(I)I" } : Jvm.MethodName) prog_9_method_7_code (1 : Nat) (Option.some Jvm.ClassFile.FieldType.int)) ∈ gw_T := List.mem_filter.mpr ⟨List.mem_append_right _ (List.mem_of_getElem? (i := 1047) (by decide +kernel)), rfl⟩
theorem tb_1052 : (Jvm.Cond.methodLink "GraphWalkerModel" (109 : Nat) ({ cls := "GraphWalkerModel", name := "more", desc := "(II)I" } : Jvm.MethodName)) ∈ gw_all := List.mem_filter.mpr ⟨List.mem_append_right _ (List.mem_of_getElem? (i := 1052) (by decide +kernel)), rfl⟩
theorem tb_1053 : (Jvm.Cond.static ({ cls := "GraphWalkerModel", name := "more", desc := "(II)I" } : Jvm.MethodName)) ∈ gw_all := List.mem_filter.mpr ⟨List.mem_append_right _ (List.mem_of_getElem? (i := 1053) (by decide +kernel)), rfl⟩
theorem tb_1054 : (Jvm.Cond.code ({ cls := "GraphWalkerModel", name := "more", desc := "(II)I" } : Jvm.MethodName) prog_9_method_6_code (2 : Nat) (Option.some Jvm.ClassFile.FieldType.int)) ∈ gw_T := List.mem_filter.mpr ⟨List.mem_append_right _ (List.mem_of_getElem? (i := 1054) (by decide +kernel)), rfl⟩
theorem tb_1067 : (Jvm.Cond.methodLink "GraphWalkerModel" (144 : Nat) ({ cls := "GraphWalkerModel", name := "atHand", desc := "(II)V" } : Jvm.MethodName)) ∈ gw_all := List.mem_filter.mpr ⟨List.mem_append_right _ (List.mem_of_getElem? (i := 1067) (by decide +kernel)), rfl⟩
theorem tb_1069 : (Jvm.Cond.instanceMethod ({ cls := "GraphWalkerModel", name := "atHand", desc := "(II)V" } : Jvm.MethodName)) ∈ gw_all := List.mem_filter.mpr ⟨List.mem_append_right _ (List.mem_of_getElem? (i := 1069) (by decide +kernel)), rfl⟩
theorem tb_1070 : (Jvm.Cond.code ({ cls := "GraphWalkerModel", name := "atHand", desc := "(II)V" } : Jvm.MethodName) prog_9_method_15_code (3 : Nat) (Option.none : Option Jvm.ClassFile.FieldType)) ∈ gw_T := List.mem_filter.mpr ⟨List.mem_append_right _ (List.mem_of_getElem? (i := 1070) (by decide +kernel)), rfl⟩
theorem tb_1075 : (Jvm.Cond.methodLink "GraphWalkerModel" (173 : Nat) ({ cls := "GraphWalkerModel", name := "sweep", desc := "()I" } : Jvm.MethodName)) ∈ gw_all := List.mem_filter.mpr ⟨List.mem_append_right _ (List.mem_of_getElem? (i := 1075) (by decide +kernel)), rfl⟩
theorem tb_1077 : (Jvm.Cond.instanceMethod ({ cls := "GraphWalkerModel", name := "sweep", desc := "()I" } : Jvm.MethodName)) ∈ gw_all := List.mem_filter.mpr ⟨List.mem_append_right _ (List.mem_of_getElem? (i := 1077) (by decide +kernel)), rfl⟩
theorem tb_1078 : (Jvm.Cond.code ({ cls := "GraphWalkerModel", name := "sweep", desc := "()I" } : Jvm.MethodName) prog_9_method_45_code (3 : Nat) (Option.some Jvm.ClassFile.FieldType.int)) ∈ gw_T := List.mem_filter.mpr ⟨List.mem_append_right _ (List.mem_of_getElem? (i := 1078) (by decide +kernel)), rfl⟩
theorem tb_1079 : (Jvm.Cond.methodLink "GraphWalkerModel" (247 : Nat) ({ cls := "GraphWalkerModel", name := "reachHand", desc := "()V" } : Jvm.MethodName)) ∈ gw_all := List.mem_filter.mpr ⟨List.mem_append_right _ (List.mem_of_getElem? (i := 1079) (by decide +kernel)), rfl⟩
theorem tb_1081 : (Jvm.Cond.instanceMethod ({ cls := "GraphWalkerModel", name := "reachHand", desc := "()V" } : Jvm.MethodName)) ∈ gw_all := List.mem_filter.mpr ⟨List.mem_append_right _ (List.mem_of_getElem? (i := 1081) (by decide +kernel)), rfl⟩
theorem tb_1082 : (Jvm.Cond.code ({ cls := "GraphWalkerModel", name := "reachHand", desc := "()V" } : Jvm.MethodName) prog_9_method_44_code (2 : Nat) (Option.none : Option Jvm.ClassFile.FieldType)) ∈ gw_T := List.mem_filter.mpr ⟨List.mem_append_right _ (List.mem_of_getElem? (i := 1082) (by decide +kernel)), rfl⟩
theorem tb_1083 : (Jvm.Cond.methodLink "GraphWalkerModel" (240 : Nat) ({ cls := "GraphWalkerModel", name := "reachPlaces", desc := "(I)V" } : Jvm.MethodName)) ∈ gw_all := List.mem_filter.mpr ⟨List.mem_append_right _ (List.mem_of_getElem? (i := 1083) (by decide +kernel)), rfl⟩
theorem tb_1085 : (Jvm.Cond.instanceMethod ({ cls := "GraphWalkerModel", name := "reachPlaces", desc := "(I)V" } : Jvm.MethodName)) ∈ gw_all := List.mem_filter.mpr ⟨List.mem_append_right _ (List.mem_of_getElem? (i := 1085) (by decide +kernel)), rfl⟩
theorem tb_1086 : (Jvm.Cond.code ({ cls := "GraphWalkerModel", name := "reachPlaces", desc := "(I)V" } : Jvm.MethodName) prog_9_method_42_code (3 : Nat) (Option.none : Option Jvm.ClassFile.FieldType)) ∈ gw_T := List.mem_filter.mpr ⟨List.mem_append_right _ (List.mem_of_getElem? (i := 1086) (by decide +kernel)), rfl⟩
theorem tb_1087 : (Jvm.Cond.methodLink "GraphWalkerModel" (236 : Nat) ({ cls := "GraphWalkerModel", name := "reach", desc := "(I)V" } : Jvm.MethodName)) ∈ gw_all := List.mem_filter.mpr ⟨List.mem_append_right _ (List.mem_of_getElem? (i := 1087) (by decide +kernel)), rfl⟩
theorem tb_1089 : (Jvm.Cond.instanceMethod ({ cls := "GraphWalkerModel", name := "reach", desc := "(I)V" } : Jvm.MethodName)) ∈ gw_all := List.mem_filter.mpr ⟨List.mem_append_right _ (List.mem_of_getElem? (i := 1089) (by decide +kernel)), rfl⟩
theorem tb_1090 : (Jvm.Cond.code ({ cls := "GraphWalkerModel", name := "reach", desc := "(I)V" } : Jvm.MethodName) prog_9_method_41_code (2 : Nat) (Option.none : Option Jvm.ClassFile.FieldType)) ∈ gw_T := List.mem_filter.mpr ⟨List.mem_append_right _ (List.mem_of_getElem? (i := 1090) (by decide +kernel)), rfl⟩
theorem tb_1091 : (Jvm.Cond.methodLink "GraphWalkerModel" (243 : Nat) ({ cls := "GraphWalkerModel", name := "reachValue", desc := "(III)V" } : Jvm.MethodName)) ∈ gw_all := List.mem_filter.mpr ⟨List.mem_append_right _ (List.mem_of_getElem? (i := 1091) (by decide +kernel)), rfl⟩
theorem tb_1093 : (Jvm.Cond.instanceMethod ({ cls := "GraphWalkerModel", name := "reachValue", desc := "(III)V" } : Jvm.MethodName)) ∈ gw_all := List.mem_filter.mpr ⟨List.mem_append_right _ (List.mem_of_getElem? (i := 1093) (by decide +kernel)), rfl⟩
theorem tb_1094 : (Jvm.Cond.code ({ cls := "GraphWalkerModel", name := "reachValue", desc := "(III)V" } : Jvm.MethodName) prog_9_method_43_code (4 : Nat) (Option.none : Option Jvm.ClassFile.FieldType)) ∈ gw_T := List.mem_filter.mpr ⟨List.mem_append_right _ (List.mem_of_getElem? (i := 1094) (by decide +kernel)), rfl⟩
theorem tb_1095 : (Jvm.Cond.methodLink "GraphWalkerModel" (177 : Nat) ({ cls := "GraphWalkerModel", name := "step", desc := "()V" } : Jvm.MethodName)) ∈ gw_all := List.mem_filter.mpr ⟨List.mem_append_right _ (List.mem_of_getElem? (i := 1095) (by decide +kernel)), rfl⟩
theorem tb_1097 : (Jvm.Cond.instanceMethod ({ cls := "GraphWalkerModel", name := "step", desc := "()V" } : Jvm.MethodName)) ∈ gw_all := List.mem_filter.mpr ⟨List.mem_append_right _ (List.mem_of_getElem? (i := 1097) (by decide +kernel)), rfl⟩
theorem tb_1098 : (Jvm.Cond.code ({ cls := "GraphWalkerModel", name := "step", desc := "()V" } : Jvm.MethodName) prog_9_method_18_code (1 : Nat) (Option.none : Option Jvm.ClassFile.FieldType)) ∈ gw_T := List.mem_filter.mpr ⟨List.mem_append_right _ (List.mem_of_getElem? (i := 1098) (by decide +kernel)), rfl⟩
theorem tb_1099 : (Jvm.Cond.methodLink "GraphWalkerModel" (183 : Nat) ({ cls := "GraphWalkerModel", name := "need", desc := "(IZ)V" } : Jvm.MethodName)) ∈ gw_all := List.mem_filter.mpr ⟨List.mem_append_right _ (List.mem_of_getElem? (i := 1099) (by decide +kernel)), rfl⟩
theorem tb_1101 : (Jvm.Cond.instanceMethod ({ cls := "GraphWalkerModel", name := "need", desc := "(IZ)V" } : Jvm.MethodName)) ∈ gw_all := List.mem_filter.mpr ⟨List.mem_append_right _ (List.mem_of_getElem? (i := 1101) (by decide +kernel)), rfl⟩
theorem tb_1102 : (Jvm.Cond.code ({ cls := "GraphWalkerModel", name := "need", desc := "(IZ)V" } : Jvm.MethodName) prog_9_method_19_code (4 : Nat) (Option.none : Option Jvm.ClassFile.FieldType)) ∈ gw_T := List.mem_filter.mpr ⟨List.mem_append_right _ (List.mem_of_getElem? (i := 1102) (by decide +kernel)), rfl⟩
theorem tb_1103 : (Jvm.Cond.methodLink "GraphWalkerModel" (196 : Nat) ({ cls := "GraphWalkerModel", name := "valueAtHand", desc := "(IJII)V" } : Jvm.MethodName)) ∈ gw_all := List.mem_filter.mpr ⟨List.mem_append_right _ (List.mem_of_getElem? (i := 1103) (by decide +kernel)), rfl⟩
theorem tb_1105 : (Jvm.Cond.instanceMethod ({ cls := "GraphWalkerModel", name := "valueAtHand", desc := "(IJII)V" } : Jvm.MethodName)) ∈ gw_all := List.mem_filter.mpr ⟨List.mem_append_right _ (List.mem_of_getElem? (i := 1105) (by decide +kernel)), rfl⟩
theorem tb_1106 : (Jvm.Cond.code ({ cls := "GraphWalkerModel", name := "valueAtHand", desc := "(IJII)V" } : Jvm.MethodName) prog_9_method_16_code (6 : Nat) (Option.none : Option Jvm.ClassFile.FieldType)) ∈ gw_T := List.mem_filter.mpr ⟨List.mem_append_right _ (List.mem_of_getElem? (i := 1106) (by decide +kernel)), rfl⟩
theorem tb_1107 : (Jvm.Cond.methodLink "GraphWalkerModel" (200 : Nat) ({ cls := "GraphWalkerModel", name := "latestInWork", desc := "()I" } : Jvm.MethodName)) ∈ gw_all := List.mem_filter.mpr ⟨List.mem_append_right _ (List.mem_of_getElem? (i := 1107) (by decide +kernel)), rfl⟩
theorem tb_1109 : (Jvm.Cond.instanceMethod ({ cls := "GraphWalkerModel", name := "latestInWork", desc := "()I" } : Jvm.MethodName)) ∈ gw_all := List.mem_filter.mpr ⟨List.mem_append_right _ (List.mem_of_getElem? (i := 1109) (by decide +kernel)), rfl⟩
theorem tb_1110 : (Jvm.Cond.code ({ cls := "GraphWalkerModel", name := "latestInWork", desc := "()I" } : Jvm.MethodName) prog_9_method_20_code (2 : Nat) (Option.some Jvm.ClassFile.FieldType.int)) ∈ gw_T := List.mem_filter.mpr ⟨List.mem_append_right _ (List.mem_of_getElem? (i := 1110) (by decide +kernel)), rfl⟩
theorem tb_1111 : (Jvm.Cond.methodLink "GraphWalkerModel" (203 : Nat) ({ cls := "GraphWalkerModel", name := "push", desc := "(IIIJ)V" } : Jvm.MethodName)) ∈ gw_all := List.mem_filter.mpr ⟨List.mem_append_right _ (List.mem_of_getElem? (i := 1111) (by decide +kernel)), rfl⟩
theorem tb_1113 : (Jvm.Cond.instanceMethod ({ cls := "GraphWalkerModel", name := "push", desc := "(IIIJ)V" } : Jvm.MethodName)) ∈ gw_all := List.mem_filter.mpr ⟨List.mem_append_right _ (List.mem_of_getElem? (i := 1113) (by decide +kernel)), rfl⟩
theorem tb_1114 : (Jvm.Cond.code ({ cls := "GraphWalkerModel", name := "push", desc := "(IIIJ)V" } : Jvm.MethodName) prog_9_method_21_code (6 : Nat) (Option.none : Option Jvm.ClassFile.FieldType)) ∈ gw_T := List.mem_filter.mpr ⟨List.mem_append_right _ (List.mem_of_getElem? (i := 1114) (by decide +kernel)), rfl⟩
theorem tb_1115 : (Jvm.Cond.methodLink "GraphWalkerModel" (187 : Nat) ({ cls := "GraphWalkerModel", name := "goOnWithTerm", desc := "()V" } : Jvm.MethodName)) ∈ gw_all := List.mem_filter.mpr ⟨List.mem_append_right _ (List.mem_of_getElem? (i := 1115) (by decide +kernel)), rfl⟩
theorem tb_1117 : (Jvm.Cond.instanceMethod ({ cls := "GraphWalkerModel", name := "goOnWithTerm", desc := "()V" } : Jvm.MethodName)) ∈ gw_all := List.mem_filter.mpr ⟨List.mem_append_right _ (List.mem_of_getElem? (i := 1117) (by decide +kernel)), rfl⟩
theorem tb_1118 : (Jvm.Cond.code ({ cls := "GraphWalkerModel", name := "goOnWithTerm", desc := "()V" } : Jvm.MethodName) prog_9_method_28_code (5 : Nat) (Option.none : Option Jvm.ClassFile.FieldType)) ∈ gw_T := List.mem_filter.mpr ⟨List.mem_append_right _ (List.mem_of_getElem? (i := 1118) (by decide +kernel)), rfl⟩
theorem tb_1119 : (Jvm.Cond.methodLink "GraphWalkerModel" (213 : Nat) ({ cls := "GraphWalkerModel", name := "thingOfPlace", desc := "(II)I" } : Jvm.MethodName)) ∈ gw_all := List.mem_filter.mpr ⟨List.mem_append_right _ (List.mem_of_getElem? (i := 1119) (by decide +kernel)), rfl⟩
theorem tb_1121 : (Jvm.Cond.instanceMethod ({ cls := "GraphWalkerModel", name := "thingOfPlace", desc := "(II)I" } : Jvm.MethodName)) ∈ gw_all := List.mem_filter.mpr ⟨List.mem_append_right _ (List.mem_of_getElem? (i := 1121) (by decide +kernel)), rfl⟩
theorem tb_1122 : (Jvm.Cond.code ({ cls := "GraphWalkerModel", name := "thingOfPlace", desc := "(II)I" } : Jvm.MethodName) prog_9_method_22_code (5 : Nat) (Option.some Jvm.ClassFile.FieldType.int)) ∈ gw_T := List.mem_filter.mpr ⟨List.mem_append_right _ (List.mem_of_getElem? (i := 1122) (by decide +kernel)), rfl⟩
theorem tb_1123 : (Jvm.Cond.methodLink "GraphWalkerModel" (207 : Nat) ({ cls := "GraphWalkerModel", name := "isNew", desc := "(I)Z" } : Jvm.MethodName)) ∈ gw_all := List.mem_filter.mpr ⟨List.mem_append_right _ (List.mem_of_getElem? (i := 1123) (by decide +kernel)), rfl⟩
theorem tb_1125 : (Jvm.Cond.instanceMethod ({ cls := "GraphWalkerModel", name := "isNew", desc := "(I)Z" } : Jvm.MethodName)) ∈ gw_all := List.mem_filter.mpr ⟨List.mem_append_right _ (List.mem_of_getElem? (i := 1125) (by decide +kernel)), rfl⟩
theorem tb_1126 : (Jvm.Cond.code ({ cls := "GraphWalkerModel", name := "isNew", desc := "(I)Z" } : Jvm.MethodName) prog_9_method_23_code (2 : Nat) (Option.some Jvm.ClassFile.FieldType.boolean)) ∈ gw_T := List.mem_filter.mpr ⟨List.mem_append_right _ (List.mem_of_getElem? (i := 1126) (by decide +kernel)), rfl⟩
theorem tb_1127 : (Jvm.Cond.methodLink "GraphWalkerModel" (216 : Nat) ({ cls := "GraphWalkerModel", name := "hasRoom", desc := "(III)Z" } : Jvm.MethodName)) ∈ gw_all := List.mem_filter.mpr ⟨List.mem_append_right _ (List.mem_of_getElem? (i := 1127) (by decide +kernel)), rfl⟩
theorem tb_1129 : (Jvm.Cond.instanceMethod ({ cls := "GraphWalkerModel", name := "hasRoom", desc := "(III)Z" } : Jvm.MethodName)) ∈ gw_all := List.mem_filter.mpr ⟨List.mem_append_right _ (List.mem_of_getElem? (i := 1129) (by decide +kernel)), rfl⟩
theorem tb_1130 : (Jvm.Cond.code ({ cls := "GraphWalkerModel", name := "hasRoom", desc := "(III)Z" } : Jvm.MethodName) prog_9_method_27_code (5 : Nat) (Option.some Jvm.ClassFile.FieldType.boolean)) ∈ gw_T := List.mem_filter.mpr ⟨List.mem_append_right _ (List.mem_of_getElem? (i := 1130) (by decide +kernel)), rfl⟩
theorem tb_1131 : (Jvm.Cond.methodLink "GraphWalkerModel" (220 : Nat) ({ cls := "GraphWalkerModel", name := "thingOf", desc := "(I)I" } : Jvm.MethodName)) ∈ gw_all := List.mem_filter.mpr ⟨List.mem_append_right _ (List.mem_of_getElem? (i := 1131) (by decide +kernel)), rfl⟩
theorem tb_1133 : (Jvm.Cond.instanceMethod ({ cls := "GraphWalkerModel", name := "thingOf", desc := "(I)I" } : Jvm.MethodName)) ∈ gw_all := List.mem_filter.mpr ⟨List.mem_append_right _ (List.mem_of_getElem? (i := 1133) (by decide +kernel)), rfl⟩
theorem tb_1134 : (Jvm.Cond.code ({ cls := "GraphWalkerModel", name := "thingOf", desc := "(I)I" } : Jvm.MethodName) prog_9_method_24_code (2 : Nat) (Option.some Jvm.ClassFile.FieldType.int)) ∈ gw_T := List.mem_filter.mpr ⟨List.mem_append_right _ (List.mem_of_getElem? (i := 1134) (by decide +kernel)), rfl⟩
theorem tb_1135 : (Jvm.Cond.methodLink "GraphWalkerModel" (210 : Nat) ({ cls := "GraphWalkerModel", name := "newThing", desc := "(II)I" } : Jvm.MethodName)) ∈ gw_all := List.mem_filter.mpr ⟨List.mem_append_right _ (List.mem_of_getElem? (i := 1135) (by decide +kernel)), rfl⟩
theorem tb_1137 : (Jvm.Cond.instanceMethod ({ cls := "GraphWalkerModel", name := "newThing", desc := "(II)I" } : Jvm.MethodName)) ∈ gw_all := List.mem_filter.mpr ⟨List.mem_append_right _ (List.mem_of_getElem? (i := 1137) (by decide +kernel)), rfl⟩
theorem tb_1138 : (Jvm.Cond.code ({ cls := "GraphWalkerModel", name := "newThing", desc := "(II)I" } : Jvm.MethodName) prog_9_method_25_code (3 : Nat) (Option.some Jvm.ClassFile.FieldType.int)) ∈ gw_T := List.mem_filter.mpr ⟨List.mem_append_right _ (List.mem_of_getElem? (i := 1138) (by decide +kernel)), rfl⟩
theorem tb_1139 : (Jvm.Cond.methodLink "GraphWalkerModel" (223 : Nat) ({ cls := "GraphWalkerModel", name := "newPlace", desc := "(II)I" } : Jvm.MethodName)) ∈ gw_all := List.mem_filter.mpr ⟨List.mem_append_right _ (List.mem_of_getElem? (i := 1139) (by decide +kernel)), rfl⟩
theorem tb_1141 : (Jvm.Cond.instanceMethod ({ cls := "GraphWalkerModel", name := "newPlace", desc := "(II)I" } : Jvm.MethodName)) ∈ gw_all := List.mem_filter.mpr ⟨List.mem_append_right _ (List.mem_of_getElem? (i := 1141) (by decide +kernel)), rfl⟩
theorem tb_1142 : (Jvm.Cond.code ({ cls := "GraphWalkerModel", name := "newPlace", desc := "(II)I" } : Jvm.MethodName) prog_9_method_26_code (3 : Nat) (Option.some Jvm.ClassFile.FieldType.int)) ∈ gw_T := List.mem_filter.mpr ⟨List.mem_append_right _ (List.mem_of_getElem? (i := 1142) (by decide +kernel)), rfl⟩
theorem tb_1143 : (Jvm.Cond.methodLink "GraphWalkerModel" (190 : Nat) ({ cls := "GraphWalkerModel", name := "goOnWithValue", desc := "()V" } : Jvm.MethodName)) ∈ gw_all := List.mem_filter.mpr ⟨List.mem_append_right _ (List.mem_of_getElem? (i := 1143) (by decide +kernel)), rfl⟩
theorem tb_1145 : (Jvm.Cond.instanceMethod ({ cls := "GraphWalkerModel", name := "goOnWithValue", desc := "()V" } : Jvm.MethodName)) ∈ gw_all := List.mem_filter.mpr ⟨List.mem_append_right _ (List.mem_of_getElem? (i := 1145) (by decide +kernel)), rfl⟩
theorem tb_1146 : (Jvm.Cond.code ({ cls := "GraphWalkerModel", name := "goOnWithValue", desc := "()V" } : Jvm.MethodName) prog_9_method_29_code (4 : Nat) (Option.none : Option Jvm.ClassFile.FieldType)) ∈ gw_T := List.mem_filter.mpr ⟨List.mem_append_right _ (List.mem_of_getElem? (i := 1146) (by decide +kernel)), rfl⟩
theorem tb_1147 : (Jvm.Cond.methodLink "GraphWalkerModel" (226 : Nat) ({ cls := "GraphWalkerModel", name := "act", desc := "(IJJ)V" } : Jvm.MethodName)) ∈ gw_all := List.mem_filter.mpr ⟨List.mem_append_right _ (List.mem_of_getElem? (i := 1147) (by decide +kernel)), rfl⟩
theorem tb_1149 : (Jvm.Cond.instanceMethod ({ cls := "GraphWalkerModel", name := "act", desc := "(IJJ)V" } : Jvm.MethodName)) ∈ gw_all := List.mem_filter.mpr ⟨List.mem_append_right _ (List.mem_of_getElem? (i := 1149) (by decide +kernel)), rfl⟩
theorem tb_1150 : (Jvm.Cond.code ({ cls := "GraphWalkerModel", name := "act", desc := "(IJJ)V" } : Jvm.MethodName) prog_9_method_30_code (8 : Nat) (Option.none : Option Jvm.ClassFile.FieldType)) ∈ gw_T := List.mem_filter.mpr ⟨List.mem_append_right _ (List.mem_of_getElem? (i := 1150) (by decide +kernel)), rfl⟩
theorem tb_1175 : (Jvm.Cond.methodLink "GraphWalkerModel" (230 : Nat) ({ cls := "GraphWalkerModel", name := "isThing", desc := "(I)Z" } : Jvm.MethodName)) ∈ gw_all := List.mem_filter.mpr ⟨List.mem_append_right _ (List.mem_of_getElem? (i := 1175) (by decide +kernel)), rfl⟩
theorem tb_1177 : (Jvm.Cond.instanceMethod ({ cls := "GraphWalkerModel", name := "isThing", desc := "(I)Z" } : Jvm.MethodName)) ∈ gw_all := List.mem_filter.mpr ⟨List.mem_append_right _ (List.mem_of_getElem? (i := 1177) (by decide +kernel)), rfl⟩
theorem tb_1178 : (Jvm.Cond.code ({ cls := "GraphWalkerModel", name := "isThing", desc := "(I)Z" } : Jvm.MethodName) prog_9_method_36_code (2 : Nat) (Option.some Jvm.ClassFile.FieldType.boolean)) ∈ gw_T := List.mem_filter.mpr ⟨List.mem_append_right _ (List.mem_of_getElem? (i := 1178) (by decide +kernel)), rfl⟩
theorem sl_Mo_act : Cond.selects R_Mo y_Mo_act y_Mo_act ∈ gw_all := List.mem_filter.mpr ⟨List.mem_append_left _ (List.mem_of_getElem? (i := 49) (by decide +kernel)), rfl⟩
theorem sl_Mo_atHand : Cond.selects R_Mo y_Mo_atHand y_Mo_atHand ∈ gw_all := List.mem_filter.mpr ⟨List.mem_append_left _ (List.mem_of_getElem? (i := 30) (by decide +kernel)), rfl⟩
theorem sl_Mo_goOnWithTerm : Cond.selects R_Mo y_Mo_goOnWithTerm y_Mo_goOnWithTerm ∈ gw_all := List.mem_filter.mpr ⟨List.mem_append_left _ (List.mem_of_getElem? (i := 41) (by decide +kernel)), rfl⟩
theorem sl_Mo_goOnWithValue : Cond.selects R_Mo y_Mo_goOnWithValue y_Mo_goOnWithValue ∈ gw_all := List.mem_filter.mpr ⟨List.mem_append_left _ (List.mem_of_getElem? (i := 48) (by decide +kernel)), rfl⟩
theorem sl_Mo_hasRoom : Cond.selects R_Mo y_Mo_hasRoom y_Mo_hasRoom ∈ gw_all := List.mem_filter.mpr ⟨List.mem_append_left _ (List.mem_of_getElem? (i := 44) (by decide +kernel)), rfl⟩
theorem sl_Mo_isNew : Cond.selects R_Mo y_Mo_isNew y_Mo_isNew ∈ gw_all := List.mem_filter.mpr ⟨List.mem_append_left _ (List.mem_of_getElem? (i := 43) (by decide +kernel)), rfl⟩
theorem sl_Mo_isTerm : Cond.selects R_Mo y_Mo_isTerm y_Mo_isTerm ∈ gw_all := List.mem_filter.mpr ⟨List.mem_append_left _ (List.mem_of_getElem? (i := 29) (by decide +kernel)), rfl⟩
theorem sl_Mo_isThing : Cond.selects R_Mo y_Mo_isThing y_Mo_isThing ∈ gw_all := List.mem_filter.mpr ⟨List.mem_append_left _ (List.mem_of_getElem? (i := 50) (by decide +kernel)), rfl⟩
theorem sl_Mo_latestInWork : Cond.selects R_Mo y_Mo_latestInWork y_Mo_latestInWork ∈ gw_all := List.mem_filter.mpr ⟨List.mem_append_left _ (List.mem_of_getElem? (i := 39) (by decide +kernel)), rfl⟩
theorem sl_Mo_need : Cond.selects R_Mo y_Mo_need y_Mo_need ∈ gw_all := List.mem_filter.mpr ⟨List.mem_append_left _ (List.mem_of_getElem? (i := 37) (by decide +kernel)), rfl⟩
theorem sl_Mo_newPlace : Cond.selects R_Mo y_Mo_newPlace y_Mo_newPlace ∈ gw_all := List.mem_filter.mpr ⟨List.mem_append_left _ (List.mem_of_getElem? (i := 47) (by decide +kernel)), rfl⟩
theorem sl_Mo_newThing : Cond.selects R_Mo y_Mo_newThing y_Mo_newThing ∈ gw_all := List.mem_filter.mpr ⟨List.mem_append_left _ (List.mem_of_getElem? (i := 46) (by decide +kernel)), rfl⟩
theorem sl_Mo_push : Cond.selects R_Mo y_Mo_push y_Mo_push ∈ gw_all := List.mem_filter.mpr ⟨List.mem_append_left _ (List.mem_of_getElem? (i := 40) (by decide +kernel)), rfl⟩
theorem sl_Mo_reach : Cond.selects R_Mo y_Mo_reach y_Mo_reach ∈ gw_all := List.mem_filter.mpr ⟨List.mem_append_left _ (List.mem_of_getElem? (i := 34) (by decide +kernel)), rfl⟩
theorem sl_Mo_reachHand : Cond.selects R_Mo y_Mo_reachHand y_Mo_reachHand ∈ gw_all := List.mem_filter.mpr ⟨List.mem_append_left _ (List.mem_of_getElem? (i := 32) (by decide +kernel)), rfl⟩
theorem sl_Mo_reachPlaces : Cond.selects R_Mo y_Mo_reachPlaces y_Mo_reachPlaces ∈ gw_all := List.mem_filter.mpr ⟨List.mem_append_left _ (List.mem_of_getElem? (i := 33) (by decide +kernel)), rfl⟩
theorem sl_Mo_reachValue : Cond.selects R_Mo y_Mo_reachValue y_Mo_reachValue ∈ gw_all := List.mem_filter.mpr ⟨List.mem_append_left _ (List.mem_of_getElem? (i := 35) (by decide +kernel)), rfl⟩
theorem sl_Mo_step : Cond.selects R_Mo y_Mo_step y_Mo_step ∈ gw_all := List.mem_filter.mpr ⟨List.mem_append_left _ (List.mem_of_getElem? (i := 36) (by decide +kernel)), rfl⟩
theorem sl_Mo_sweep : Cond.selects R_Mo y_Mo_sweep y_Mo_sweep ∈ gw_all := List.mem_filter.mpr ⟨List.mem_append_left _ (List.mem_of_getElem? (i := 31) (by decide +kernel)), rfl⟩
theorem sl_Mo_term : Cond.selects R_Mo y_Mo_term y_Mo_term ∈ gw_all := List.mem_filter.mpr ⟨List.mem_append_left _ (List.mem_of_getElem? (i := 28) (by decide +kernel)), rfl⟩
theorem sl_Mo_thingOf : Cond.selects R_Mo y_Mo_thingOf y_Mo_thingOf ∈ gw_all := List.mem_filter.mpr ⟨List.mem_append_left _ (List.mem_of_getElem? (i := 45) (by decide +kernel)), rfl⟩
theorem sl_Mo_thingOfPlace : Cond.selects R_Mo y_Mo_thingOfPlace y_Mo_thingOfPlace ∈ gw_all := List.mem_filter.mpr ⟨List.mem_append_left _ (List.mem_of_getElem? (i := 42) (by decide +kernel)), rfl⟩
theorem sl_Mo_thrownBy : Cond.selects R_Mo y_Mo_thrownBy y_Mo_thrownBy ∈ gw_all := List.mem_filter.mpr ⟨List.mem_append_left _ (List.mem_of_getElem? (i := 27) (by decide +kernel)), rfl⟩
theorem sl_Mo_valueAtHand : Cond.selects R_Mo y_Mo_valueAtHand y_Mo_valueAtHand ∈ gw_all := List.mem_filter.mpr ⟨List.mem_append_left _ (List.mem_of_getElem? (i := 38) (by decide +kernel)), rfl⟩
theorem sl_Te_add : Cond.selects R_Te y_Te_add y_Te_add ∈ gw_all := List.mem_filter.mpr ⟨List.mem_append_left _ (List.mem_of_getElem? (i := 2) (by decide +kernel)), rfl⟩
theorem sl_Wa_actWith : Cond.selects R_Wa y_Wa_actWith y_Wa_actWith ∈ gw_all := List.mem_filter.mpr ⟨List.mem_append_left _ (List.mem_of_getElem? (i := 23) (by decide +kernel)), rfl⟩
theorem sl_Wa_chooseBranch : Cond.selects R_Wa y_Wa_chooseBranch y_Wa_chooseBranch ∈ gw_all := List.mem_filter.mpr ⟨List.mem_append_left _ (List.mem_of_getElem? (i := 24) (by decide +kernel)), rfl⟩
theorem sl_Wa_enter : Cond.selects R_Wa y_Wa_enter y_Wa_enter ∈ gw_all := List.mem_filter.mpr ⟨List.mem_append_left _ (List.mem_of_getElem? (i := 19) (by decide +kernel)), rfl⟩
theorem sl_Wa_enterApply : Cond.selects R_Wa y_Wa_enterApply y_Wa_enterApply ∈ gw_all := List.mem_filter.mpr ⟨List.mem_append_left _ (List.mem_of_getElem? (i := 17) (by decide +kernel)), rfl⟩
theorem sl_Wa_enterLet : Cond.selects R_Wa y_Wa_enterLet y_Wa_enterLet ∈ gw_all := List.mem_filter.mpr ⟨List.mem_append_left _ (List.mem_of_getElem? (i := 18) (by decide +kernel)), rfl⟩
theorem sl_Wa_giveThing : Cond.selects R_Wa y_Wa_giveThing y_Wa_giveThing ∈ gw_all := List.mem_filter.mpr ⟨List.mem_append_left _ (List.mem_of_getElem? (i := 21) (by decide +kernel)), rfl⟩
theorem sl_Wa_makePair : Cond.selects R_Wa y_Wa_makePair y_Wa_makePair ∈ gw_all := List.mem_filter.mpr ⟨List.mem_append_left _ (List.mem_of_getElem? (i := 14) (by decide +kernel)), rfl⟩
theorem sl_Wa_need : Cond.selects R_Wa y_Wa_need y_Wa_need ∈ gw_all := List.mem_filter.mpr ⟨List.mem_append_left _ (List.mem_of_getElem? (i := 12) (by decide +kernel)), rfl⟩
theorem sl_Wa_needWaiting : Cond.selects R_Wa y_Wa_needWaiting y_Wa_needWaiting ∈ gw_all := List.mem_filter.mpr ⟨List.mem_append_left _ (List.mem_of_getElem? (i := 13) (by decide +kernel)), rfl⟩
theorem sl_Wa_newThingsFor : Cond.selects R_Wa y_Wa_newThingsFor y_Wa_newThingsFor ∈ gw_all := List.mem_filter.mpr ⟨List.mem_append_left _ (List.mem_of_getElem? (i := 15) (by decide +kernel)), rfl⟩
theorem sl_Wa_reachFromHand : Cond.selects R_Wa y_Wa_reachFromHand y_Wa_reachFromHand ∈ gw_all := List.mem_filter.mpr ⟨List.mem_append_left _ (List.mem_of_getElem? (i := 6) (by decide +kernel)), rfl⟩
theorem sl_Wa_reachFromRow : Cond.selects R_Wa y_Wa_reachFromRow y_Wa_reachFromRow ∈ gw_all := List.mem_filter.mpr ⟨List.mem_append_left _ (List.mem_of_getElem? (i := 9) (by decide +kernel)), rfl⟩
theorem sl_Wa_reachFromThing : Cond.selects R_Wa y_Wa_reachFromThing y_Wa_reachFromThing ∈ gw_all := List.mem_filter.mpr ⟨List.mem_append_left _ (List.mem_of_getElem? (i := 10) (by decide +kernel)), rfl⟩
theorem sl_Wa_reachOfValue : Cond.selects R_Wa y_Wa_reachOfValue y_Wa_reachOfValue ∈ gw_all := List.mem_filter.mpr ⟨List.mem_append_left _ (List.mem_of_getElem? (i := 8) (by decide +kernel)), rfl⟩
theorem sl_Wa_reachPlaces : Cond.selects R_Wa y_Wa_reachPlaces y_Wa_reachPlaces ∈ gw_all := List.mem_filter.mpr ⟨List.mem_append_left _ (List.mem_of_getElem? (i := 7) (by decide +kernel)), rfl⟩
theorem sl_Wa_stepWithTerm : Cond.selects R_Wa y_Wa_stepWithTerm y_Wa_stepWithTerm ∈ gw_all := List.mem_filter.mpr ⟨List.mem_append_left _ (List.mem_of_getElem? (i := 11) (by decide +kernel)), rfl⟩
theorem sl_Wa_stepWithValue : Cond.selects R_Wa y_Wa_stepWithValue y_Wa_stepWithValue ∈ gw_all := List.mem_filter.mpr ⟨List.mem_append_left _ (List.mem_of_getElem? (i := 20) (by decide +kernel)), rfl⟩
theorem sl_Wa_takeOfPair : Cond.selects R_Wa y_Wa_takeOfPair y_Wa_takeOfPair ∈ gw_all := List.mem_filter.mpr ⟨List.mem_append_left _ (List.mem_of_getElem? (i := 25) (by decide +kernel)), rfl⟩
theorem sl_Wa_takeTerm : Cond.selects R_Wa y_Wa_takeTerm y_Wa_takeTerm ∈ gw_all := List.mem_filter.mpr ⟨List.mem_append_left _ (List.mem_of_getElem? (i := 4) (by decide +kernel)), rfl⟩
theorem sl_Wa_thenSecond : Cond.selects R_Wa y_Wa_thenSecond y_Wa_thenSecond ∈ gw_all := List.mem_filter.mpr ⟨List.mem_append_left _ (List.mem_of_getElem? (i := 22) (by decide +kernel)), rfl⟩
theorem sl_Wa_thingFor : Cond.selects R_Wa y_Wa_thingFor y_Wa_thingFor ∈ gw_all := List.mem_filter.mpr ⟨List.mem_append_left _ (List.mem_of_getElem? (i := 16) (by decide +kernel)), rfl⟩
end
section
abbrev rm_Pl_clear : Room := { frames := 0, cells := 0, slots := 0, locals := 0 }
abbrev rm_Th_clear : Room := { frames := 0, cells := 0, slots := 0, locals := 0 }
abbrev rm_Ro_clear : Room := { frames := 0, cells := 0, slots := 0, locals := 0 }
abbrev rm_Va_be : Room := { frames := 0, cells := 0, slots := 0, locals := 0 }
abbrev rm_Va_beNumber : Room := { frames := 1, cells := 0, slots := 0, locals := 25 }
abbrev rm_Wa_takeTerm : Room := { frames := 0, cells := 0, slots := 0, locals := 0 }
abbrev rm_Wa_start : Room := { frames := 2, cells := 0, slots := 0, locals := 47 }
abbrev rm_Wa_turnTo : Room := { frames := 0, cells := 0, slots := 0, locals := 0 }
abbrev rm_Th_forgetReached : Room := { frames := 0, cells := 0, slots := 0, locals := 0 }
abbrev rm_Pl_mark : Room := { frames := 0, cells := 0, slots := 0, locals := 0 }
abbrev rm_Pl_has : Room := { frames := 0, cells := 0, slots := 0, locals := 0 }
abbrev rm_Pl_heldBy : Room := { frames := 1, cells := 0, slots := 0, locals := 21 }
abbrev rm_Th_reach : Room := { frames := 0, cells := 0, slots := 0, locals := 0 }
abbrev rm_Pl_outerOf : Room := { frames := 1, cells := 0, slots := 0, locals := 21 }
abbrev rm_Wa_reachPlaces : Room := { frames := 2, cells := 0, slots := 0, locals := 42 }
abbrev rm_Wa_reachOfValue : Room := { frames := 3, cells := 0, slots := 0, locals := 65 }
abbrev rm_Wa_reachFromHand : Room := { frames := 4, cells := 0, slots := 0, locals := 88 }
abbrev rm_Ro_has : Room := { frames := 0, cells := 0, slots := 0, locals := 0 }
abbrev rm_Ro_kindOf : Room := { frames := 1, cells := 0, slots := 0, locals := 21 }
abbrev rm_Ro_firstOf : Room := { frames := 1, cells := 0, slots := 0, locals := 21 }
abbrev rm_Ro_secondOf : Room := { frames := 1, cells := 0, slots := 0, locals := 21 }
abbrev rm_Wa_reachFromRow : Room := { frames := 3, cells := 0, slots := 0, locals := 65 }
abbrev rm_Th_reachedAt : Room := { frames := 0, cells := 0, slots := 0, locals := 0 }
abbrev rm_Th_has : Room := { frames := 0, cells := 0, slots := 0, locals := 0 }
abbrev rm_Th_stateOf : Room := { frames := 1, cells := 0, slots := 0, locals := 21 }
abbrev rm_Th_placesOf : Room := { frames := 1, cells := 0, slots := 0, locals := 21 }
abbrev rm_Th_valueSortOf : Room := { frames := 1, cells := 0, slots := 0, locals := 21 }
abbrev rm_Th_valueFirstOf : Room := { frames := 1, cells := 0, slots := 0, locals := 21 }
abbrev rm_Th_valueSecondOf : Room := { frames := 1, cells := 0, slots := 0, locals := 21 }
abbrev rm_Wa_reachFromThing : Room := { frames := 4, cells := 0, slots := 0, locals := 88 }
abbrev rm_Th_keepReached : Room := { frames := 1, cells := 0, slots := 0, locals := 21 }
abbrev rm_Wa_sweepUnreached : Room := { frames := 5, cells := 0, slots := 0, locals := 110 }
abbrev rm_Te_has : Room := { frames := 0, cells := 0, slots := 0, locals := 0 }
abbrev rm_Te_sortOf : Room := { frames := 1, cells := 0, slots := 0, locals := 21 }
abbrev rm_Te_numberOf : Room := { frames := 1, cells := 0, slots := 0, locals := 21 }
abbrev rm_Va_beLambda : Room := { frames := 1, cells := 0, slots := 0, locals := 25 }
abbrev rm_Te_firstOf : Room := { frames := 1, cells := 0, slots := 0, locals := 21 }
abbrev rm_Pl_thingAt : Room := { frames := 1, cells := 0, slots := 0, locals := 21 }
abbrev rm_Ro_drop : Room := { frames := 0, cells := 0, slots := 0, locals := 0 }
abbrev rm_Th_copyValue : Room := { frames := 1, cells := 0, slots := 0, locals := 25 }
abbrev rm_Ro_isFull : Room := { frames := 0, cells := 0, slots := 0, locals := 0 }
abbrev rm_Th_countWork : Room := { frames := 1, cells := 0, slots := 0, locals := 21 }
abbrev rm_Ro_newestInWork : Room := { frames := 0, cells := 0, slots := 0, locals := 0 }
abbrev rm_Th_putInWork : Room := { frames := 1, cells := 0, slots := 0, locals := 21 }
abbrev rm_Ro_add : Room := { frames := 0, cells := 0, slots := 0, locals := 0 }
abbrev rm_Th_termOf : Room := { frames := 1, cells := 0, slots := 0, locals := 21 }
abbrev rm_Wa_needWaiting : Room := { frames := 2, cells := 0, slots := 0, locals := 43 }
abbrev rm_Wa_need : Room := { frames := 3, cells := 0, slots := 0, locals := 65 }
abbrev rm_Te_secondOf : Room := { frames := 1, cells := 0, slots := 0, locals := 21 }
abbrev rm_Wa_newThingsFor : Room := { frames := 2, cells := 0, slots := 0, locals := 42 }
abbrev rm_Th_hasRoomFor : Room := { frames := 0, cells := 0, slots := 0, locals := 0 }
abbrev rm_Th_add : Room := { frames := 0, cells := 0, slots := 0, locals := 0 }
abbrev rm_Wa_thingFor : Room := { frames := 2, cells := 0, slots := 0, locals := 45 }
abbrev rm_Va_bePair : Room := { frames := 1, cells := 0, slots := 0, locals := 25 }
abbrev rm_Wa_makePair : Room := { frames := 3, cells := 0, slots := 0, locals := 66 }
abbrev rm_Wa_enterApply : Room := { frames := 3, cells := 0, slots := 0, locals := 66 }
abbrev rm_Pl_isFull : Room := { frames := 0, cells := 0, slots := 0, locals := 0 }
abbrev rm_Pl_add : Room := { frames := 0, cells := 0, slots := 0, locals := 0 }
abbrev rm_Wa_enterLet : Room := { frames := 1, cells := 0, slots := 0, locals := 24 }
abbrev rm_Wa_enter : Room := { frames := 2, cells := 0, slots := 0, locals := 42 }
abbrev rm_Wa_stepWithTerm : Room := { frames := 4, cells := 0, slots := 0, locals := 90 }
abbrev rm_Ro_newest : Room := { frames := 0, cells := 0, slots := 0, locals := 0 }
abbrev rm_Th_finish : Room := { frames := 1, cells := 0, slots := 0, locals := 21 }
abbrev rm_Wa_giveThing : Room := { frames := 2, cells := 0, slots := 0, locals := 42 }
abbrev rm_Wa_thenSecond : Room := { frames := 2, cells := 0, slots := 0, locals := 42 }
abbrev rm_Te_thirdOf : Room := { frames := 1, cells := 0, slots := 0, locals := 21 }
abbrev rm_Ro_numberOf : Room := { frames := 1, cells := 0, slots := 0, locals := 21 }
abbrev rm_Wa_resultOf : Room := { frames := 0, cells := 0, slots := 0, locals := 0 }
abbrev rm_Wa_actWith : Room := { frames := 2, cells := 0, slots := 0, locals := 47 }
abbrev rm_Wa_chooseBranch : Room := { frames := 2, cells := 0, slots := 0, locals := 42 }
abbrev rm_Wa_takeOfPair : Room := { frames := 4, cells := 0, slots := 0, locals := 87 }
abbrev rm_Wa_stepWithValue : Room := { frames := 5, cells := 0, slots := 0, locals := 108 }
abbrev rm_Wa_step : Room := { frames := 6, cells := 0, slots := 0, locals := 131 }
abbrev rm_Wa_tally : Room := { frames := 0, cells := 0, slots := 0, locals := 0 }
abbrev rm_Wa_ringThing : Room := { frames := 2, cells := 0, slots := 0, locals := 42 }
abbrev rm_Te_isFull : Room := { frames := 0, cells := 0, slots := 0, locals := 0 }
abbrev rm_Te_add : Room := { frames := 0, cells := 0, slots := 0, locals := 0 }
abbrev rm_Te_addNumber : Room := { frames := 1, cells := 0, slots := 0, locals := 28 }
abbrev rm_Te_addVariable : Room := { frames := 1, cells := 0, slots := 0, locals := 28 }
abbrev rm_Te_lackOf : Room := { frames := 1, cells := 0, slots := 0, locals := 21 }
abbrev rm_Te_oneLess : Room := { frames := 1, cells := 0, slots := 0, locals := 13 }
abbrev rm_Te_addOne : Room := { frames := 2, cells := 0, slots := 0, locals := 42 }
abbrev rm_Te_addTwo : Room := { frames := 2, cells := 0, slots := 0, locals := 42 }
abbrev rm_Te_addChoose : Room := { frames := 2, cells := 0, slots := 0, locals := 42 }
abbrev rm_Th_timesOf : Room := { frames := 1, cells := 0, slots := 0, locals := 21 }
abbrev rm_Th_neederOf : Room := { frames := 1, cells := 0, slots := 0, locals := 21 }
abbrev rm_Gw_outcome : Room := { frames := 0, cells := 0, slots := 0, locals := 0 }
abbrev rm_Gw_sort : Room := { frames := 0, cells := 0, slots := 0, locals := 0 }
abbrev rm_Gw_value : Room := { frames := 0, cells := 0, slots := 0, locals := 0 }
abbrev rm_Mo_thrown : Room := { frames := 0, cells := 0, slots := 0, locals := 0 }
abbrev rm_Mo_isTerm : Room := { frames := 0, cells := 0, slots := 0, locals := 0 }
abbrev rm_Mo_thrownBy : Room := { frames := 0, cells := 0, slots := 0, locals := 0 }
abbrev rm_Mo_term : Room := { frames := 0, cells := 0, slots := 0, locals := 0 }
abbrev rm_Mo_more : Room := { frames := 0, cells := 0, slots := 0, locals := 0 }
abbrev rm_Mo_lessOne : Room := { frames := 0, cells := 0, slots := 0, locals := 0 }
abbrev rm_Mo_number : Room := { frames := 1, cells := 0, slots := 0, locals := 24 }
abbrev rm_Mo_variable : Room := { frames := 1, cells := 0, slots := 0, locals := 24 }
abbrev rm_Mo_one : Room := { frames := 1, cells := 0, slots := 0, locals := 24 }
abbrev rm_Mo_two : Room := { frames := 1, cells := 0, slots := 0, locals := 24 }
abbrev rm_Mo_choose : Room := { frames := 1, cells := 0, slots := 0, locals := 24 }
abbrev rm_Mo_lacks : Room := { frames := 1, cells := 0, slots := 0, locals := 21 }
abbrev rm_Mo_atHand : Room := { frames := 0, cells := 0, slots := 0, locals := 0 }
abbrev rm_Mo_begin : Room := { frames := 1, cells := 0, slots := 0, locals := 22 }
abbrev rm_Mo_valueAtHand : Room := { frames := 0, cells := 0, slots := 0, locals := 0 }
abbrev rm_Mo_reach : Room := { frames := 0, cells := 0, slots := 0, locals := 0 }
abbrev rm_Mo_reachPlaces : Room := { frames := 1, cells := 0, slots := 0, locals := 21 }
abbrev rm_Mo_reachValue : Room := { frames := 2, cells := 0, slots := 0, locals := 43 }
abbrev rm_Mo_reachHand : Room := { frames := 3, cells := 0, slots := 0, locals := 66 }
abbrev rm_Mo_sweep : Room := { frames := 4, cells := 0, slots := 0, locals := 87 }
abbrev rm_Mo_latestInWork : Room := { frames := 0, cells := 0, slots := 0, locals := 0 }
abbrev rm_Mo_push : Room := { frames := 0, cells := 0, slots := 0, locals := 0 }
abbrev rm_Mo_need : Room := { frames := 1, cells := 0, slots := 0, locals := 25 }
abbrev rm_Mo_thingOfPlace : Room := { frames := 0, cells := 0, slots := 0, locals := 0 }
abbrev rm_Mo_isNew : Room := { frames := 0, cells := 0, slots := 0, locals := 0 }
abbrev rm_Mo_hasRoom : Room := { frames := 0, cells := 0, slots := 0, locals := 0 }
abbrev rm_Mo_newThing : Room := { frames := 0, cells := 0, slots := 0, locals := 0 }
abbrev rm_Mo_thingOf : Room := { frames := 1, cells := 0, slots := 0, locals := 24 }
abbrev rm_Mo_newPlace : Room := { frames := 0, cells := 0, slots := 0, locals := 0 }
abbrev rm_Mo_goOnWithTerm : Room := { frames := 2, cells := 0, slots := 0, locals := 48 }
abbrev rm_Mo_act : Room := { frames := 1, cells := 0, slots := 0, locals := 25 }
abbrev rm_Mo_goOnWithValue : Room := { frames := 2, cells := 0, slots := 0, locals := 52 }
abbrev rm_Mo_step : Room := { frames := 3, cells := 0, slots := 0, locals := 75 }
abbrev rm_Mo_run : Room := { frames := 5, cells := 0, slots := 0, locals := 109 }
abbrev rm_Mo_into : Room := { frames := 0, cells := 0, slots := 0, locals := 0 }
abbrev rm_Mo_outcome : Room := { frames := 0, cells := 0, slots := 0, locals := 0 }
abbrev rm_Mo_sort : Room := { frames := 0, cells := 0, slots := 0, locals := 0 }
abbrev rm_Mo_value : Room := { frames := 0, cells := 0, slots := 0, locals := 0 }
abbrev rm_Mo_told : Room := { frames := 1, cells := 0, slots := 0, locals := 21 }
abbrev rm_Mo_isThing : Room := { frames := 0, cells := 0, slots := 0, locals := 0 }
abbrev rm_Mo_thing : Room := { frames := 1, cells := 0, slots := 0, locals := 21 }
abbrev rm_Mo_worked : Room := { frames := 1, cells := 0, slots := 0, locals := 21 }
abbrev rm_Mo_ring : Room := { frames := 1, cells := 0, slots := 0, locals := 21 }
abbrev rm_Mo_entry : Room := { frames := 1, cells := 0, slots := 0, locals := 21 }
abbrev rm_Mo_collect : Room := { frames := 5, cells := 0, slots := 0, locals := 109 }
abbrev rm_Mo_every : Room := { frames := 1, cells := 0, slots := 0, locals := 21 }
theorem fg_Gw_10 {p : Program} {l : Launch} {e : Env} {R : Room} {s : State} {m : MethodId} {args : Array Value} {below : List Frame} {meth : Method} {c : Code} {Q : State → Prop} {cc : ByteArray} {nL : Nat} {D : va_G} {tys : List (ClassId × FieldType)} {A : Nat → Prop} {cells slots : Nat} {ws : va_W} {lv : List (Nat × Value)} {pc : Nat} {st : List Value} {a : Nat} {fs : List Value} {v : Value} (C : gw_C p s m args meth c cc nL R_Gw D gw_cl tys A) (q0 : Nat) (he : ws[q0]? = some (a, .inr (0, fs))) (hv : fs[0]? = some v) (hdg : decode cc pc = .ok (.getfield 10, 3)) (kk : gw_W p l e R s m args below meth c D gw_cl A Q cells slots nL ws lv (pc + 3) (v :: st)) : gw_W p l e R s m args below meth c D gw_cl A Q cells slots nL ws lv pc (.ref a :: st) :=
  gw_get (K := R_Gw) (T := T_Gw) (N := 1) C 0 i_Gw rfl (by decide) tb_251 q0 he hv hdg kk
theorem fg_Gw_76 {p : Program} {l : Launch} {e : Env} {R : Room} {s : State} {m : MethodId} {args : Array Value} {below : List Frame} {meth : Method} {c : Code} {Q : State → Prop} {cc : ByteArray} {nL : Nat} {D : va_G} {tys : List (ClassId × FieldType)} {A : Nat → Prop} {cells slots : Nat} {ws : va_W} {lv : List (Nat × Value)} {pc : Nat} {st : List Value} {a : Nat} {fs : List Value} {v : Value} (C : gw_C p s m args meth c cc nL R_Gw D gw_cl tys A) (q0 : Nat) (he : ws[q0]? = some (a, .inr (1, fs))) (hv : fs[5]? = some v) (hdg : decode cc pc = .ok (.getfield 76, 3)) (kk : gw_W p l e R s m args below meth c D gw_cl A Q cells slots nL ws lv (pc + 3) (v :: st)) : gw_W p l e R s m args below meth c D gw_cl A Q cells slots nL ws lv pc (.ref a :: st) :=
  gw_getN (K := R_Wa) (T := T_Wa) (N := 17) C 5 i_Wa rfl (by decide) tb_203 q0 he hv hdg kk
theorem fg_Gw_83 {p : Program} {l : Launch} {e : Env} {R : Room} {s : State} {m : MethodId} {args : Array Value} {below : List Frame} {meth : Method} {c : Code} {Q : State → Prop} {cc : ByteArray} {nL : Nat} {D : va_G} {tys : List (ClassId × FieldType)} {A : Nat → Prop} {cells slots : Nat} {ws : va_W} {lv : List (Nat × Value)} {pc : Nat} {st : List Value} {a : Nat} {fs : List Value} {v : Value} (C : gw_C p s m args meth c cc nL R_Gw D gw_cl tys A) (q0 : Nat) (he : ws[q0]? = some (a, .inr (1, fs))) (hv : fs[4]? = some v) (hdg : decode cc pc = .ok (.getfield 83, 3)) (kk : gw_W p l e R s m args below meth c D gw_cl A Q cells slots nL ws lv (pc + 3) (v :: st)) : gw_W p l e R s m args below meth c D gw_cl A Q cells slots nL ws lv pc (.ref a :: st) :=
  gw_getN (K := R_Wa) (T := T_Wa) (N := 17) C 4 i_Wa rfl (by decide) tb_201 q0 he hv hdg kk
theorem fg_Gw_87 {p : Program} {l : Launch} {e : Env} {R : Room} {s : State} {m : MethodId} {args : Array Value} {below : List Frame} {meth : Method} {c : Code} {Q : State → Prop} {cc : ByteArray} {nL : Nat} {D : va_G} {tys : List (ClassId × FieldType)} {A : Nat → Prop} {cells slots : Nat} {ws : va_W} {lv : List (Nat × Value)} {pc : Nat} {st : List Value} {a : Nat} {fs : List Value} {v : Value} (C : gw_C p s m args meth c cc nL R_Gw D gw_cl tys A) (q0 : Nat) (he : ws[q0]? = some (a, .inr (6, fs))) (hv : fs[0]? = some v) (hdg : decode cc pc = .ok (.getfield 87, 3)) (kk : gw_W p l e R s m args below meth c D gw_cl A Q cells slots nL ws lv (pc + 3) (v :: st)) : gw_W p l e R s m args below meth c D gw_cl A Q cells slots nL ws lv pc (.ref a :: st) :=
  gw_getN (K := R_Va) (T := T_Va) (N := 4) C 0 i_Va rfl (by decide) tb_169 q0 he hv hdg kk
theorem fg_Gw_105 {p : Program} {l : Launch} {e : Env} {R : Room} {s : State} {m : MethodId} {args : Array Value} {below : List Frame} {meth : Method} {c : Code} {Q : State → Prop} {cc : ByteArray} {nL : Nat} {D : va_G} {tys : List (ClassId × FieldType)} {A : Nat → Prop} {cells slots : Nat} {ws : va_W} {lv : List (Nat × Value)} {pc : Nat} {st : List Value} {a : Nat} {fs : List Value} {v : Value} (C : gw_C p s m args meth c cc nL R_Gw D gw_cl tys A) (q0 : Nat) (he : ws[q0]? = some (a, .inr (6, fs))) (hv : fs[1]? = some v) (hdg : decode cc pc = .ok (.getfield 105, 3)) (kk : gw_W p l e R s m args below meth c D gw_cl A Q cells slots nL ws lv (pc + 3) (v :: st)) : gw_W p l e R s m args below meth c D gw_cl A Q cells slots nL ws lv pc (.ref a :: st) :=
  gw_getN (K := R_Va) (T := T_Va) (N := 4) C 1 i_Va rfl (by decide) tb_173 q0 he hv hdg kk
theorem fg_Pl_9 {p : Program} {l : Launch} {e : Env} {R : Room} {s : State} {m : MethodId} {args : Array Value} {below : List Frame} {meth : Method} {c : Code} {Q : State → Prop} {cc : ByteArray} {nL : Nat} {D : va_G} {tys : List (ClassId × FieldType)} {A : Nat → Prop} {cells slots : Nat} {ws : va_W} {lv : List (Nat × Value)} {pc : Nat} {st : List Value} {a : Nat} {fs : List Value} {v : Value} (C : gw_C p s m args meth c cc nL R_Pl D gw_cl tys A) (q0 : Nat) (he : ws[q0]? = some (a, .inr (3, fs))) (hv : fs[0]? = some v) (hdg : decode cc pc = .ok (.getfield 9, 3)) (kk : gw_W p l e R s m args below meth c D gw_cl A Q cells slots nL ws lv (pc + 3) (v :: st)) : gw_W p l e R s m args below meth c D gw_cl A Q cells slots nL ws lv pc (.ref a :: st) :=
  gw_get (K := R_Pl) (T := T_Pl) (N := 4) C 0 i_Pl rfl (by decide) tb_66 q0 he hv hdg kk
theorem fg_Pl_15 {p : Program} {l : Launch} {e : Env} {R : Room} {s : State} {m : MethodId} {args : Array Value} {below : List Frame} {meth : Method} {c : Code} {Q : State → Prop} {cc : ByteArray} {nL : Nat} {D : va_G} {tys : List (ClassId × FieldType)} {A : Nat → Prop} {cells slots : Nat} {ws : va_W} {lv : List (Nat × Value)} {pc : Nat} {st : List Value} {a : Nat} {fs : List Value} {v : Value} (C : gw_C p s m args meth c cc nL R_Pl D gw_cl tys A) (q0 : Nat) (he : ws[q0]? = some (a, .inr (3, fs))) (hv : fs[1]? = some v) (hdg : decode cc pc = .ok (.getfield 15, 3)) (kk : gw_W p l e R s m args below meth c D gw_cl A Q cells slots nL ws lv (pc + 3) (v :: st)) : gw_W p l e R s m args below meth c D gw_cl A Q cells slots nL ws lv pc (.ref a :: st) :=
  gw_get (K := R_Pl) (T := T_Pl) (N := 4) C 1 i_Pl rfl (by decide) tb_67 q0 he hv hdg kk
theorem fg_Pl_18 {p : Program} {l : Launch} {e : Env} {R : Room} {s : State} {m : MethodId} {args : Array Value} {below : List Frame} {meth : Method} {c : Code} {Q : State → Prop} {cc : ByteArray} {nL : Nat} {D : va_G} {tys : List (ClassId × FieldType)} {A : Nat → Prop} {cells slots : Nat} {ws : va_W} {lv : List (Nat × Value)} {pc : Nat} {st : List Value} {a : Nat} {fs : List Value} {v : Value} (C : gw_C p s m args meth c cc nL R_Pl D gw_cl tys A) (q0 : Nat) (he : ws[q0]? = some (a, .inr (3, fs))) (hv : fs[2]? = some v) (hdg : decode cc pc = .ok (.getfield 18, 3)) (kk : gw_W p l e R s m args below meth c D gw_cl A Q cells slots nL ws lv (pc + 3) (v :: st)) : gw_W p l e R s m args below meth c D gw_cl A Q cells slots nL ws lv pc (.ref a :: st) :=
  gw_get (K := R_Pl) (T := T_Pl) (N := 4) C 2 i_Pl rfl (by decide) tb_68 q0 he hv hdg kk
theorem fg_Pl_21 {p : Program} {l : Launch} {e : Env} {R : Room} {s : State} {m : MethodId} {args : Array Value} {below : List Frame} {meth : Method} {c : Code} {Q : State → Prop} {cc : ByteArray} {nL : Nat} {D : va_G} {tys : List (ClassId × FieldType)} {A : Nat → Prop} {cells slots : Nat} {ws : va_W} {lv : List (Nat × Value)} {pc : Nat} {st : List Value} {a : Nat} {fs : List Value} {v : Value} (C : gw_C p s m args meth c cc nL R_Pl D gw_cl tys A) (q0 : Nat) (he : ws[q0]? = some (a, .inr (3, fs))) (hv : fs[3]? = some v) (hdg : decode cc pc = .ok (.getfield 21, 3)) (kk : gw_W p l e R s m args below meth c D gw_cl A Q cells slots nL ws lv (pc + 3) (v :: st)) : gw_W p l e R s m args below meth c D gw_cl A Q cells slots nL ws lv pc (.ref a :: st) :=
  gw_get (K := R_Pl) (T := T_Pl) (N := 4) C 3 i_Pl rfl (by decide) tb_69 q0 he hv hdg kk
theorem fp_Pl_21 {p : Program} {l : Launch} {e : Env} {R : Room} {s : State} {m : MethodId} {args : Array Value} {below : List Frame} {meth : Method} {c : Code} {Q : State → Prop} {cc : ByteArray} {nL : Nat} {D : va_G} {tys : List (ClassId × FieldType)} {A : Nat → Prop} {cells slots : Nat} {ws : va_W} {lv : List (Nat × Value)} {pc : Nat} {st : List Value} {a : Nat} {fs : List Value} {v : Value} {ws' : va_W} (C : gw_C p s m args meth c cc nL R_Pl D gw_cl tys A) (q0 : Nat) (he : ws[q0]? = some (a, .inr (3, fs))) (hn : narrow (.int) v = v) (hfit : fits (.int) v = true) (hl0 : 3 < fs.length) (hdg : decode cc pc = .ok (.putfield 21, 3)) (hw : ws.set q0 (a, .inr (3, fs.set 3 v)) = ws') (kk : gw_W p l e R s m args below meth c D gw_cl A Q cells slots nL ws' lv (pc + 3) st) : gw_W p l e R s m args below meth c D gw_cl A Q cells slots nL ws lv pc (v :: .ref a :: st) :=
  gw_put (K := R_Pl) (T := T_Pl) (N := 4) (ty := .int) C 3 i_Pl t_Pl t_Pl_ok n_Pl rfl (by decide) tb_69 rfl (by decide +kernel) q0 he hn hfit hl0 hdg hw kk
theorem fg_Ro_9 {p : Program} {l : Launch} {e : Env} {R : Room} {s : State} {m : MethodId} {args : Array Value} {below : List Frame} {meth : Method} {c : Code} {Q : State → Prop} {cc : ByteArray} {nL : Nat} {D : va_G} {tys : List (ClassId × FieldType)} {A : Nat → Prop} {cells slots : Nat} {ws : va_W} {lv : List (Nat × Value)} {pc : Nat} {st : List Value} {a : Nat} {fs : List Value} {v : Value} (C : gw_C p s m args meth c cc nL R_Ro D gw_cl tys A) (q0 : Nat) (he : ws[q0]? = some (a, .inr (5, fs))) (hv : fs[0]? = some v) (hdg : decode cc pc = .ok (.getfield 9, 3)) (kk : gw_W p l e R s m args below meth c D gw_cl A Q cells slots nL ws lv (pc + 3) (v :: st)) : gw_W p l e R s m args below meth c D gw_cl A Q cells slots nL ws lv pc (.ref a :: st) :=
  gw_get (K := R_Ro) (T := T_Ro) (N := 6) C 0 i_Ro rfl (by decide) tb_141 q0 he hv hdg kk
theorem fg_Ro_15 {p : Program} {l : Launch} {e : Env} {R : Room} {s : State} {m : MethodId} {args : Array Value} {below : List Frame} {meth : Method} {c : Code} {Q : State → Prop} {cc : ByteArray} {nL : Nat} {D : va_G} {tys : List (ClassId × FieldType)} {A : Nat → Prop} {cells slots : Nat} {ws : va_W} {lv : List (Nat × Value)} {pc : Nat} {st : List Value} {a : Nat} {fs : List Value} {v : Value} (C : gw_C p s m args meth c cc nL R_Ro D gw_cl tys A) (q0 : Nat) (he : ws[q0]? = some (a, .inr (5, fs))) (hv : fs[1]? = some v) (hdg : decode cc pc = .ok (.getfield 15, 3)) (kk : gw_W p l e R s m args below meth c D gw_cl A Q cells slots nL ws lv (pc + 3) (v :: st)) : gw_W p l e R s m args below meth c D gw_cl A Q cells slots nL ws lv pc (.ref a :: st) :=
  gw_get (K := R_Ro) (T := T_Ro) (N := 6) C 1 i_Ro rfl (by decide) tb_142 q0 he hv hdg kk
theorem fg_Ro_18 {p : Program} {l : Launch} {e : Env} {R : Room} {s : State} {m : MethodId} {args : Array Value} {below : List Frame} {meth : Method} {c : Code} {Q : State → Prop} {cc : ByteArray} {nL : Nat} {D : va_G} {tys : List (ClassId × FieldType)} {A : Nat → Prop} {cells slots : Nat} {ws : va_W} {lv : List (Nat × Value)} {pc : Nat} {st : List Value} {a : Nat} {fs : List Value} {v : Value} (C : gw_C p s m args meth c cc nL R_Ro D gw_cl tys A) (q0 : Nat) (he : ws[q0]? = some (a, .inr (5, fs))) (hv : fs[2]? = some v) (hdg : decode cc pc = .ok (.getfield 18, 3)) (kk : gw_W p l e R s m args below meth c D gw_cl A Q cells slots nL ws lv (pc + 3) (v :: st)) : gw_W p l e R s m args below meth c D gw_cl A Q cells slots nL ws lv pc (.ref a :: st) :=
  gw_get (K := R_Ro) (T := T_Ro) (N := 6) C 2 i_Ro rfl (by decide) tb_143 q0 he hv hdg kk
theorem fg_Ro_21 {p : Program} {l : Launch} {e : Env} {R : Room} {s : State} {m : MethodId} {args : Array Value} {below : List Frame} {meth : Method} {c : Code} {Q : State → Prop} {cc : ByteArray} {nL : Nat} {D : va_G} {tys : List (ClassId × FieldType)} {A : Nat → Prop} {cells slots : Nat} {ws : va_W} {lv : List (Nat × Value)} {pc : Nat} {st : List Value} {a : Nat} {fs : List Value} {v : Value} (C : gw_C p s m args meth c cc nL R_Ro D gw_cl tys A) (q0 : Nat) (he : ws[q0]? = some (a, .inr (5, fs))) (hv : fs[3]? = some v) (hdg : decode cc pc = .ok (.getfield 21, 3)) (kk : gw_W p l e R s m args below meth c D gw_cl A Q cells slots nL ws lv (pc + 3) (v :: st)) : gw_W p l e R s m args below meth c D gw_cl A Q cells slots nL ws lv pc (.ref a :: st) :=
  gw_get (K := R_Ro) (T := T_Ro) (N := 6) C 3 i_Ro rfl (by decide) tb_144 q0 he hv hdg kk
theorem fg_Ro_25 {p : Program} {l : Launch} {e : Env} {R : Room} {s : State} {m : MethodId} {args : Array Value} {below : List Frame} {meth : Method} {c : Code} {Q : State → Prop} {cc : ByteArray} {nL : Nat} {D : va_G} {tys : List (ClassId × FieldType)} {A : Nat → Prop} {cells slots : Nat} {ws : va_W} {lv : List (Nat × Value)} {pc : Nat} {st : List Value} {a : Nat} {fs : List Value} {v : Value} (C : gw_C p s m args meth c cc nL R_Ro D gw_cl tys A) (q0 : Nat) (he : ws[q0]? = some (a, .inr (5, fs))) (hv : fs[4]? = some v) (hdg : decode cc pc = .ok (.getfield 25, 3)) (kk : gw_W p l e R s m args below meth c D gw_cl A Q cells slots nL ws lv (pc + 3) (v :: st)) : gw_W p l e R s m args below meth c D gw_cl A Q cells slots nL ws lv pc (.ref a :: st) :=
  gw_get (K := R_Ro) (T := T_Ro) (N := 6) C 4 i_Ro rfl (by decide) tb_145 q0 he hv hdg kk
theorem fp_Ro_25 {p : Program} {l : Launch} {e : Env} {R : Room} {s : State} {m : MethodId} {args : Array Value} {below : List Frame} {meth : Method} {c : Code} {Q : State → Prop} {cc : ByteArray} {nL : Nat} {D : va_G} {tys : List (ClassId × FieldType)} {A : Nat → Prop} {cells slots : Nat} {ws : va_W} {lv : List (Nat × Value)} {pc : Nat} {st : List Value} {a : Nat} {fs : List Value} {v : Value} {ws' : va_W} (C : gw_C p s m args meth c cc nL R_Ro D gw_cl tys A) (q0 : Nat) (he : ws[q0]? = some (a, .inr (5, fs))) (hn : narrow (.int) v = v) (hfit : fits (.int) v = true) (hl0 : 4 < fs.length) (hdg : decode cc pc = .ok (.putfield 25, 3)) (hw : ws.set q0 (a, .inr (5, fs.set 4 v)) = ws') (kk : gw_W p l e R s m args below meth c D gw_cl A Q cells slots nL ws' lv (pc + 3) st) : gw_W p l e R s m args below meth c D gw_cl A Q cells slots nL ws lv pc (v :: .ref a :: st) :=
  gw_put (K := R_Ro) (T := T_Ro) (N := 6) (ty := .int) C 4 i_Ro t_Ro t_Ro_ok n_Ro rfl (by decide) tb_145 rfl (by decide +kernel) q0 he hn hfit hl0 hdg hw kk
theorem fg_Ro_29 {p : Program} {l : Launch} {e : Env} {R : Room} {s : State} {m : MethodId} {args : Array Value} {below : List Frame} {meth : Method} {c : Code} {Q : State → Prop} {cc : ByteArray} {nL : Nat} {D : va_G} {tys : List (ClassId × FieldType)} {A : Nat → Prop} {cells slots : Nat} {ws : va_W} {lv : List (Nat × Value)} {pc : Nat} {st : List Value} {a : Nat} {fs : List Value} {v : Value} (C : gw_C p s m args meth c cc nL R_Ro D gw_cl tys A) (q0 : Nat) (he : ws[q0]? = some (a, .inr (5, fs))) (hv : fs[5]? = some v) (hdg : decode cc pc = .ok (.getfield 29, 3)) (kk : gw_W p l e R s m args below meth c D gw_cl A Q cells slots nL ws lv (pc + 3) (v :: st)) : gw_W p l e R s m args below meth c D gw_cl A Q cells slots nL ws lv pc (.ref a :: st) :=
  gw_get (K := R_Ro) (T := T_Ro) (N := 6) C 5 i_Ro rfl (by decide) tb_147 q0 he hv hdg kk
theorem fp_Ro_29 {p : Program} {l : Launch} {e : Env} {R : Room} {s : State} {m : MethodId} {args : Array Value} {below : List Frame} {meth : Method} {c : Code} {Q : State → Prop} {cc : ByteArray} {nL : Nat} {D : va_G} {tys : List (ClassId × FieldType)} {A : Nat → Prop} {cells slots : Nat} {ws : va_W} {lv : List (Nat × Value)} {pc : Nat} {st : List Value} {a : Nat} {fs : List Value} {v : Value} {ws' : va_W} (C : gw_C p s m args meth c cc nL R_Ro D gw_cl tys A) (q0 : Nat) (he : ws[q0]? = some (a, .inr (5, fs))) (hn : narrow (.int) v = v) (hfit : fits (.int) v = true) (hl0 : 5 < fs.length) (hdg : decode cc pc = .ok (.putfield 29, 3)) (hw : ws.set q0 (a, .inr (5, fs.set 5 v)) = ws') (kk : gw_W p l e R s m args below meth c D gw_cl A Q cells slots nL ws' lv (pc + 3) st) : gw_W p l e R s m args below meth c D gw_cl A Q cells slots nL ws lv pc (v :: .ref a :: st) :=
  gw_put (K := R_Ro) (T := T_Ro) (N := 6) (ty := .int) C 5 i_Ro t_Ro t_Ro_ok n_Ro rfl (by decide) tb_147 rfl (by decide +kernel) q0 he hn hfit hl0 hdg hw kk
theorem fg_Te_9 {p : Program} {l : Launch} {e : Env} {R : Room} {s : State} {m : MethodId} {args : Array Value} {below : List Frame} {meth : Method} {c : Code} {Q : State → Prop} {cc : ByteArray} {nL : Nat} {D : va_G} {tys : List (ClassId × FieldType)} {A : Nat → Prop} {cells slots : Nat} {ws : va_W} {lv : List (Nat × Value)} {pc : Nat} {st : List Value} {a : Nat} {fs : List Value} {v : Value} (C : gw_C p s m args meth c cc nL R_Te D gw_cl tys A) (q0 : Nat) (he : ws[q0]? = some (a, .inr (2, fs))) (hv : fs[0]? = some v) (hdg : decode cc pc = .ok (.getfield 9, 3)) (kk : gw_W p l e R s m args below meth c D gw_cl A Q cells slots nL ws lv (pc + 3) (v :: st)) : gw_W p l e R s m args below meth c D gw_cl A Q cells slots nL ws lv pc (.ref a :: st) :=
  gw_get (K := R_Te) (T := T_Te) (N := 7) C 0 i_Te rfl (by decide) tb_36 q0 he hv hdg kk
theorem fg_Te_15 {p : Program} {l : Launch} {e : Env} {R : Room} {s : State} {m : MethodId} {args : Array Value} {below : List Frame} {meth : Method} {c : Code} {Q : State → Prop} {cc : ByteArray} {nL : Nat} {D : va_G} {tys : List (ClassId × FieldType)} {A : Nat → Prop} {cells slots : Nat} {ws : va_W} {lv : List (Nat × Value)} {pc : Nat} {st : List Value} {a : Nat} {fs : List Value} {v : Value} (C : gw_C p s m args meth c cc nL R_Te D gw_cl tys A) (q0 : Nat) (he : ws[q0]? = some (a, .inr (2, fs))) (hv : fs[1]? = some v) (hdg : decode cc pc = .ok (.getfield 15, 3)) (kk : gw_W p l e R s m args below meth c D gw_cl A Q cells slots nL ws lv (pc + 3) (v :: st)) : gw_W p l e R s m args below meth c D gw_cl A Q cells slots nL ws lv pc (.ref a :: st) :=
  gw_get (K := R_Te) (T := T_Te) (N := 7) C 1 i_Te rfl (by decide) tb_37 q0 he hv hdg kk
theorem fg_Te_18 {p : Program} {l : Launch} {e : Env} {R : Room} {s : State} {m : MethodId} {args : Array Value} {below : List Frame} {meth : Method} {c : Code} {Q : State → Prop} {cc : ByteArray} {nL : Nat} {D : va_G} {tys : List (ClassId × FieldType)} {A : Nat → Prop} {cells slots : Nat} {ws : va_W} {lv : List (Nat × Value)} {pc : Nat} {st : List Value} {a : Nat} {fs : List Value} {v : Value} (C : gw_C p s m args meth c cc nL R_Te D gw_cl tys A) (q0 : Nat) (he : ws[q0]? = some (a, .inr (2, fs))) (hv : fs[2]? = some v) (hdg : decode cc pc = .ok (.getfield 18, 3)) (kk : gw_W p l e R s m args below meth c D gw_cl A Q cells slots nL ws lv (pc + 3) (v :: st)) : gw_W p l e R s m args below meth c D gw_cl A Q cells slots nL ws lv pc (.ref a :: st) :=
  gw_get (K := R_Te) (T := T_Te) (N := 7) C 2 i_Te rfl (by decide) tb_38 q0 he hv hdg kk
theorem fg_Te_21 {p : Program} {l : Launch} {e : Env} {R : Room} {s : State} {m : MethodId} {args : Array Value} {below : List Frame} {meth : Method} {c : Code} {Q : State → Prop} {cc : ByteArray} {nL : Nat} {D : va_G} {tys : List (ClassId × FieldType)} {A : Nat → Prop} {cells slots : Nat} {ws : va_W} {lv : List (Nat × Value)} {pc : Nat} {st : List Value} {a : Nat} {fs : List Value} {v : Value} (C : gw_C p s m args meth c cc nL R_Te D gw_cl tys A) (q0 : Nat) (he : ws[q0]? = some (a, .inr (2, fs))) (hv : fs[3]? = some v) (hdg : decode cc pc = .ok (.getfield 21, 3)) (kk : gw_W p l e R s m args below meth c D gw_cl A Q cells slots nL ws lv (pc + 3) (v :: st)) : gw_W p l e R s m args below meth c D gw_cl A Q cells slots nL ws lv pc (.ref a :: st) :=
  gw_get (K := R_Te) (T := T_Te) (N := 7) C 3 i_Te rfl (by decide) tb_39 q0 he hv hdg kk
theorem fg_Te_24 {p : Program} {l : Launch} {e : Env} {R : Room} {s : State} {m : MethodId} {args : Array Value} {below : List Frame} {meth : Method} {c : Code} {Q : State → Prop} {cc : ByteArray} {nL : Nat} {D : va_G} {tys : List (ClassId × FieldType)} {A : Nat → Prop} {cells slots : Nat} {ws : va_W} {lv : List (Nat × Value)} {pc : Nat} {st : List Value} {a : Nat} {fs : List Value} {v : Value} (C : gw_C p s m args meth c cc nL R_Te D gw_cl tys A) (q0 : Nat) (he : ws[q0]? = some (a, .inr (2, fs))) (hv : fs[4]? = some v) (hdg : decode cc pc = .ok (.getfield 24, 3)) (kk : gw_W p l e R s m args below meth c D gw_cl A Q cells slots nL ws lv (pc + 3) (v :: st)) : gw_W p l e R s m args below meth c D gw_cl A Q cells slots nL ws lv pc (.ref a :: st) :=
  gw_get (K := R_Te) (T := T_Te) (N := 7) C 4 i_Te rfl (by decide) tb_40 q0 he hv hdg kk
theorem fg_Te_28 {p : Program} {l : Launch} {e : Env} {R : Room} {s : State} {m : MethodId} {args : Array Value} {below : List Frame} {meth : Method} {c : Code} {Q : State → Prop} {cc : ByteArray} {nL : Nat} {D : va_G} {tys : List (ClassId × FieldType)} {A : Nat → Prop} {cells slots : Nat} {ws : va_W} {lv : List (Nat × Value)} {pc : Nat} {st : List Value} {a : Nat} {fs : List Value} {v : Value} (C : gw_C p s m args meth c cc nL R_Te D gw_cl tys A) (q0 : Nat) (he : ws[q0]? = some (a, .inr (2, fs))) (hv : fs[5]? = some v) (hdg : decode cc pc = .ok (.getfield 28, 3)) (kk : gw_W p l e R s m args below meth c D gw_cl A Q cells slots nL ws lv (pc + 3) (v :: st)) : gw_W p l e R s m args below meth c D gw_cl A Q cells slots nL ws lv pc (.ref a :: st) :=
  gw_get (K := R_Te) (T := T_Te) (N := 7) C 5 i_Te rfl (by decide) tb_41 q0 he hv hdg kk
theorem fg_Te_31 {p : Program} {l : Launch} {e : Env} {R : Room} {s : State} {m : MethodId} {args : Array Value} {below : List Frame} {meth : Method} {c : Code} {Q : State → Prop} {cc : ByteArray} {nL : Nat} {D : va_G} {tys : List (ClassId × FieldType)} {A : Nat → Prop} {cells slots : Nat} {ws : va_W} {lv : List (Nat × Value)} {pc : Nat} {st : List Value} {a : Nat} {fs : List Value} {v : Value} (C : gw_C p s m args meth c cc nL R_Te D gw_cl tys A) (q0 : Nat) (he : ws[q0]? = some (a, .inr (2, fs))) (hv : fs[6]? = some v) (hdg : decode cc pc = .ok (.getfield 31, 3)) (kk : gw_W p l e R s m args below meth c D gw_cl A Q cells slots nL ws lv (pc + 3) (v :: st)) : gw_W p l e R s m args below meth c D gw_cl A Q cells slots nL ws lv pc (.ref a :: st) :=
  gw_get (K := R_Te) (T := T_Te) (N := 7) C 6 i_Te rfl (by decide) tb_42 q0 he hv hdg kk
theorem fp_Te_31 {p : Program} {l : Launch} {e : Env} {R : Room} {s : State} {m : MethodId} {args : Array Value} {below : List Frame} {meth : Method} {c : Code} {Q : State → Prop} {cc : ByteArray} {nL : Nat} {D : va_G} {tys : List (ClassId × FieldType)} {A : Nat → Prop} {cells slots : Nat} {ws : va_W} {lv : List (Nat × Value)} {pc : Nat} {st : List Value} {a : Nat} {fs : List Value} {v : Value} {ws' : va_W} (C : gw_C p s m args meth c cc nL R_Te D gw_cl tys A) (q0 : Nat) (he : ws[q0]? = some (a, .inr (2, fs))) (hn : narrow (.int) v = v) (hfit : fits (.int) v = true) (hl0 : 6 < fs.length) (hdg : decode cc pc = .ok (.putfield 31, 3)) (hw : ws.set q0 (a, .inr (2, fs.set 6 v)) = ws') (kk : gw_W p l e R s m args below meth c D gw_cl A Q cells slots nL ws' lv (pc + 3) st) : gw_W p l e R s m args below meth c D gw_cl A Q cells slots nL ws lv pc (v :: .ref a :: st) :=
  gw_put (K := R_Te) (T := T_Te) (N := 7) (ty := .int) C 6 i_Te t_Te t_Te_ok n_Te rfl (by decide) tb_42 rfl (by decide +kernel) q0 he hn hfit hl0 hdg hw kk
theorem fg_Th_9 {p : Program} {l : Launch} {e : Env} {R : Room} {s : State} {m : MethodId} {args : Array Value} {below : List Frame} {meth : Method} {c : Code} {Q : State → Prop} {cc : ByteArray} {nL : Nat} {D : va_G} {tys : List (ClassId × FieldType)} {A : Nat → Prop} {cells slots : Nat} {ws : va_W} {lv : List (Nat × Value)} {pc : Nat} {st : List Value} {a : Nat} {fs : List Value} {v : Value} (C : gw_C p s m args meth c cc nL R_Th D gw_cl tys A) (q0 : Nat) (he : ws[q0]? = some (a, .inr (4, fs))) (hv : fs[0]? = some v) (hdg : decode cc pc = .ok (.getfield 9, 3)) (kk : gw_W p l e R s m args below meth c D gw_cl A Q cells slots nL ws lv (pc + 3) (v :: st)) : gw_W p l e R s m args below meth c D gw_cl A Q cells slots nL ws lv pc (.ref a :: st) :=
  gw_get (K := R_Th) (T := T_Th) (N := 15) C 0 i_Th rfl (by decide) tb_86 q0 he hv hdg kk
theorem fg_Th_15 {p : Program} {l : Launch} {e : Env} {R : Room} {s : State} {m : MethodId} {args : Array Value} {below : List Frame} {meth : Method} {c : Code} {Q : State → Prop} {cc : ByteArray} {nL : Nat} {D : va_G} {tys : List (ClassId × FieldType)} {A : Nat → Prop} {cells slots : Nat} {ws : va_W} {lv : List (Nat × Value)} {pc : Nat} {st : List Value} {a : Nat} {fs : List Value} {v : Value} (C : gw_C p s m args meth c cc nL R_Th D gw_cl tys A) (q0 : Nat) (he : ws[q0]? = some (a, .inr (4, fs))) (hv : fs[1]? = some v) (hdg : decode cc pc = .ok (.getfield 15, 3)) (kk : gw_W p l e R s m args below meth c D gw_cl A Q cells slots nL ws lv (pc + 3) (v :: st)) : gw_W p l e R s m args below meth c D gw_cl A Q cells slots nL ws lv pc (.ref a :: st) :=
  gw_get (K := R_Th) (T := T_Th) (N := 15) C 1 i_Th rfl (by decide) tb_87 q0 he hv hdg kk
theorem fg_Th_18 {p : Program} {l : Launch} {e : Env} {R : Room} {s : State} {m : MethodId} {args : Array Value} {below : List Frame} {meth : Method} {c : Code} {Q : State → Prop} {cc : ByteArray} {nL : Nat} {D : va_G} {tys : List (ClassId × FieldType)} {A : Nat → Prop} {cells slots : Nat} {ws : va_W} {lv : List (Nat × Value)} {pc : Nat} {st : List Value} {a : Nat} {fs : List Value} {v : Value} (C : gw_C p s m args meth c cc nL R_Th D gw_cl tys A) (q0 : Nat) (he : ws[q0]? = some (a, .inr (4, fs))) (hv : fs[2]? = some v) (hdg : decode cc pc = .ok (.getfield 18, 3)) (kk : gw_W p l e R s m args below meth c D gw_cl A Q cells slots nL ws lv (pc + 3) (v :: st)) : gw_W p l e R s m args below meth c D gw_cl A Q cells slots nL ws lv pc (.ref a :: st) :=
  gw_get (K := R_Th) (T := T_Th) (N := 15) C 2 i_Th rfl (by decide) tb_88 q0 he hv hdg kk
theorem fg_Th_21 {p : Program} {l : Launch} {e : Env} {R : Room} {s : State} {m : MethodId} {args : Array Value} {below : List Frame} {meth : Method} {c : Code} {Q : State → Prop} {cc : ByteArray} {nL : Nat} {D : va_G} {tys : List (ClassId × FieldType)} {A : Nat → Prop} {cells slots : Nat} {ws : va_W} {lv : List (Nat × Value)} {pc : Nat} {st : List Value} {a : Nat} {fs : List Value} {v : Value} (C : gw_C p s m args meth c cc nL R_Th D gw_cl tys A) (q0 : Nat) (he : ws[q0]? = some (a, .inr (4, fs))) (hv : fs[3]? = some v) (hdg : decode cc pc = .ok (.getfield 21, 3)) (kk : gw_W p l e R s m args below meth c D gw_cl A Q cells slots nL ws lv (pc + 3) (v :: st)) : gw_W p l e R s m args below meth c D gw_cl A Q cells slots nL ws lv pc (.ref a :: st) :=
  gw_get (K := R_Th) (T := T_Th) (N := 15) C 3 i_Th rfl (by decide) tb_89 q0 he hv hdg kk
theorem fg_Th_24 {p : Program} {l : Launch} {e : Env} {R : Room} {s : State} {m : MethodId} {args : Array Value} {below : List Frame} {meth : Method} {c : Code} {Q : State → Prop} {cc : ByteArray} {nL : Nat} {D : va_G} {tys : List (ClassId × FieldType)} {A : Nat → Prop} {cells slots : Nat} {ws : va_W} {lv : List (Nat × Value)} {pc : Nat} {st : List Value} {a : Nat} {fs : List Value} {v : Value} (C : gw_C p s m args meth c cc nL R_Th D gw_cl tys A) (q0 : Nat) (he : ws[q0]? = some (a, .inr (4, fs))) (hv : fs[4]? = some v) (hdg : decode cc pc = .ok (.getfield 24, 3)) (kk : gw_W p l e R s m args below meth c D gw_cl A Q cells slots nL ws lv (pc + 3) (v :: st)) : gw_W p l e R s m args below meth c D gw_cl A Q cells slots nL ws lv pc (.ref a :: st) :=
  gw_get (K := R_Th) (T := T_Th) (N := 15) C 4 i_Th rfl (by decide) tb_90 q0 he hv hdg kk
theorem fg_Th_27 {p : Program} {l : Launch} {e : Env} {R : Room} {s : State} {m : MethodId} {args : Array Value} {below : List Frame} {meth : Method} {c : Code} {Q : State → Prop} {cc : ByteArray} {nL : Nat} {D : va_G} {tys : List (ClassId × FieldType)} {A : Nat → Prop} {cells slots : Nat} {ws : va_W} {lv : List (Nat × Value)} {pc : Nat} {st : List Value} {a : Nat} {fs : List Value} {v : Value} (C : gw_C p s m args meth c cc nL R_Th D gw_cl tys A) (q0 : Nat) (he : ws[q0]? = some (a, .inr (4, fs))) (hv : fs[5]? = some v) (hdg : decode cc pc = .ok (.getfield 27, 3)) (kk : gw_W p l e R s m args below meth c D gw_cl A Q cells slots nL ws lv (pc + 3) (v :: st)) : gw_W p l e R s m args below meth c D gw_cl A Q cells slots nL ws lv pc (.ref a :: st) :=
  gw_get (K := R_Th) (T := T_Th) (N := 15) C 5 i_Th rfl (by decide) tb_91 q0 he hv hdg kk
theorem fg_Th_30 {p : Program} {l : Launch} {e : Env} {R : Room} {s : State} {m : MethodId} {args : Array Value} {below : List Frame} {meth : Method} {c : Code} {Q : State → Prop} {cc : ByteArray} {nL : Nat} {D : va_G} {tys : List (ClassId × FieldType)} {A : Nat → Prop} {cells slots : Nat} {ws : va_W} {lv : List (Nat × Value)} {pc : Nat} {st : List Value} {a : Nat} {fs : List Value} {v : Value} (C : gw_C p s m args meth c cc nL R_Th D gw_cl tys A) (q0 : Nat) (he : ws[q0]? = some (a, .inr (4, fs))) (hv : fs[6]? = some v) (hdg : decode cc pc = .ok (.getfield 30, 3)) (kk : gw_W p l e R s m args below meth c D gw_cl A Q cells slots nL ws lv (pc + 3) (v :: st)) : gw_W p l e R s m args below meth c D gw_cl A Q cells slots nL ws lv pc (.ref a :: st) :=
  gw_get (K := R_Th) (T := T_Th) (N := 15) C 6 i_Th rfl (by decide) tb_92 q0 he hv hdg kk
theorem fg_Th_34 {p : Program} {l : Launch} {e : Env} {R : Room} {s : State} {m : MethodId} {args : Array Value} {below : List Frame} {meth : Method} {c : Code} {Q : State → Prop} {cc : ByteArray} {nL : Nat} {D : va_G} {tys : List (ClassId × FieldType)} {A : Nat → Prop} {cells slots : Nat} {ws : va_W} {lv : List (Nat × Value)} {pc : Nat} {st : List Value} {a : Nat} {fs : List Value} {v : Value} (C : gw_C p s m args meth c cc nL R_Th D gw_cl tys A) (q0 : Nat) (he : ws[q0]? = some (a, .inr (4, fs))) (hv : fs[7]? = some v) (hdg : decode cc pc = .ok (.getfield 34, 3)) (kk : gw_W p l e R s m args below meth c D gw_cl A Q cells slots nL ws lv (pc + 3) (v :: st)) : gw_W p l e R s m args below meth c D gw_cl A Q cells slots nL ws lv pc (.ref a :: st) :=
  gw_get (K := R_Th) (T := T_Th) (N := 15) C 7 i_Th rfl (by decide) tb_93 q0 he hv hdg kk
theorem fg_Th_37 {p : Program} {l : Launch} {e : Env} {R : Room} {s : State} {m : MethodId} {args : Array Value} {below : List Frame} {meth : Method} {c : Code} {Q : State → Prop} {cc : ByteArray} {nL : Nat} {D : va_G} {tys : List (ClassId × FieldType)} {A : Nat → Prop} {cells slots : Nat} {ws : va_W} {lv : List (Nat × Value)} {pc : Nat} {st : List Value} {a : Nat} {fs : List Value} {v : Value} (C : gw_C p s m args meth c cc nL R_Th D gw_cl tys A) (q0 : Nat) (he : ws[q0]? = some (a, .inr (4, fs))) (hv : fs[8]? = some v) (hdg : decode cc pc = .ok (.getfield 37, 3)) (kk : gw_W p l e R s m args below meth c D gw_cl A Q cells slots nL ws lv (pc + 3) (v :: st)) : gw_W p l e R s m args below meth c D gw_cl A Q cells slots nL ws lv pc (.ref a :: st) :=
  gw_get (K := R_Th) (T := T_Th) (N := 15) C 8 i_Th rfl (by decide) tb_94 q0 he hv hdg kk
theorem fg_Th_40 {p : Program} {l : Launch} {e : Env} {R : Room} {s : State} {m : MethodId} {args : Array Value} {below : List Frame} {meth : Method} {c : Code} {Q : State → Prop} {cc : ByteArray} {nL : Nat} {D : va_G} {tys : List (ClassId × FieldType)} {A : Nat → Prop} {cells slots : Nat} {ws : va_W} {lv : List (Nat × Value)} {pc : Nat} {st : List Value} {a : Nat} {fs : List Value} {v : Value} (C : gw_C p s m args meth c cc nL R_Th D gw_cl tys A) (q0 : Nat) (he : ws[q0]? = some (a, .inr (4, fs))) (hv : fs[9]? = some v) (hdg : decode cc pc = .ok (.getfield 40, 3)) (kk : gw_W p l e R s m args below meth c D gw_cl A Q cells slots nL ws lv (pc + 3) (v :: st)) : gw_W p l e R s m args below meth c D gw_cl A Q cells slots nL ws lv pc (.ref a :: st) :=
  gw_get (K := R_Th) (T := T_Th) (N := 15) C 9 i_Th rfl (by decide) tb_95 q0 he hv hdg kk
theorem fg_Th_43 {p : Program} {l : Launch} {e : Env} {R : Room} {s : State} {m : MethodId} {args : Array Value} {below : List Frame} {meth : Method} {c : Code} {Q : State → Prop} {cc : ByteArray} {nL : Nat} {D : va_G} {tys : List (ClassId × FieldType)} {A : Nat → Prop} {cells slots : Nat} {ws : va_W} {lv : List (Nat × Value)} {pc : Nat} {st : List Value} {a : Nat} {fs : List Value} {v : Value} (C : gw_C p s m args meth c cc nL R_Th D gw_cl tys A) (q0 : Nat) (he : ws[q0]? = some (a, .inr (4, fs))) (hv : fs[10]? = some v) (hdg : decode cc pc = .ok (.getfield 43, 3)) (kk : gw_W p l e R s m args below meth c D gw_cl A Q cells slots nL ws lv (pc + 3) (v :: st)) : gw_W p l e R s m args below meth c D gw_cl A Q cells slots nL ws lv pc (.ref a :: st) :=
  gw_get (K := R_Th) (T := T_Th) (N := 15) C 10 i_Th rfl (by decide) tb_96 q0 he hv hdg kk
theorem fg_Th_46 {p : Program} {l : Launch} {e : Env} {R : Room} {s : State} {m : MethodId} {args : Array Value} {below : List Frame} {meth : Method} {c : Code} {Q : State → Prop} {cc : ByteArray} {nL : Nat} {D : va_G} {tys : List (ClassId × FieldType)} {A : Nat → Prop} {cells slots : Nat} {ws : va_W} {lv : List (Nat × Value)} {pc : Nat} {st : List Value} {a : Nat} {fs : List Value} {v : Value} (C : gw_C p s m args meth c cc nL R_Th D gw_cl tys A) (q0 : Nat) (he : ws[q0]? = some (a, .inr (4, fs))) (hv : fs[11]? = some v) (hdg : decode cc pc = .ok (.getfield 46, 3)) (kk : gw_W p l e R s m args below meth c D gw_cl A Q cells slots nL ws lv (pc + 3) (v :: st)) : gw_W p l e R s m args below meth c D gw_cl A Q cells slots nL ws lv pc (.ref a :: st) :=
  gw_get (K := R_Th) (T := T_Th) (N := 15) C 11 i_Th rfl (by decide) tb_97 q0 he hv hdg kk
theorem fg_Th_49 {p : Program} {l : Launch} {e : Env} {R : Room} {s : State} {m : MethodId} {args : Array Value} {below : List Frame} {meth : Method} {c : Code} {Q : State → Prop} {cc : ByteArray} {nL : Nat} {D : va_G} {tys : List (ClassId × FieldType)} {A : Nat → Prop} {cells slots : Nat} {ws : va_W} {lv : List (Nat × Value)} {pc : Nat} {st : List Value} {a : Nat} {fs : List Value} {v : Value} (C : gw_C p s m args meth c cc nL R_Th D gw_cl tys A) (q0 : Nat) (he : ws[q0]? = some (a, .inr (4, fs))) (hv : fs[12]? = some v) (hdg : decode cc pc = .ok (.getfield 49, 3)) (kk : gw_W p l e R s m args below meth c D gw_cl A Q cells slots nL ws lv (pc + 3) (v :: st)) : gw_W p l e R s m args below meth c D gw_cl A Q cells slots nL ws lv pc (.ref a :: st) :=
  gw_get (K := R_Th) (T := T_Th) (N := 15) C 12 i_Th rfl (by decide) tb_98 q0 he hv hdg kk
theorem fp_Th_49 {p : Program} {l : Launch} {e : Env} {R : Room} {s : State} {m : MethodId} {args : Array Value} {below : List Frame} {meth : Method} {c : Code} {Q : State → Prop} {cc : ByteArray} {nL : Nat} {D : va_G} {tys : List (ClassId × FieldType)} {A : Nat → Prop} {cells slots : Nat} {ws : va_W} {lv : List (Nat × Value)} {pc : Nat} {st : List Value} {a : Nat} {fs : List Value} {v : Value} {ws' : va_W} (C : gw_C p s m args meth c cc nL R_Th D gw_cl tys A) (q0 : Nat) (he : ws[q0]? = some (a, .inr (4, fs))) (hn : narrow (.int) v = v) (hfit : fits (.int) v = true) (hl0 : 12 < fs.length) (hdg : decode cc pc = .ok (.putfield 49, 3)) (hw : ws.set q0 (a, .inr (4, fs.set 12 v)) = ws') (kk : gw_W p l e R s m args below meth c D gw_cl A Q cells slots nL ws' lv (pc + 3) st) : gw_W p l e R s m args below meth c D gw_cl A Q cells slots nL ws lv pc (v :: .ref a :: st) :=
  gw_put (K := R_Th) (T := T_Th) (N := 15) (ty := .int) C 12 i_Th t_Th t_Th_ok n_Th rfl (by decide) tb_98 rfl (by decide +kernel) q0 he hn hfit hl0 hdg hw kk
theorem fg_Th_53 {p : Program} {l : Launch} {e : Env} {R : Room} {s : State} {m : MethodId} {args : Array Value} {below : List Frame} {meth : Method} {c : Code} {Q : State → Prop} {cc : ByteArray} {nL : Nat} {D : va_G} {tys : List (ClassId × FieldType)} {A : Nat → Prop} {cells slots : Nat} {ws : va_W} {lv : List (Nat × Value)} {pc : Nat} {st : List Value} {a : Nat} {fs : List Value} {v : Value} (C : gw_C p s m args meth c cc nL R_Th D gw_cl tys A) (q0 : Nat) (he : ws[q0]? = some (a, .inr (4, fs))) (hv : fs[13]? = some v) (hdg : decode cc pc = .ok (.getfield 53, 3)) (kk : gw_W p l e R s m args below meth c D gw_cl A Q cells slots nL ws lv (pc + 3) (v :: st)) : gw_W p l e R s m args below meth c D gw_cl A Q cells slots nL ws lv pc (.ref a :: st) :=
  gw_get (K := R_Th) (T := T_Th) (N := 15) C 13 i_Th rfl (by decide) tb_100 q0 he hv hdg kk
theorem fp_Th_53 {p : Program} {l : Launch} {e : Env} {R : Room} {s : State} {m : MethodId} {args : Array Value} {below : List Frame} {meth : Method} {c : Code} {Q : State → Prop} {cc : ByteArray} {nL : Nat} {D : va_G} {tys : List (ClassId × FieldType)} {A : Nat → Prop} {cells slots : Nat} {ws : va_W} {lv : List (Nat × Value)} {pc : Nat} {st : List Value} {a : Nat} {fs : List Value} {v : Value} {ws' : va_W} (C : gw_C p s m args meth c cc nL R_Th D gw_cl tys A) (q0 : Nat) (he : ws[q0]? = some (a, .inr (4, fs))) (hn : narrow (.int) v = v) (hfit : fits (.int) v = true) (hl0 : 13 < fs.length) (hdg : decode cc pc = .ok (.putfield 53, 3)) (hw : ws.set q0 (a, .inr (4, fs.set 13 v)) = ws') (kk : gw_W p l e R s m args below meth c D gw_cl A Q cells slots nL ws' lv (pc + 3) st) : gw_W p l e R s m args below meth c D gw_cl A Q cells slots nL ws lv pc (v :: .ref a :: st) :=
  gw_put (K := R_Th) (T := T_Th) (N := 15) (ty := .int) C 13 i_Th t_Th t_Th_ok n_Th rfl (by decide) tb_100 rfl (by decide +kernel) q0 he hn hfit hl0 hdg hw kk
theorem fg_Th_56 {p : Program} {l : Launch} {e : Env} {R : Room} {s : State} {m : MethodId} {args : Array Value} {below : List Frame} {meth : Method} {c : Code} {Q : State → Prop} {cc : ByteArray} {nL : Nat} {D : va_G} {tys : List (ClassId × FieldType)} {A : Nat → Prop} {cells slots : Nat} {ws : va_W} {lv : List (Nat × Value)} {pc : Nat} {st : List Value} {a : Nat} {fs : List Value} {v : Value} (C : gw_C p s m args meth c cc nL R_Th D gw_cl tys A) (q0 : Nat) (he : ws[q0]? = some (a, .inr (4, fs))) (hv : fs[14]? = some v) (hdg : decode cc pc = .ok (.getfield 56, 3)) (kk : gw_W p l e R s m args below meth c D gw_cl A Q cells slots nL ws lv (pc + 3) (v :: st)) : gw_W p l e R s m args below meth c D gw_cl A Q cells slots nL ws lv pc (.ref a :: st) :=
  gw_get (K := R_Th) (T := T_Th) (N := 15) C 14 i_Th rfl (by decide) tb_102 q0 he hv hdg kk
theorem fp_Th_56 {p : Program} {l : Launch} {e : Env} {R : Room} {s : State} {m : MethodId} {args : Array Value} {below : List Frame} {meth : Method} {c : Code} {Q : State → Prop} {cc : ByteArray} {nL : Nat} {D : va_G} {tys : List (ClassId × FieldType)} {A : Nat → Prop} {cells slots : Nat} {ws : va_W} {lv : List (Nat × Value)} {pc : Nat} {st : List Value} {a : Nat} {fs : List Value} {v : Value} {ws' : va_W} (C : gw_C p s m args meth c cc nL R_Th D gw_cl tys A) (q0 : Nat) (he : ws[q0]? = some (a, .inr (4, fs))) (hn : narrow (.int) v = v) (hfit : fits (.int) v = true) (hl0 : 14 < fs.length) (hdg : decode cc pc = .ok (.putfield 56, 3)) (hw : ws.set q0 (a, .inr (4, fs.set 14 v)) = ws') (kk : gw_W p l e R s m args below meth c D gw_cl A Q cells slots nL ws' lv (pc + 3) st) : gw_W p l e R s m args below meth c D gw_cl A Q cells slots nL ws lv pc (v :: .ref a :: st) :=
  gw_put (K := R_Th) (T := T_Th) (N := 15) (ty := .int) C 14 i_Th t_Th t_Th_ok n_Th rfl (by decide) tb_102 rfl (by decide +kernel) q0 he hn hfit hl0 hdg hw kk
theorem fg_Th_63 {p : Program} {l : Launch} {e : Env} {R : Room} {s : State} {m : MethodId} {args : Array Value} {below : List Frame} {meth : Method} {c : Code} {Q : State → Prop} {cc : ByteArray} {nL : Nat} {D : va_G} {tys : List (ClassId × FieldType)} {A : Nat → Prop} {cells slots : Nat} {ws : va_W} {lv : List (Nat × Value)} {pc : Nat} {st : List Value} {a : Nat} {fs : List Value} {v : Value} (C : gw_C p s m args meth c cc nL R_Th D gw_cl tys A) (q0 : Nat) (he : ws[q0]? = some (a, .inr (6, fs))) (hv : fs[0]? = some v) (hdg : decode cc pc = .ok (.getfield 63, 3)) (kk : gw_W p l e R s m args below meth c D gw_cl A Q cells slots nL ws lv (pc + 3) (v :: st)) : gw_W p l e R s m args below meth c D gw_cl A Q cells slots nL ws lv pc (.ref a :: st) :=
  gw_getN (K := R_Va) (T := T_Va) (N := 4) C 0 i_Va rfl (by decide) tb_170 q0 he hv hdg kk
theorem fg_Th_68 {p : Program} {l : Launch} {e : Env} {R : Room} {s : State} {m : MethodId} {args : Array Value} {below : List Frame} {meth : Method} {c : Code} {Q : State → Prop} {cc : ByteArray} {nL : Nat} {D : va_G} {tys : List (ClassId × FieldType)} {A : Nat → Prop} {cells slots : Nat} {ws : va_W} {lv : List (Nat × Value)} {pc : Nat} {st : List Value} {a : Nat} {fs : List Value} {v : Value} (C : gw_C p s m args meth c cc nL R_Th D gw_cl tys A) (q0 : Nat) (he : ws[q0]? = some (a, .inr (6, fs))) (hv : fs[1]? = some v) (hdg : decode cc pc = .ok (.getfield 68, 3)) (kk : gw_W p l e R s m args below meth c D gw_cl A Q cells slots nL ws lv (pc + 3) (v :: st)) : gw_W p l e R s m args below meth c D gw_cl A Q cells slots nL ws lv pc (.ref a :: st) :=
  gw_getN (K := R_Va) (T := T_Va) (N := 4) C 1 i_Va rfl (by decide) tb_174 q0 he hv hdg kk
theorem fg_Th_72 {p : Program} {l : Launch} {e : Env} {R : Room} {s : State} {m : MethodId} {args : Array Value} {below : List Frame} {meth : Method} {c : Code} {Q : State → Prop} {cc : ByteArray} {nL : Nat} {D : va_G} {tys : List (ClassId × FieldType)} {A : Nat → Prop} {cells slots : Nat} {ws : va_W} {lv : List (Nat × Value)} {pc : Nat} {st : List Value} {a : Nat} {fs : List Value} {v : Value} (C : gw_C p s m args meth c cc nL R_Th D gw_cl tys A) (q0 : Nat) (he : ws[q0]? = some (a, .inr (6, fs))) (hv : fs[2]? = some v) (hdg : decode cc pc = .ok (.getfield 72, 3)) (kk : gw_W p l e R s m args below meth c D gw_cl A Q cells slots nL ws lv (pc + 3) (v :: st)) : gw_W p l e R s m args below meth c D gw_cl A Q cells slots nL ws lv pc (.ref a :: st) :=
  gw_getN (K := R_Va) (T := T_Va) (N := 4) C 2 i_Va rfl (by decide) tb_178 q0 he hv hdg kk
theorem fg_Th_75 {p : Program} {l : Launch} {e : Env} {R : Room} {s : State} {m : MethodId} {args : Array Value} {below : List Frame} {meth : Method} {c : Code} {Q : State → Prop} {cc : ByteArray} {nL : Nat} {D : va_G} {tys : List (ClassId × FieldType)} {A : Nat → Prop} {cells slots : Nat} {ws : va_W} {lv : List (Nat × Value)} {pc : Nat} {st : List Value} {a : Nat} {fs : List Value} {v : Value} (C : gw_C p s m args meth c cc nL R_Th D gw_cl tys A) (q0 : Nat) (he : ws[q0]? = some (a, .inr (6, fs))) (hv : fs[3]? = some v) (hdg : decode cc pc = .ok (.getfield 75, 3)) (kk : gw_W p l e R s m args below meth c D gw_cl A Q cells slots nL ws lv (pc + 3) (v :: st)) : gw_W p l e R s m args below meth c D gw_cl A Q cells slots nL ws lv pc (.ref a :: st) :=
  gw_getN (K := R_Va) (T := T_Va) (N := 4) C 3 i_Va rfl (by decide) tb_182 q0 he hv hdg kk
theorem fp_Va_9 {p : Program} {l : Launch} {e : Env} {R : Room} {s : State} {m : MethodId} {args : Array Value} {below : List Frame} {meth : Method} {c : Code} {Q : State → Prop} {cc : ByteArray} {nL : Nat} {D : va_G} {tys : List (ClassId × FieldType)} {A : Nat → Prop} {cells slots : Nat} {ws : va_W} {lv : List (Nat × Value)} {pc : Nat} {st : List Value} {a : Nat} {fs : List Value} {v : Value} {ws' : va_W} (C : gw_C p s m args meth c cc nL R_Va D gw_cl tys A) (q0 : Nat) (he : ws[q0]? = some (a, .inr (6, fs))) (hn : narrow (.int) v = v) (hfit : fits (.int) v = true) (hl0 : 0 < fs.length) (hdg : decode cc pc = .ok (.putfield 9, 3)) (hw : ws.set q0 (a, .inr (6, fs.set 0 v)) = ws') (kk : gw_W p l e R s m args below meth c D gw_cl A Q cells slots nL ws' lv (pc + 3) st) : gw_W p l e R s m args below meth c D gw_cl A Q cells slots nL ws lv pc (v :: .ref a :: st) :=
  gw_put (K := R_Va) (T := T_Va) (N := 4) (ty := .int) C 0 i_Va t_Va t_Va_ok n_Va rfl (by decide) tb_168 rfl (by decide +kernel) q0 he hn hfit hl0 hdg hw kk
theorem fp_Va_15 {p : Program} {l : Launch} {e : Env} {R : Room} {s : State} {m : MethodId} {args : Array Value} {below : List Frame} {meth : Method} {c : Code} {Q : State → Prop} {cc : ByteArray} {nL : Nat} {D : va_G} {tys : List (ClassId × FieldType)} {A : Nat → Prop} {cells slots : Nat} {ws : va_W} {lv : List (Nat × Value)} {pc : Nat} {st : List Value} {a : Nat} {fs : List Value} {v : Value} {ws' : va_W} (C : gw_C p s m args meth c cc nL R_Va D gw_cl tys A) (q0 : Nat) (he : ws[q0]? = some (a, .inr (6, fs))) (hn : narrow (.long) v = v) (hfit : fits (.long) v = true) (hl0 : 1 < fs.length) (hdg : decode cc pc = .ok (.putfield 15, 3)) (hw : ws.set q0 (a, .inr (6, fs.set 1 v)) = ws') (kk : gw_W p l e R s m args below meth c D gw_cl A Q cells slots nL ws' lv (pc + 3) st) : gw_W p l e R s m args below meth c D gw_cl A Q cells slots nL ws lv pc (v :: .ref a :: st) :=
  gw_put (K := R_Va) (T := T_Va) (N := 4) (ty := .long) C 1 i_Va t_Va t_Va_ok n_Va rfl (by decide) tb_172 rfl (by decide +kernel) q0 he hn hfit hl0 hdg hw kk
theorem fp_Va_19 {p : Program} {l : Launch} {e : Env} {R : Room} {s : State} {m : MethodId} {args : Array Value} {below : List Frame} {meth : Method} {c : Code} {Q : State → Prop} {cc : ByteArray} {nL : Nat} {D : va_G} {tys : List (ClassId × FieldType)} {A : Nat → Prop} {cells slots : Nat} {ws : va_W} {lv : List (Nat × Value)} {pc : Nat} {st : List Value} {a : Nat} {fs : List Value} {v : Value} {ws' : va_W} (C : gw_C p s m args meth c cc nL R_Va D gw_cl tys A) (q0 : Nat) (he : ws[q0]? = some (a, .inr (6, fs))) (hn : narrow (.int) v = v) (hfit : fits (.int) v = true) (hl0 : 2 < fs.length) (hdg : decode cc pc = .ok (.putfield 19, 3)) (hw : ws.set q0 (a, .inr (6, fs.set 2 v)) = ws') (kk : gw_W p l e R s m args below meth c D gw_cl A Q cells slots nL ws' lv (pc + 3) st) : gw_W p l e R s m args below meth c D gw_cl A Q cells slots nL ws lv pc (v :: .ref a :: st) :=
  gw_put (K := R_Va) (T := T_Va) (N := 4) (ty := .int) C 2 i_Va t_Va t_Va_ok n_Va rfl (by decide) tb_176 rfl (by decide +kernel) q0 he hn hfit hl0 hdg hw kk
theorem fp_Va_22 {p : Program} {l : Launch} {e : Env} {R : Room} {s : State} {m : MethodId} {args : Array Value} {below : List Frame} {meth : Method} {c : Code} {Q : State → Prop} {cc : ByteArray} {nL : Nat} {D : va_G} {tys : List (ClassId × FieldType)} {A : Nat → Prop} {cells slots : Nat} {ws : va_W} {lv : List (Nat × Value)} {pc : Nat} {st : List Value} {a : Nat} {fs : List Value} {v : Value} {ws' : va_W} (C : gw_C p s m args meth c cc nL R_Va D gw_cl tys A) (q0 : Nat) (he : ws[q0]? = some (a, .inr (6, fs))) (hn : narrow (.int) v = v) (hfit : fits (.int) v = true) (hl0 : 3 < fs.length) (hdg : decode cc pc = .ok (.putfield 22, 3)) (hw : ws.set q0 (a, .inr (6, fs.set 3 v)) = ws') (kk : gw_W p l e R s m args below meth c D gw_cl A Q cells slots nL ws' lv (pc + 3) st) : gw_W p l e R s m args below meth c D gw_cl A Q cells slots nL ws lv pc (v :: .ref a :: st) :=
  gw_put (K := R_Va) (T := T_Va) (N := 4) (ty := .int) C 3 i_Va t_Va t_Va_ok n_Va rfl (by decide) tb_180 rfl (by decide +kernel) q0 he hn hfit hl0 hdg hw kk
theorem fg_Wa_12 {p : Program} {l : Launch} {e : Env} {R : Room} {s : State} {m : MethodId} {args : Array Value} {below : List Frame} {meth : Method} {c : Code} {Q : State → Prop} {cc : ByteArray} {nL : Nat} {D : va_G} {tys : List (ClassId × FieldType)} {A : Nat → Prop} {cells slots : Nat} {ws : va_W} {lv : List (Nat × Value)} {pc : Nat} {st : List Value} {a : Nat} {fs : List Value} {v : Value} (C : gw_C p s m args meth c cc nL R_Wa D gw_cl tys A) (q0 : Nat) (he : ws[q0]? = some (a, .inr (1, fs))) (hv : fs[0]? = some v) (hdg : decode cc pc = .ok (.getfield 12, 3)) (kk : gw_W p l e R s m args below meth c D gw_cl A Q cells slots nL ws lv (pc + 3) (v :: st)) : gw_W p l e R s m args below meth c D gw_cl A Q cells slots nL ws lv pc (.ref a :: st) :=
  gw_get (K := R_Wa) (T := T_Wa) (N := 17) C 0 i_Wa rfl (by decide) tb_193 q0 he hv hdg kk
theorem fg_Wa_21 {p : Program} {l : Launch} {e : Env} {R : Room} {s : State} {m : MethodId} {args : Array Value} {below : List Frame} {meth : Method} {c : Code} {Q : State → Prop} {cc : ByteArray} {nL : Nat} {D : va_G} {tys : List (ClassId × FieldType)} {A : Nat → Prop} {cells slots : Nat} {ws : va_W} {lv : List (Nat × Value)} {pc : Nat} {st : List Value} {a : Nat} {fs : List Value} {v : Value} (C : gw_C p s m args meth c cc nL R_Wa D gw_cl tys A) (q0 : Nat) (he : ws[q0]? = some (a, .inr (1, fs))) (hv : fs[1]? = some v) (hdg : decode cc pc = .ok (.getfield 21, 3)) (kk : gw_W p l e R s m args below meth c D gw_cl A Q cells slots nL ws lv (pc + 3) (v :: st)) : gw_W p l e R s m args below meth c D gw_cl A Q cells slots nL ws lv pc (.ref a :: st) :=
  gw_get (K := R_Wa) (T := T_Wa) (N := 17) C 1 i_Wa rfl (by decide) tb_195 q0 he hv hdg kk
theorem fg_Wa_28 {p : Program} {l : Launch} {e : Env} {R : Room} {s : State} {m : MethodId} {args : Array Value} {below : List Frame} {meth : Method} {c : Code} {Q : State → Prop} {cc : ByteArray} {nL : Nat} {D : va_G} {tys : List (ClassId × FieldType)} {A : Nat → Prop} {cells slots : Nat} {ws : va_W} {lv : List (Nat × Value)} {pc : Nat} {st : List Value} {a : Nat} {fs : List Value} {v : Value} (C : gw_C p s m args meth c cc nL R_Wa D gw_cl tys A) (q0 : Nat) (he : ws[q0]? = some (a, .inr (1, fs))) (hv : fs[2]? = some v) (hdg : decode cc pc = .ok (.getfield 28, 3)) (kk : gw_W p l e R s m args below meth c D gw_cl A Q cells slots nL ws lv (pc + 3) (v :: st)) : gw_W p l e R s m args below meth c D gw_cl A Q cells slots nL ws lv pc (.ref a :: st) :=
  gw_get (K := R_Wa) (T := T_Wa) (N := 17) C 2 i_Wa rfl (by decide) tb_196 q0 he hv hdg kk
theorem fg_Wa_35 {p : Program} {l : Launch} {e : Env} {R : Room} {s : State} {m : MethodId} {args : Array Value} {below : List Frame} {meth : Method} {c : Code} {Q : State → Prop} {cc : ByteArray} {nL : Nat} {D : va_G} {tys : List (ClassId × FieldType)} {A : Nat → Prop} {cells slots : Nat} {ws : va_W} {lv : List (Nat × Value)} {pc : Nat} {st : List Value} {a : Nat} {fs : List Value} {v : Value} (C : gw_C p s m args meth c cc nL R_Wa D gw_cl tys A) (q0 : Nat) (he : ws[q0]? = some (a, .inr (1, fs))) (hv : fs[3]? = some v) (hdg : decode cc pc = .ok (.getfield 35, 3)) (kk : gw_W p l e R s m args below meth c D gw_cl A Q cells slots nL ws lv (pc + 3) (v :: st)) : gw_W p l e R s m args below meth c D gw_cl A Q cells slots nL ws lv pc (.ref a :: st) :=
  gw_get (K := R_Wa) (T := T_Wa) (N := 17) C 3 i_Wa rfl (by decide) tb_198 q0 he hv hdg kk
theorem fg_Wa_42 {p : Program} {l : Launch} {e : Env} {R : Room} {s : State} {m : MethodId} {args : Array Value} {below : List Frame} {meth : Method} {c : Code} {Q : State → Prop} {cc : ByteArray} {nL : Nat} {D : va_G} {tys : List (ClassId × FieldType)} {A : Nat → Prop} {cells slots : Nat} {ws : va_W} {lv : List (Nat × Value)} {pc : Nat} {st : List Value} {a : Nat} {fs : List Value} {v : Value} (C : gw_C p s m args meth c cc nL R_Wa D gw_cl tys A) (q0 : Nat) (he : ws[q0]? = some (a, .inr (1, fs))) (hv : fs[4]? = some v) (hdg : decode cc pc = .ok (.getfield 42, 3)) (kk : gw_W p l e R s m args below meth c D gw_cl A Q cells slots nL ws lv (pc + 3) (v :: st)) : gw_W p l e R s m args below meth c D gw_cl A Q cells slots nL ws lv pc (.ref a :: st) :=
  gw_get (K := R_Wa) (T := T_Wa) (N := 17) C 4 i_Wa rfl (by decide) tb_200 q0 he hv hdg kk
theorem fg_Wa_46 {p : Program} {l : Launch} {e : Env} {R : Room} {s : State} {m : MethodId} {args : Array Value} {below : List Frame} {meth : Method} {c : Code} {Q : State → Prop} {cc : ByteArray} {nL : Nat} {D : va_G} {tys : List (ClassId × FieldType)} {A : Nat → Prop} {cells slots : Nat} {ws : va_W} {lv : List (Nat × Value)} {pc : Nat} {st : List Value} {a : Nat} {fs : List Value} {v : Value} (C : gw_C p s m args meth c cc nL R_Wa D gw_cl tys A) (q0 : Nat) (he : ws[q0]? = some (a, .inr (1, fs))) (hv : fs[5]? = some v) (hdg : decode cc pc = .ok (.getfield 46, 3)) (kk : gw_W p l e R s m args below meth c D gw_cl A Q cells slots nL ws lv (pc + 3) (v :: st)) : gw_W p l e R s m args below meth c D gw_cl A Q cells slots nL ws lv pc (.ref a :: st) :=
  gw_get (K := R_Wa) (T := T_Wa) (N := 17) C 5 i_Wa rfl (by decide) tb_202 q0 he hv hdg kk
theorem fp_Wa_46 {p : Program} {l : Launch} {e : Env} {R : Room} {s : State} {m : MethodId} {args : Array Value} {below : List Frame} {meth : Method} {c : Code} {Q : State → Prop} {cc : ByteArray} {nL : Nat} {D : va_G} {tys : List (ClassId × FieldType)} {A : Nat → Prop} {cells slots : Nat} {ws : va_W} {lv : List (Nat × Value)} {pc : Nat} {st : List Value} {a : Nat} {fs : List Value} {v : Value} {ws' : va_W} (C : gw_C p s m args meth c cc nL R_Wa D gw_cl tys A) (q0 : Nat) (he : ws[q0]? = some (a, .inr (1, fs))) (hn : narrow (.int) v = v) (hfit : fits (.int) v = true) (hl0 : 5 < fs.length) (hdg : decode cc pc = .ok (.putfield 46, 3)) (hw : ws.set q0 (a, .inr (1, fs.set 5 v)) = ws') (kk : gw_W p l e R s m args below meth c D gw_cl A Q cells slots nL ws' lv (pc + 3) st) : gw_W p l e R s m args below meth c D gw_cl A Q cells slots nL ws lv pc (v :: .ref a :: st) :=
  gw_put (K := R_Wa) (T := T_Wa) (N := 17) (ty := .int) C 5 i_Wa t_Wa t_Wa_ok n_Wa rfl (by decide) tb_202 rfl (by decide +kernel) q0 he hn hfit hl0 hdg hw kk
theorem fg_Wa_50 {p : Program} {l : Launch} {e : Env} {R : Room} {s : State} {m : MethodId} {args : Array Value} {below : List Frame} {meth : Method} {c : Code} {Q : State → Prop} {cc : ByteArray} {nL : Nat} {D : va_G} {tys : List (ClassId × FieldType)} {A : Nat → Prop} {cells slots : Nat} {ws : va_W} {lv : List (Nat × Value)} {pc : Nat} {st : List Value} {a : Nat} {fs : List Value} {v : Value} (C : gw_C p s m args meth c cc nL R_Wa D gw_cl tys A) (q0 : Nat) (he : ws[q0]? = some (a, .inr (1, fs))) (hv : fs[6]? = some v) (hdg : decode cc pc = .ok (.getfield 50, 3)) (kk : gw_W p l e R s m args below meth c D gw_cl A Q cells slots nL ws lv (pc + 3) (v :: st)) : gw_W p l e R s m args below meth c D gw_cl A Q cells slots nL ws lv pc (.ref a :: st) :=
  gw_get (K := R_Wa) (T := T_Wa) (N := 17) C 6 i_Wa rfl (by decide) tb_204 q0 he hv hdg kk
theorem fp_Wa_50 {p : Program} {l : Launch} {e : Env} {R : Room} {s : State} {m : MethodId} {args : Array Value} {below : List Frame} {meth : Method} {c : Code} {Q : State → Prop} {cc : ByteArray} {nL : Nat} {D : va_G} {tys : List (ClassId × FieldType)} {A : Nat → Prop} {cells slots : Nat} {ws : va_W} {lv : List (Nat × Value)} {pc : Nat} {st : List Value} {a : Nat} {fs : List Value} {v : Value} {ws' : va_W} (C : gw_C p s m args meth c cc nL R_Wa D gw_cl tys A) (q0 : Nat) (he : ws[q0]? = some (a, .inr (1, fs))) (hn : narrow (.boolean) v = v) (hfit : fits (.boolean) v = true) (hl0 : 6 < fs.length) (hdg : decode cc pc = .ok (.putfield 50, 3)) (hw : ws.set q0 (a, .inr (1, fs.set 6 v)) = ws') (kk : gw_W p l e R s m args below meth c D gw_cl A Q cells slots nL ws' lv (pc + 3) st) : gw_W p l e R s m args below meth c D gw_cl A Q cells slots nL ws lv pc (v :: .ref a :: st) :=
  gw_put (K := R_Wa) (T := T_Wa) (N := 17) (ty := .boolean) C 6 i_Wa t_Wa t_Wa_ok n_Wa rfl (by decide) tb_204 rfl (by decide +kernel) q0 he hn hfit hl0 hdg hw kk
theorem fg_Wa_54 {p : Program} {l : Launch} {e : Env} {R : Room} {s : State} {m : MethodId} {args : Array Value} {below : List Frame} {meth : Method} {c : Code} {Q : State → Prop} {cc : ByteArray} {nL : Nat} {D : va_G} {tys : List (ClassId × FieldType)} {A : Nat → Prop} {cells slots : Nat} {ws : va_W} {lv : List (Nat × Value)} {pc : Nat} {st : List Value} {a : Nat} {fs : List Value} {v : Value} (C : gw_C p s m args meth c cc nL R_Wa D gw_cl tys A) (q0 : Nat) (he : ws[q0]? = some (a, .inr (1, fs))) (hv : fs[7]? = some v) (hdg : decode cc pc = .ok (.getfield 54, 3)) (kk : gw_W p l e R s m args below meth c D gw_cl A Q cells slots nL ws lv (pc + 3) (v :: st)) : gw_W p l e R s m args below meth c D gw_cl A Q cells slots nL ws lv pc (.ref a :: st) :=
  gw_get (K := R_Wa) (T := T_Wa) (N := 17) C 7 i_Wa rfl (by decide) tb_205 q0 he hv hdg kk
theorem fp_Wa_54 {p : Program} {l : Launch} {e : Env} {R : Room} {s : State} {m : MethodId} {args : Array Value} {below : List Frame} {meth : Method} {c : Code} {Q : State → Prop} {cc : ByteArray} {nL : Nat} {D : va_G} {tys : List (ClassId × FieldType)} {A : Nat → Prop} {cells slots : Nat} {ws : va_W} {lv : List (Nat × Value)} {pc : Nat} {st : List Value} {a : Nat} {fs : List Value} {v : Value} {ws' : va_W} (C : gw_C p s m args meth c cc nL R_Wa D gw_cl tys A) (q0 : Nat) (he : ws[q0]? = some (a, .inr (1, fs))) (hn : narrow (.int) v = v) (hfit : fits (.int) v = true) (hl0 : 7 < fs.length) (hdg : decode cc pc = .ok (.putfield 54, 3)) (hw : ws.set q0 (a, .inr (1, fs.set 7 v)) = ws') (kk : gw_W p l e R s m args below meth c D gw_cl A Q cells slots nL ws' lv (pc + 3) st) : gw_W p l e R s m args below meth c D gw_cl A Q cells slots nL ws lv pc (v :: .ref a :: st) :=
  gw_put (K := R_Wa) (T := T_Wa) (N := 17) (ty := .int) C 7 i_Wa t_Wa t_Wa_ok n_Wa rfl (by decide) tb_205 rfl (by decide +kernel) q0 he hn hfit hl0 hdg hw kk
theorem fg_Wa_57 {p : Program} {l : Launch} {e : Env} {R : Room} {s : State} {m : MethodId} {args : Array Value} {below : List Frame} {meth : Method} {c : Code} {Q : State → Prop} {cc : ByteArray} {nL : Nat} {D : va_G} {tys : List (ClassId × FieldType)} {A : Nat → Prop} {cells slots : Nat} {ws : va_W} {lv : List (Nat × Value)} {pc : Nat} {st : List Value} {a : Nat} {fs : List Value} {v : Value} (C : gw_C p s m args meth c cc nL R_Wa D gw_cl tys A) (q0 : Nat) (he : ws[q0]? = some (a, .inr (1, fs))) (hv : fs[8]? = some v) (hdg : decode cc pc = .ok (.getfield 57, 3)) (kk : gw_W p l e R s m args below meth c D gw_cl A Q cells slots nL ws lv (pc + 3) (v :: st)) : gw_W p l e R s m args below meth c D gw_cl A Q cells slots nL ws lv pc (.ref a :: st) :=
  gw_get (K := R_Wa) (T := T_Wa) (N := 17) C 8 i_Wa rfl (by decide) tb_206 q0 he hv hdg kk
theorem fp_Wa_57 {p : Program} {l : Launch} {e : Env} {R : Room} {s : State} {m : MethodId} {args : Array Value} {below : List Frame} {meth : Method} {c : Code} {Q : State → Prop} {cc : ByteArray} {nL : Nat} {D : va_G} {tys : List (ClassId × FieldType)} {A : Nat → Prop} {cells slots : Nat} {ws : va_W} {lv : List (Nat × Value)} {pc : Nat} {st : List Value} {a : Nat} {fs : List Value} {v : Value} {ws' : va_W} (C : gw_C p s m args meth c cc nL R_Wa D gw_cl tys A) (q0 : Nat) (he : ws[q0]? = some (a, .inr (1, fs))) (hn : narrow (.int) v = v) (hfit : fits (.int) v = true) (hl0 : 8 < fs.length) (hdg : decode cc pc = .ok (.putfield 57, 3)) (hw : ws.set q0 (a, .inr (1, fs.set 8 v)) = ws') (kk : gw_W p l e R s m args below meth c D gw_cl A Q cells slots nL ws' lv (pc + 3) st) : gw_W p l e R s m args below meth c D gw_cl A Q cells slots nL ws lv pc (v :: .ref a :: st) :=
  gw_put (K := R_Wa) (T := T_Wa) (N := 17) (ty := .int) C 8 i_Wa t_Wa t_Wa_ok n_Wa rfl (by decide) tb_206 rfl (by decide +kernel) q0 he hn hfit hl0 hdg hw kk
theorem fg_Wa_60 {p : Program} {l : Launch} {e : Env} {R : Room} {s : State} {m : MethodId} {args : Array Value} {below : List Frame} {meth : Method} {c : Code} {Q : State → Prop} {cc : ByteArray} {nL : Nat} {D : va_G} {tys : List (ClassId × FieldType)} {A : Nat → Prop} {cells slots : Nat} {ws : va_W} {lv : List (Nat × Value)} {pc : Nat} {st : List Value} {a : Nat} {fs : List Value} {v : Value} (C : gw_C p s m args meth c cc nL R_Wa D gw_cl tys A) (q0 : Nat) (he : ws[q0]? = some (a, .inr (1, fs))) (hv : fs[9]? = some v) (hdg : decode cc pc = .ok (.getfield 60, 3)) (kk : gw_W p l e R s m args below meth c D gw_cl A Q cells slots nL ws lv (pc + 3) (v :: st)) : gw_W p l e R s m args below meth c D gw_cl A Q cells slots nL ws lv pc (.ref a :: st) :=
  gw_get (K := R_Wa) (T := T_Wa) (N := 17) C 9 i_Wa rfl (by decide) tb_207 q0 he hv hdg kk
theorem fp_Wa_60 {p : Program} {l : Launch} {e : Env} {R : Room} {s : State} {m : MethodId} {args : Array Value} {below : List Frame} {meth : Method} {c : Code} {Q : State → Prop} {cc : ByteArray} {nL : Nat} {D : va_G} {tys : List (ClassId × FieldType)} {A : Nat → Prop} {cells slots : Nat} {ws : va_W} {lv : List (Nat × Value)} {pc : Nat} {st : List Value} {a : Nat} {fs : List Value} {v : Value} {ws' : va_W} (C : gw_C p s m args meth c cc nL R_Wa D gw_cl tys A) (q0 : Nat) (he : ws[q0]? = some (a, .inr (1, fs))) (hn : narrow (.int) v = v) (hfit : fits (.int) v = true) (hl0 : 9 < fs.length) (hdg : decode cc pc = .ok (.putfield 60, 3)) (hw : ws.set q0 (a, .inr (1, fs.set 9 v)) = ws') (kk : gw_W p l e R s m args below meth c D gw_cl A Q cells slots nL ws' lv (pc + 3) st) : gw_W p l e R s m args below meth c D gw_cl A Q cells slots nL ws lv pc (v :: .ref a :: st) :=
  gw_put (K := R_Wa) (T := T_Wa) (N := 17) (ty := .int) C 9 i_Wa t_Wa t_Wa_ok n_Wa rfl (by decide) tb_207 rfl (by decide +kernel) q0 he hn hfit hl0 hdg hw kk
theorem fg_Wa_63 {p : Program} {l : Launch} {e : Env} {R : Room} {s : State} {m : MethodId} {args : Array Value} {below : List Frame} {meth : Method} {c : Code} {Q : State → Prop} {cc : ByteArray} {nL : Nat} {D : va_G} {tys : List (ClassId × FieldType)} {A : Nat → Prop} {cells slots : Nat} {ws : va_W} {lv : List (Nat × Value)} {pc : Nat} {st : List Value} {a : Nat} {fs : List Value} {v : Value} (C : gw_C p s m args meth c cc nL R_Wa D gw_cl tys A) (q0 : Nat) (he : ws[q0]? = some (a, .inr (1, fs))) (hv : fs[10]? = some v) (hdg : decode cc pc = .ok (.getfield 63, 3)) (kk : gw_W p l e R s m args below meth c D gw_cl A Q cells slots nL ws lv (pc + 3) (v :: st)) : gw_W p l e R s m args below meth c D gw_cl A Q cells slots nL ws lv pc (.ref a :: st) :=
  gw_get (K := R_Wa) (T := T_Wa) (N := 17) C 10 i_Wa rfl (by decide) tb_208 q0 he hv hdg kk
theorem fp_Wa_63 {p : Program} {l : Launch} {e : Env} {R : Room} {s : State} {m : MethodId} {args : Array Value} {below : List Frame} {meth : Method} {c : Code} {Q : State → Prop} {cc : ByteArray} {nL : Nat} {D : va_G} {tys : List (ClassId × FieldType)} {A : Nat → Prop} {cells slots : Nat} {ws : va_W} {lv : List (Nat × Value)} {pc : Nat} {st : List Value} {a : Nat} {fs : List Value} {v : Value} {ws' : va_W} (C : gw_C p s m args meth c cc nL R_Wa D gw_cl tys A) (q0 : Nat) (he : ws[q0]? = some (a, .inr (1, fs))) (hn : narrow (.int) v = v) (hfit : fits (.int) v = true) (hl0 : 10 < fs.length) (hdg : decode cc pc = .ok (.putfield 63, 3)) (hw : ws.set q0 (a, .inr (1, fs.set 10 v)) = ws') (kk : gw_W p l e R s m args below meth c D gw_cl A Q cells slots nL ws' lv (pc + 3) st) : gw_W p l e R s m args below meth c D gw_cl A Q cells slots nL ws lv pc (v :: .ref a :: st) :=
  gw_put (K := R_Wa) (T := T_Wa) (N := 17) (ty := .int) C 10 i_Wa t_Wa t_Wa_ok n_Wa rfl (by decide) tb_208 rfl (by decide +kernel) q0 he hn hfit hl0 hdg hw kk
theorem fg_Wa_66 {p : Program} {l : Launch} {e : Env} {R : Room} {s : State} {m : MethodId} {args : Array Value} {below : List Frame} {meth : Method} {c : Code} {Q : State → Prop} {cc : ByteArray} {nL : Nat} {D : va_G} {tys : List (ClassId × FieldType)} {A : Nat → Prop} {cells slots : Nat} {ws : va_W} {lv : List (Nat × Value)} {pc : Nat} {st : List Value} {a : Nat} {fs : List Value} {v : Value} (C : gw_C p s m args meth c cc nL R_Wa D gw_cl tys A) (q0 : Nat) (he : ws[q0]? = some (a, .inr (1, fs))) (hv : fs[11]? = some v) (hdg : decode cc pc = .ok (.getfield 66, 3)) (kk : gw_W p l e R s m args below meth c D gw_cl A Q cells slots nL ws lv (pc + 3) (v :: st)) : gw_W p l e R s m args below meth c D gw_cl A Q cells slots nL ws lv pc (.ref a :: st) :=
  gw_get (K := R_Wa) (T := T_Wa) (N := 17) C 11 i_Wa rfl (by decide) tb_209 q0 he hv hdg kk
theorem fp_Wa_66 {p : Program} {l : Launch} {e : Env} {R : Room} {s : State} {m : MethodId} {args : Array Value} {below : List Frame} {meth : Method} {c : Code} {Q : State → Prop} {cc : ByteArray} {nL : Nat} {D : va_G} {tys : List (ClassId × FieldType)} {A : Nat → Prop} {cells slots : Nat} {ws : va_W} {lv : List (Nat × Value)} {pc : Nat} {st : List Value} {a : Nat} {fs : List Value} {v : Value} {ws' : va_W} (C : gw_C p s m args meth c cc nL R_Wa D gw_cl tys A) (q0 : Nat) (he : ws[q0]? = some (a, .inr (1, fs))) (hn : narrow (.int) v = v) (hfit : fits (.int) v = true) (hl0 : 11 < fs.length) (hdg : decode cc pc = .ok (.putfield 66, 3)) (hw : ws.set q0 (a, .inr (1, fs.set 11 v)) = ws') (kk : gw_W p l e R s m args below meth c D gw_cl A Q cells slots nL ws' lv (pc + 3) st) : gw_W p l e R s m args below meth c D gw_cl A Q cells slots nL ws lv pc (v :: .ref a :: st) :=
  gw_put (K := R_Wa) (T := T_Wa) (N := 17) (ty := .int) C 11 i_Wa t_Wa t_Wa_ok n_Wa rfl (by decide) tb_209 rfl (by decide +kernel) q0 he hn hfit hl0 hdg hw kk
theorem fg_Wa_69 {p : Program} {l : Launch} {e : Env} {R : Room} {s : State} {m : MethodId} {args : Array Value} {below : List Frame} {meth : Method} {c : Code} {Q : State → Prop} {cc : ByteArray} {nL : Nat} {D : va_G} {tys : List (ClassId × FieldType)} {A : Nat → Prop} {cells slots : Nat} {ws : va_W} {lv : List (Nat × Value)} {pc : Nat} {st : List Value} {a : Nat} {fs : List Value} {v : Value} (C : gw_C p s m args meth c cc nL R_Wa D gw_cl tys A) (q0 : Nat) (he : ws[q0]? = some (a, .inr (1, fs))) (hv : fs[12]? = some v) (hdg : decode cc pc = .ok (.getfield 69, 3)) (kk : gw_W p l e R s m args below meth c D gw_cl A Q cells slots nL ws lv (pc + 3) (v :: st)) : gw_W p l e R s m args below meth c D gw_cl A Q cells slots nL ws lv pc (.ref a :: st) :=
  gw_get (K := R_Wa) (T := T_Wa) (N := 17) C 12 i_Wa rfl (by decide) tb_210 q0 he hv hdg kk
theorem fp_Wa_69 {p : Program} {l : Launch} {e : Env} {R : Room} {s : State} {m : MethodId} {args : Array Value} {below : List Frame} {meth : Method} {c : Code} {Q : State → Prop} {cc : ByteArray} {nL : Nat} {D : va_G} {tys : List (ClassId × FieldType)} {A : Nat → Prop} {cells slots : Nat} {ws : va_W} {lv : List (Nat × Value)} {pc : Nat} {st : List Value} {a : Nat} {fs : List Value} {v : Value} {ws' : va_W} (C : gw_C p s m args meth c cc nL R_Wa D gw_cl tys A) (q0 : Nat) (he : ws[q0]? = some (a, .inr (1, fs))) (hn : narrow (.int) v = v) (hfit : fits (.int) v = true) (hl0 : 12 < fs.length) (hdg : decode cc pc = .ok (.putfield 69, 3)) (hw : ws.set q0 (a, .inr (1, fs.set 12 v)) = ws') (kk : gw_W p l e R s m args below meth c D gw_cl A Q cells slots nL ws' lv (pc + 3) st) : gw_W p l e R s m args below meth c D gw_cl A Q cells slots nL ws lv pc (v :: .ref a :: st) :=
  gw_put (K := R_Wa) (T := T_Wa) (N := 17) (ty := .int) C 12 i_Wa t_Wa t_Wa_ok n_Wa rfl (by decide) tb_210 rfl (by decide +kernel) q0 he hn hfit hl0 hdg hw kk
theorem fg_Wa_72 {p : Program} {l : Launch} {e : Env} {R : Room} {s : State} {m : MethodId} {args : Array Value} {below : List Frame} {meth : Method} {c : Code} {Q : State → Prop} {cc : ByteArray} {nL : Nat} {D : va_G} {tys : List (ClassId × FieldType)} {A : Nat → Prop} {cells slots : Nat} {ws : va_W} {lv : List (Nat × Value)} {pc : Nat} {st : List Value} {a : Nat} {fs : List Value} {v : Value} (C : gw_C p s m args meth c cc nL R_Wa D gw_cl tys A) (q0 : Nat) (he : ws[q0]? = some (a, .inr (1, fs))) (hv : fs[13]? = some v) (hdg : decode cc pc = .ok (.getfield 72, 3)) (kk : gw_W p l e R s m args below meth c D gw_cl A Q cells slots nL ws lv (pc + 3) (v :: st)) : gw_W p l e R s m args below meth c D gw_cl A Q cells slots nL ws lv pc (.ref a :: st) :=
  gw_get (K := R_Wa) (T := T_Wa) (N := 17) C 13 i_Wa rfl (by decide) tb_211 q0 he hv hdg kk
theorem fp_Wa_72 {p : Program} {l : Launch} {e : Env} {R : Room} {s : State} {m : MethodId} {args : Array Value} {below : List Frame} {meth : Method} {c : Code} {Q : State → Prop} {cc : ByteArray} {nL : Nat} {D : va_G} {tys : List (ClassId × FieldType)} {A : Nat → Prop} {cells slots : Nat} {ws : va_W} {lv : List (Nat × Value)} {pc : Nat} {st : List Value} {a : Nat} {fs : List Value} {v : Value} {ws' : va_W} (C : gw_C p s m args meth c cc nL R_Wa D gw_cl tys A) (q0 : Nat) (he : ws[q0]? = some (a, .inr (1, fs))) (hn : narrow (.int) v = v) (hfit : fits (.int) v = true) (hl0 : 13 < fs.length) (hdg : decode cc pc = .ok (.putfield 72, 3)) (hw : ws.set q0 (a, .inr (1, fs.set 13 v)) = ws') (kk : gw_W p l e R s m args below meth c D gw_cl A Q cells slots nL ws' lv (pc + 3) st) : gw_W p l e R s m args below meth c D gw_cl A Q cells slots nL ws lv pc (v :: .ref a :: st) :=
  gw_put (K := R_Wa) (T := T_Wa) (N := 17) (ty := .int) C 13 i_Wa t_Wa t_Wa_ok n_Wa rfl (by decide) tb_211 rfl (by decide +kernel) q0 he hn hfit hl0 hdg hw kk
theorem fg_Wa_75 {p : Program} {l : Launch} {e : Env} {R : Room} {s : State} {m : MethodId} {args : Array Value} {below : List Frame} {meth : Method} {c : Code} {Q : State → Prop} {cc : ByteArray} {nL : Nat} {D : va_G} {tys : List (ClassId × FieldType)} {A : Nat → Prop} {cells slots : Nat} {ws : va_W} {lv : List (Nat × Value)} {pc : Nat} {st : List Value} {a : Nat} {fs : List Value} {v : Value} (C : gw_C p s m args meth c cc nL R_Wa D gw_cl tys A) (q0 : Nat) (he : ws[q0]? = some (a, .inr (1, fs))) (hv : fs[14]? = some v) (hdg : decode cc pc = .ok (.getfield 75, 3)) (kk : gw_W p l e R s m args below meth c D gw_cl A Q cells slots nL ws lv (pc + 3) (v :: st)) : gw_W p l e R s m args below meth c D gw_cl A Q cells slots nL ws lv pc (.ref a :: st) :=
  gw_get (K := R_Wa) (T := T_Wa) (N := 17) C 14 i_Wa rfl (by decide) tb_212 q0 he hv hdg kk
theorem fp_Wa_75 {p : Program} {l : Launch} {e : Env} {R : Room} {s : State} {m : MethodId} {args : Array Value} {below : List Frame} {meth : Method} {c : Code} {Q : State → Prop} {cc : ByteArray} {nL : Nat} {D : va_G} {tys : List (ClassId × FieldType)} {A : Nat → Prop} {cells slots : Nat} {ws : va_W} {lv : List (Nat × Value)} {pc : Nat} {st : List Value} {a : Nat} {fs : List Value} {v : Value} {ws' : va_W} (C : gw_C p s m args meth c cc nL R_Wa D gw_cl tys A) (q0 : Nat) (he : ws[q0]? = some (a, .inr (1, fs))) (hn : narrow (.int) v = v) (hfit : fits (.int) v = true) (hl0 : 14 < fs.length) (hdg : decode cc pc = .ok (.putfield 75, 3)) (hw : ws.set q0 (a, .inr (1, fs.set 14 v)) = ws') (kk : gw_W p l e R s m args below meth c D gw_cl A Q cells slots nL ws' lv (pc + 3) st) : gw_W p l e R s m args below meth c D gw_cl A Q cells slots nL ws lv pc (v :: .ref a :: st) :=
  gw_put (K := R_Wa) (T := T_Wa) (N := 17) (ty := .int) C 14 i_Wa t_Wa t_Wa_ok n_Wa rfl (by decide) tb_212 rfl (by decide +kernel) q0 he hn hfit hl0 hdg hw kk
theorem fg_Wa_78 {p : Program} {l : Launch} {e : Env} {R : Room} {s : State} {m : MethodId} {args : Array Value} {below : List Frame} {meth : Method} {c : Code} {Q : State → Prop} {cc : ByteArray} {nL : Nat} {D : va_G} {tys : List (ClassId × FieldType)} {A : Nat → Prop} {cells slots : Nat} {ws : va_W} {lv : List (Nat × Value)} {pc : Nat} {st : List Value} {a : Nat} {fs : List Value} {v : Value} (C : gw_C p s m args meth c cc nL R_Wa D gw_cl tys A) (q0 : Nat) (he : ws[q0]? = some (a, .inr (1, fs))) (hv : fs[15]? = some v) (hdg : decode cc pc = .ok (.getfield 78, 3)) (kk : gw_W p l e R s m args below meth c D gw_cl A Q cells slots nL ws lv (pc + 3) (v :: st)) : gw_W p l e R s m args below meth c D gw_cl A Q cells slots nL ws lv pc (.ref a :: st) :=
  gw_get (K := R_Wa) (T := T_Wa) (N := 17) C 15 i_Wa rfl (by decide) tb_213 q0 he hv hdg kk
theorem fg_Wa_81 {p : Program} {l : Launch} {e : Env} {R : Room} {s : State} {m : MethodId} {args : Array Value} {below : List Frame} {meth : Method} {c : Code} {Q : State → Prop} {cc : ByteArray} {nL : Nat} {D : va_G} {tys : List (ClassId × FieldType)} {A : Nat → Prop} {cells slots : Nat} {ws : va_W} {lv : List (Nat × Value)} {pc : Nat} {st : List Value} {a : Nat} {fs : List Value} {v : Value} (C : gw_C p s m args meth c cc nL R_Wa D gw_cl tys A) (q0 : Nat) (he : ws[q0]? = some (a, .inr (1, fs))) (hv : fs[16]? = some v) (hdg : decode cc pc = .ok (.getfield 81, 3)) (kk : gw_W p l e R s m args below meth c D gw_cl A Q cells slots nL ws lv (pc + 3) (v :: st)) : gw_W p l e R s m args below meth c D gw_cl A Q cells slots nL ws lv pc (.ref a :: st) :=
  gw_get (K := R_Wa) (T := T_Wa) (N := 17) C 16 i_Wa rfl (by decide) tb_215 q0 he hv hdg kk
theorem fp_Wa_81 {p : Program} {l : Launch} {e : Env} {R : Room} {s : State} {m : MethodId} {args : Array Value} {below : List Frame} {meth : Method} {c : Code} {Q : State → Prop} {cc : ByteArray} {nL : Nat} {D : va_G} {tys : List (ClassId × FieldType)} {A : Nat → Prop} {cells slots : Nat} {ws : va_W} {lv : List (Nat × Value)} {pc : Nat} {st : List Value} {a : Nat} {fs : List Value} {v : Value} {ws' : va_W} (C : gw_C p s m args meth c cc nL R_Wa D gw_cl tys A) (q0 : Nat) (he : ws[q0]? = some (a, .inr (1, fs))) (hn : narrow (.int) v = v) (hfit : fits (.int) v = true) (hl0 : 16 < fs.length) (hdg : decode cc pc = .ok (.putfield 81, 3)) (hw : ws.set q0 (a, .inr (1, fs.set 16 v)) = ws') (kk : gw_W p l e R s m args below meth c D gw_cl A Q cells slots nL ws' lv (pc + 3) st) : gw_W p l e R s m args below meth c D gw_cl A Q cells slots nL ws lv pc (v :: .ref a :: st) :=
  gw_put (K := R_Wa) (T := T_Wa) (N := 17) (ty := .int) C 16 i_Wa t_Wa t_Wa_ok n_Wa rfl (by decide) tb_215 rfl (by decide +kernel) q0 he hn hfit hl0 hdg hw kk
theorem fg_Wa_111 {p : Program} {l : Launch} {e : Env} {R : Room} {s : State} {m : MethodId} {args : Array Value} {below : List Frame} {meth : Method} {c : Code} {Q : State → Prop} {cc : ByteArray} {nL : Nat} {D : va_G} {tys : List (ClassId × FieldType)} {A : Nat → Prop} {cells slots : Nat} {ws : va_W} {lv : List (Nat × Value)} {pc : Nat} {st : List Value} {a : Nat} {fs : List Value} {v : Value} (C : gw_C p s m args meth c cc nL R_Wa D gw_cl tys A) (q0 : Nat) (he : ws[q0]? = some (a, .inr (5, fs))) (hv : fs[4]? = some v) (hdg : decode cc pc = .ok (.getfield 111, 3)) (kk : gw_W p l e R s m args below meth c D gw_cl A Q cells slots nL ws lv (pc + 3) (v :: st)) : gw_W p l e R s m args below meth c D gw_cl A Q cells slots nL ws lv pc (.ref a :: st) :=
  gw_getN (K := R_Ro) (T := T_Ro) (N := 6) C 4 i_Ro rfl (by decide) tb_146 q0 he hv hdg kk
theorem fg_Wa_114 {p : Program} {l : Launch} {e : Env} {R : Room} {s : State} {m : MethodId} {args : Array Value} {below : List Frame} {meth : Method} {c : Code} {Q : State → Prop} {cc : ByteArray} {nL : Nat} {D : va_G} {tys : List (ClassId × FieldType)} {A : Nat → Prop} {cells slots : Nat} {ws : va_W} {lv : List (Nat × Value)} {pc : Nat} {st : List Value} {a : Nat} {fs : List Value} {v : Value} (C : gw_C p s m args meth c cc nL R_Wa D gw_cl tys A) (q0 : Nat) (he : ws[q0]? = some (a, .inr (4, fs))) (hv : fs[12]? = some v) (hdg : decode cc pc = .ok (.getfield 114, 3)) (kk : gw_W p l e R s m args below meth c D gw_cl A Q cells slots nL ws lv (pc + 3) (v :: st)) : gw_W p l e R s m args below meth c D gw_cl A Q cells slots nL ws lv pc (.ref a :: st) :=
  gw_getN (K := R_Th) (T := T_Th) (N := 15) C 12 i_Th rfl (by decide) tb_99 q0 he hv hdg kk
theorem fg_Wa_117 {p : Program} {l : Launch} {e : Env} {R : Room} {s : State} {m : MethodId} {args : Array Value} {below : List Frame} {meth : Method} {c : Code} {Q : State → Prop} {cc : ByteArray} {nL : Nat} {D : va_G} {tys : List (ClassId × FieldType)} {A : Nat → Prop} {cells slots : Nat} {ws : va_W} {lv : List (Nat × Value)} {pc : Nat} {st : List Value} {a : Nat} {fs : List Value} {v : Value} (C : gw_C p s m args meth c cc nL R_Wa D gw_cl tys A) (q0 : Nat) (he : ws[q0]? = some (a, .inr (4, fs))) (hv : fs[13]? = some v) (hdg : decode cc pc = .ok (.getfield 117, 3)) (kk : gw_W p l e R s m args below meth c D gw_cl A Q cells slots nL ws lv (pc + 3) (v :: st)) : gw_W p l e R s m args below meth c D gw_cl A Q cells slots nL ws lv pc (.ref a :: st) :=
  gw_getN (K := R_Th) (T := T_Th) (N := 15) C 13 i_Th rfl (by decide) tb_101 q0 he hv hdg kk
theorem fg_Wa_120 {p : Program} {l : Launch} {e : Env} {R : Room} {s : State} {m : MethodId} {args : Array Value} {below : List Frame} {meth : Method} {c : Code} {Q : State → Prop} {cc : ByteArray} {nL : Nat} {D : va_G} {tys : List (ClassId × FieldType)} {A : Nat → Prop} {cells slots : Nat} {ws : va_W} {lv : List (Nat × Value)} {pc : Nat} {st : List Value} {a : Nat} {fs : List Value} {v : Value} (C : gw_C p s m args meth c cc nL R_Wa D gw_cl tys A) (q0 : Nat) (he : ws[q0]? = some (a, .inr (5, fs))) (hv : fs[5]? = some v) (hdg : decode cc pc = .ok (.getfield 120, 3)) (kk : gw_W p l e R s m args below meth c D gw_cl A Q cells slots nL ws lv (pc + 3) (v :: st)) : gw_W p l e R s m args below meth c D gw_cl A Q cells slots nL ws lv pc (.ref a :: st) :=
  gw_getN (K := R_Ro) (T := T_Ro) (N := 6) C 5 i_Ro rfl (by decide) tb_148 q0 he hv hdg kk
theorem fg_Wa_123 {p : Program} {l : Launch} {e : Env} {R : Room} {s : State} {m : MethodId} {args : Array Value} {below : List Frame} {meth : Method} {c : Code} {Q : State → Prop} {cc : ByteArray} {nL : Nat} {D : va_G} {tys : List (ClassId × FieldType)} {A : Nat → Prop} {cells slots : Nat} {ws : va_W} {lv : List (Nat × Value)} {pc : Nat} {st : List Value} {a : Nat} {fs : List Value} {v : Value} (C : gw_C p s m args meth c cc nL R_Wa D gw_cl tys A) (q0 : Nat) (he : ws[q0]? = some (a, .inr (3, fs))) (hv : fs[3]? = some v) (hdg : decode cc pc = .ok (.getfield 123, 3)) (kk : gw_W p l e R s m args below meth c D gw_cl A Q cells slots nL ws lv (pc + 3) (v :: st)) : gw_W p l e R s m args below meth c D gw_cl A Q cells slots nL ws lv pc (.ref a :: st) :=
  gw_getN (K := R_Pl) (T := T_Pl) (N := 4) C 3 i_Pl rfl (by decide) tb_70 q0 he hv hdg kk
theorem fg_Wa_239 {p : Program} {l : Launch} {e : Env} {R : Room} {s : State} {m : MethodId} {args : Array Value} {below : List Frame} {meth : Method} {c : Code} {Q : State → Prop} {cc : ByteArray} {nL : Nat} {D : va_G} {tys : List (ClassId × FieldType)} {A : Nat → Prop} {cells slots : Nat} {ws : va_W} {lv : List (Nat × Value)} {pc : Nat} {st : List Value} {a : Nat} {fs : List Value} {v : Value} (C : gw_C p s m args meth c cc nL R_Wa D gw_cl tys A) (q0 : Nat) (he : ws[q0]? = some (a, .inr (6, fs))) (hv : fs[2]? = some v) (hdg : decode cc pc = .ok (.getfield 239, 3)) (kk : gw_W p l e R s m args below meth c D gw_cl A Q cells slots nL ws lv (pc + 3) (v :: st)) : gw_W p l e R s m args below meth c D gw_cl A Q cells slots nL ws lv pc (.ref a :: st) :=
  gw_getN (K := R_Va) (T := T_Va) (N := 4) C 2 i_Va rfl (by decide) tb_179 q0 he hv hdg kk
theorem fg_Wa_245 {p : Program} {l : Launch} {e : Env} {R : Room} {s : State} {m : MethodId} {args : Array Value} {below : List Frame} {meth : Method} {c : Code} {Q : State → Prop} {cc : ByteArray} {nL : Nat} {D : va_G} {tys : List (ClassId × FieldType)} {A : Nat → Prop} {cells slots : Nat} {ws : va_W} {lv : List (Nat × Value)} {pc : Nat} {st : List Value} {a : Nat} {fs : List Value} {v : Value} (C : gw_C p s m args meth c cc nL R_Wa D gw_cl tys A) (q0 : Nat) (he : ws[q0]? = some (a, .inr (6, fs))) (hv : fs[3]? = some v) (hdg : decode cc pc = .ok (.getfield 245, 3)) (kk : gw_W p l e R s m args below meth c D gw_cl A Q cells slots nL ws lv (pc + 3) (v :: st)) : gw_W p l e R s m args below meth c D gw_cl A Q cells slots nL ws lv pc (.ref a :: st) :=
  gw_getN (K := R_Va) (T := T_Va) (N := 4) C 3 i_Va rfl (by decide) tb_183 q0 he hv hdg kk
theorem fg_Wa_248 {p : Program} {l : Launch} {e : Env} {R : Room} {s : State} {m : MethodId} {args : Array Value} {below : List Frame} {meth : Method} {c : Code} {Q : State → Prop} {cc : ByteArray} {nL : Nat} {D : va_G} {tys : List (ClassId × FieldType)} {A : Nat → Prop} {cells slots : Nat} {ws : va_W} {lv : List (Nat × Value)} {pc : Nat} {st : List Value} {a : Nat} {fs : List Value} {v : Value} (C : gw_C p s m args meth c cc nL R_Wa D gw_cl tys A) (q0 : Nat) (he : ws[q0]? = some (a, .inr (6, fs))) (hv : fs[0]? = some v) (hdg : decode cc pc = .ok (.getfield 248, 3)) (kk : gw_W p l e R s m args below meth c D gw_cl A Q cells slots nL ws lv (pc + 3) (v :: st)) : gw_W p l e R s m args below meth c D gw_cl A Q cells slots nL ws lv pc (.ref a :: st) :=
  gw_getN (K := R_Va) (T := T_Va) (N := 4) C 0 i_Va rfl (by decide) tb_171 q0 he hv hdg kk
theorem fg_Wa_251 {p : Program} {l : Launch} {e : Env} {R : Room} {s : State} {m : MethodId} {args : Array Value} {below : List Frame} {meth : Method} {c : Code} {Q : State → Prop} {cc : ByteArray} {nL : Nat} {D : va_G} {tys : List (ClassId × FieldType)} {A : Nat → Prop} {cells slots : Nat} {ws : va_W} {lv : List (Nat × Value)} {pc : Nat} {st : List Value} {a : Nat} {fs : List Value} {v : Value} (C : gw_C p s m args meth c cc nL R_Wa D gw_cl tys A) (q0 : Nat) (he : ws[q0]? = some (a, .inr (6, fs))) (hv : fs[1]? = some v) (hdg : decode cc pc = .ok (.getfield 251, 3)) (kk : gw_W p l e R s m args below meth c D gw_cl A Q cells slots nL ws lv (pc + 3) (v :: st)) : gw_W p l e R s m args below meth c D gw_cl A Q cells slots nL ws lv pc (.ref a :: st) :=
  gw_getN (K := R_Va) (T := T_Va) (N := 4) C 1 i_Va rfl (by decide) tb_175 q0 he hv hdg kk
theorem fg_Wa_268 {p : Program} {l : Launch} {e : Env} {R : Room} {s : State} {m : MethodId} {args : Array Value} {below : List Frame} {meth : Method} {c : Code} {Q : State → Prop} {cc : ByteArray} {nL : Nat} {D : va_G} {tys : List (ClassId × FieldType)} {A : Nat → Prop} {cells slots : Nat} {ws : va_W} {lv : List (Nat × Value)} {pc : Nat} {st : List Value} {a : Nat} {fs : List Value} {v : Value} (C : gw_C p s m args meth c cc nL R_Wa D gw_cl tys A) (q0 : Nat) (he : ws[q0]? = some (a, .inr (4, fs))) (hv : fs[14]? = some v) (hdg : decode cc pc = .ok (.getfield 268, 3)) (kk : gw_W p l e R s m args below meth c D gw_cl A Q cells slots nL ws lv (pc + 3) (v :: st)) : gw_W p l e R s m args below meth c D gw_cl A Q cells slots nL ws lv pc (.ref a :: st) :=
  gw_getN (K := R_Th) (T := T_Th) (N := 15) C 14 i_Th rfl (by decide) tb_103 q0 he hv hdg kk
theorem fc_Pl_25 {p : Program} {l : Launch} {e : Env} {R : Room} {s : State} {m : MethodId} {args : Array Value} {below : List Frame} {meth : Method} {c : Code} {Q : State → Prop} {cc : ByteArray} {nL : Nat} {D : va_G} {tys : List (ClassId × FieldType)} {A : Nat → Prop} {cells slots : Nat} {ws w' : va_W} {lv : List (Nat × Value)} {pc : Nat} {st As : List Value} {o : Option Value} {b : Nat} {fs : List Value} (C : gw_C p s m args meth c cc nL R_Pl D gw_cl tys A) (hM : gw_M l y_Pl_has w_Pl_has rm_Pl_has D gw_cl tys (.ref b :: As) ws w' o) (hR : rm_Pl_has.frames + 1 ≤ R.frames ∧ 8 + (2 + 11) + rm_Pl_has.locals ≤ R.locals) (hf : cells + 0 ≤ R.cells ∧ slots + 0 ≤ R.slots) (q0 : Nat) (he : ws[q0]? = some (b, .inr (3, fs))) (hn : As.length = 1) (hW : (st.map fun v => v.category).sum ≤ 8) (hdg : decode cc pc = .ok (.invokevirtual 25, 3)) (kk : gw_W p l e R s m args below meth c D gw_cl A Q cells slots nL w' lv (pc + 3) (o.toList ++ st)) : gw_W p l e R s m args below meth c D gw_cl A Q cells slots nL ws lv pc (As.reverse ++ .ref b :: st) :=
  gw_callV (T := T_Pl) (N := 4) C hM (gw_good tb_546) tb_543 tb_544 tb_545 tb_4 (by decide +kernel) hR hf rfl rfl rfl he hn hW hdg kk
theorem fc_Ro_32 {p : Program} {l : Launch} {e : Env} {R : Room} {s : State} {m : MethodId} {args : Array Value} {below : List Frame} {meth : Method} {c : Code} {Q : State → Prop} {cc : ByteArray} {nL : Nat} {D : va_G} {tys : List (ClassId × FieldType)} {A : Nat → Prop} {cells slots : Nat} {ws w' : va_W} {lv : List (Nat × Value)} {pc : Nat} {st As : List Value} {o : Option Value} {b : Nat} {fs : List Value} (C : gw_C p s m args meth c cc nL R_Ro D gw_cl tys A) (hM : gw_M l y_Ro_has w_Ro_has rm_Ro_has D gw_cl tys (.ref b :: As) ws w' o) (hR : rm_Ro_has.frames + 1 ≤ R.frames ∧ 8 + (2 + 11) + rm_Ro_has.locals ≤ R.locals) (hf : cells + 0 ≤ R.cells ∧ slots + 0 ≤ R.slots) (q0 : Nat) (he : ws[q0]? = some (b, .inr (5, fs))) (hn : As.length = 1) (hW : (st.map fun v => v.category).sum ≤ 8) (hdg : decode cc pc = .ok (.invokevirtual 32, 3)) (kk : gw_W p l e R s m args below meth c D gw_cl A Q cells slots nL w' lv (pc + 3) (o.toList ++ st)) : gw_W p l e R s m args below meth c D gw_cl A Q cells slots nL ws lv pc (As.reverse ++ .ref b :: st) :=
  gw_callV (T := T_Ro) (N := 6) C hM (gw_good tb_570) tb_567 tb_568 tb_569 tb_6 (by decide +kernel) hR hf rfl rfl rfl he hn hW hdg kk
theorem fc_Te_35 {p : Program} {l : Launch} {e : Env} {R : Room} {s : State} {m : MethodId} {args : Array Value} {below : List Frame} {meth : Method} {c : Code} {Q : State → Prop} {cc : ByteArray} {nL : Nat} {D : va_G} {tys : List (ClassId × FieldType)} {A : Nat → Prop} {cells slots : Nat} {ws w' : va_W} {lv : List (Nat × Value)} {pc : Nat} {st As : List Value} {o : Option Value} {b : Nat} {fs : List Value} (C : gw_C p s m args meth c cc nL R_Te D gw_cl tys A) (hM : gw_M l y_Te_add w_Te_add rm_Te_add D gw_cl tys (.ref b :: As) ws w' o) (hR : rm_Te_add.frames + 1 ≤ R.frames ∧ 8 + (9 + 11) + rm_Te_add.locals ≤ R.locals) (hf : cells + 0 ≤ R.cells ∧ slots + 0 ≤ R.slots) (q0 : Nat) (he : ws[q0]? = some (b, .inr (2, fs))) (hn : As.length = 6) (hW : (st.map fun v => v.category).sum ≤ 8) (hdg : decode cc pc = .ok (.invokevirtual 35, 3)) (kk : gw_W p l e R s m args below meth c D gw_cl A Q cells slots nL w' lv (pc + 3) (o.toList ++ st)) : gw_W p l e R s m args below meth c D gw_cl A Q cells slots nL ws lv pc (As.reverse ++ .ref b :: st) :=
  gw_callV (T := T_Te) (N := 7) C hM (gw_good tb_358) tb_355 tb_357 sl_Te_add tb_3 (by decide +kernel) hR hf rfl rfl rfl he hn hW hdg kk
theorem fc_Te_39 {p : Program} {l : Launch} {e : Env} {R : Room} {s : State} {m : MethodId} {args : Array Value} {below : List Frame} {meth : Method} {c : Code} {Q : State → Prop} {cc : ByteArray} {nL : Nat} {D : va_G} {tys : List (ClassId × FieldType)} {A : Nat → Prop} {cells slots : Nat} {ws w' : va_W} {lv : List (Nat × Value)} {pc : Nat} {st As : List Value} {o : Option Value} {b : Nat} {fs : List Value} (C : gw_C p s m args meth c cc nL R_Te D gw_cl tys A) (hM : gw_M l y_Te_lackOf w_Te_lackOf rm_Te_lackOf D gw_cl tys (.ref b :: As) ws w' o) (hR : rm_Te_lackOf.frames + 1 ≤ R.frames ∧ 8 + (2 + 11) + rm_Te_lackOf.locals ≤ R.locals) (hf : cells + 0 ≤ R.cells ∧ slots + 0 ≤ R.slots) (q0 : Nat) (he : ws[q0]? = some (b, .inr (2, fs))) (hn : As.length = 1) (hW : (st.map fun v => v.category).sum ≤ 8) (hdg : decode cc pc = .ok (.invokevirtual 39, 3)) (kk : gw_W p l e R s m args below meth c D gw_cl A Q cells slots nL w' lv (pc + 3) (o.toList ++ st)) : gw_W p l e R s m args below meth c D gw_cl A Q cells slots nL ws lv pc (As.reverse ++ .ref b :: st) :=
  gw_callV (T := T_Te) (N := 7) C hM (gw_good tb_427) tb_424 tb_425 tb_426 tb_3 (by decide +kernel) hR hf rfl rfl rfl he hn hW hdg kk
theorem fc_Te_43 {p : Program} {l : Launch} {e : Env} {R : Room} {s : State} {m : MethodId} {args : Array Value} {below : List Frame} {meth : Method} {c : Code} {Q : State → Prop} {cc : ByteArray} {nL : Nat} {D : va_G} {tys : List (ClassId × FieldType)} {A : Nat → Prop} {cells slots : Nat} {ws w' : va_W} {lv : List (Nat × Value)} {pc : Nat} {st As : List Value} {o : Option Value} {b : Nat} {fs : List Value} (C : gw_C p s m args meth c cc nL R_Te D gw_cl tys A) (hM : gw_M l y_Te_oneLess w_Te_oneLess rm_Te_oneLess D gw_cl tys As ws w' o) (hR : rm_Te_oneLess.frames + 1 ≤ R.frames ∧ 8 + (1 + 11) + rm_Te_oneLess.locals ≤ R.locals) (hf : cells + 0 ≤ R.cells ∧ slots + 0 ≤ R.slots) (hn : As.length = 1) (hW : (st.map fun v => v.category).sum ≤ 8) (hdg : decode cc pc = .ok (.invokestatic 43, 3)) (kk : gw_W p l e R s m args below meth c D gw_cl A Q cells slots nL w' lv (pc + 3) (o.toList ++ st)) : gw_W p l e R s m args below meth c D gw_cl A Q cells slots nL ws lv pc (As.reverse ++ st) :=
  gw_callS C hM (gw_good tb_431) tb_429 tb_430 tb_3 (by decide +kernel) hR hf rfl rfl hn hW hdg kk
theorem fc_Te_52 {p : Program} {l : Launch} {e : Env} {R : Room} {s : State} {m : MethodId} {args : Array Value} {below : List Frame} {meth : Method} {c : Code} {Q : State → Prop} {cc : ByteArray} {nL : Nat} {D : va_G} {tys : List (ClassId × FieldType)} {A : Nat → Prop} {cells slots : Nat} {ws w' : va_W} {lv : List (Nat × Value)} {pc : Nat} {st As : List Value} {o : Option Value} {b : Nat} {fs : List Value} (C : gw_C p s m args meth c cc nL R_Te D gw_cl tys A) (hM : gw_M l y_Te_has w_Te_has rm_Te_has D gw_cl tys (.ref b :: As) ws w' o) (hR : rm_Te_has.frames + 1 ≤ R.frames ∧ 8 + (2 + 11) + rm_Te_has.locals ≤ R.locals) (hf : cells + 0 ≤ R.cells ∧ slots + 0 ≤ R.slots) (q0 : Nat) (he : ws[q0]? = some (b, .inr (2, fs))) (hn : As.length = 1) (hW : (st.map fun v => v.category).sum ≤ 8) (hdg : decode cc pc = .ok (.invokevirtual 52, 3)) (kk : gw_W p l e R s m args below meth c D gw_cl A Q cells slots nL w' lv (pc + 3) (o.toList ++ st)) : gw_W p l e R s m args below meth c D gw_cl A Q cells slots nL ws lv pc (As.reverse ++ .ref b :: st) :=
  gw_callV (T := T_Te) (N := 7) C hM (gw_good tb_402) tb_428 tb_400 tb_401 tb_3 (by decide +kernel) hR hf rfl rfl rfl he hn hW hdg kk
theorem fc_Th_59 {p : Program} {l : Launch} {e : Env} {R : Room} {s : State} {m : MethodId} {args : Array Value} {below : List Frame} {meth : Method} {c : Code} {Q : State → Prop} {cc : ByteArray} {nL : Nat} {D : va_G} {tys : List (ClassId × FieldType)} {A : Nat → Prop} {cells slots : Nat} {ws w' : va_W} {lv : List (Nat × Value)} {pc : Nat} {st As : List Value} {o : Option Value} {b : Nat} {fs : List Value} (C : gw_C p s m args meth c cc nL R_Th D gw_cl tys A) (hM : gw_M l y_Th_has w_Th_has rm_Th_has D gw_cl tys (.ref b :: As) ws w' o) (hR : rm_Th_has.frames + 1 ≤ R.frames ∧ 8 + (2 + 11) + rm_Th_has.locals ≤ R.locals) (hf : cells + 0 ≤ R.cells ∧ slots + 0 ≤ R.slots) (q0 : Nat) (he : ws[q0]? = some (b, .inr (4, fs))) (hn : As.length = 1) (hW : (st.map fun v => v.category).sum ≤ 8) (hdg : decode cc pc = .ok (.invokevirtual 59, 3)) (kk : gw_W p l e R s m args below meth c D gw_cl A Q cells slots nL w' lv (pc + 3) (o.toList ++ st)) : gw_W p l e R s m args below meth c D gw_cl A Q cells slots nL ws lv pc (As.reverse ++ .ref b :: st) :=
  gw_callV (T := T_Th) (N := 15) C hM (gw_good tb_594) tb_591 tb_592 tb_593 tb_5 (by decide +kernel) hR hf rfl rfl rfl he hn hW hdg kk
theorem fc_Th_78 {p : Program} {l : Launch} {e : Env} {R : Room} {s : State} {m : MethodId} {args : Array Value} {below : List Frame} {meth : Method} {c : Code} {Q : State → Prop} {cc : ByteArray} {nL : Nat} {D : va_G} {tys : List (ClassId × FieldType)} {A : Nat → Prop} {cells slots : Nat} {ws w' : va_W} {lv : List (Nat × Value)} {pc : Nat} {st As : List Value} {o : Option Value} {b : Nat} {fs : List Value} (C : gw_C p s m args meth c cc nL R_Th D gw_cl tys A) (hM : gw_M l y_Va_be w_Va_be rm_Va_be D gw_cl tys (.ref b :: As) ws w' o) (hR : rm_Va_be.frames + 1 ≤ R.frames ∧ 8 + (6 + 11) + rm_Va_be.locals ≤ R.locals) (hf : cells + 0 ≤ R.cells ∧ slots + 0 ≤ R.slots) (q0 : Nat) (he : ws[q0]? = some (b, .inr (6, fs))) (hn : As.length = 4) (hW : (st.map fun v => v.category).sum ≤ 8) (hdg : decode cc pc = .ok (.invokevirtual 78, 3)) (kk : gw_W p l e R s m args below meth c D gw_cl A Q cells slots nL w' lv (pc + 3) (o.toList ++ st)) : gw_W p l e R s m args below meth c D gw_cl A Q cells slots nL ws lv pc (As.reverse ++ .ref b :: st) :=
  gw_callV (T := T_Va) (N := 4) C hM (gw_good tb_497) tb_651 tb_495 tb_496 tb_7 (by decide +kernel) hR hf rfl rfl rfl he hn hW hdg kk
theorem fc_Va_25 {p : Program} {l : Launch} {e : Env} {R : Room} {s : State} {m : MethodId} {args : Array Value} {below : List Frame} {meth : Method} {c : Code} {Q : State → Prop} {cc : ByteArray} {nL : Nat} {D : va_G} {tys : List (ClassId × FieldType)} {A : Nat → Prop} {cells slots : Nat} {ws w' : va_W} {lv : List (Nat × Value)} {pc : Nat} {st As : List Value} {o : Option Value} {b : Nat} {fs : List Value} (C : gw_C p s m args meth c cc nL R_Va D gw_cl tys A) (hM : gw_M l y_Va_be w_Va_be rm_Va_be D gw_cl tys (.ref b :: As) ws w' o) (hR : rm_Va_be.frames + 1 ≤ R.frames ∧ 8 + (6 + 11) + rm_Va_be.locals ≤ R.locals) (hf : cells + 0 ≤ R.cells ∧ slots + 0 ≤ R.slots) (q0 : Nat) (he : ws[q0]? = some (b, .inr (6, fs))) (hn : As.length = 4) (hW : (st.map fun v => v.category).sum ≤ 8) (hdg : decode cc pc = .ok (.invokevirtual 25, 3)) (kk : gw_W p l e R s m args below meth c D gw_cl A Q cells slots nL w' lv (pc + 3) (o.toList ++ st)) : gw_W p l e R s m args below meth c D gw_cl A Q cells slots nL ws lv pc (As.reverse ++ .ref b :: st) :=
  gw_callV (T := T_Va) (N := 4) C hM (gw_good tb_497) tb_494 tb_495 tb_496 tb_7 (by decide +kernel) hR hf rfl rfl rfl he hn hW hdg kk
theorem fc_Wa_84 {p : Program} {l : Launch} {e : Env} {R : Room} {s : State} {m : MethodId} {args : Array Value} {below : List Frame} {meth : Method} {c : Code} {Q : State → Prop} {cc : ByteArray} {nL : Nat} {D : va_G} {tys : List (ClassId × FieldType)} {A : Nat → Prop} {cells slots : Nat} {ws w' : va_W} {lv : List (Nat × Value)} {pc : Nat} {st As : List Value} {o : Option Value} {b : Nat} {fs : List Value} (C : gw_C p s m args meth c cc nL R_Wa D gw_cl tys A) (hM : gw_M l y_Pl_clear w_Pl_clear rm_Pl_clear D gw_cl tys (.ref b :: As) ws w' o) (hR : rm_Pl_clear.frames + 1 ≤ R.frames ∧ 8 + (1 + 11) + rm_Pl_clear.locals ≤ R.locals) (hf : cells + 0 ≤ R.cells ∧ slots + 0 ≤ R.slots) (q0 : Nat) (he : ws[q0]? = some (b, .inr (3, fs))) (hn : As.length = 0) (hW : (st.map fun v => v.category).sum ≤ 8) (hdg : decode cc pc = .ok (.invokevirtual 84, 3)) (kk : gw_W p l e R s m args below meth c D gw_cl A Q cells slots nL w' lv (pc + 3) (o.toList ++ st)) : gw_W p l e R s m args below meth c D gw_cl A Q cells slots nL ws lv pc (As.reverse ++ .ref b :: st) :=
  gw_callV (T := T_Pl) (N := 4) C hM (gw_good tb_481) tb_478 tb_479 tb_480 tb_4 (by decide +kernel) hR hf rfl rfl rfl he hn hW hdg kk
theorem fc_Wa_87 {p : Program} {l : Launch} {e : Env} {R : Room} {s : State} {m : MethodId} {args : Array Value} {below : List Frame} {meth : Method} {c : Code} {Q : State → Prop} {cc : ByteArray} {nL : Nat} {D : va_G} {tys : List (ClassId × FieldType)} {A : Nat → Prop} {cells slots : Nat} {ws w' : va_W} {lv : List (Nat × Value)} {pc : Nat} {st As : List Value} {o : Option Value} {b : Nat} {fs : List Value} (C : gw_C p s m args meth c cc nL R_Wa D gw_cl tys A) (hM : gw_M l y_Th_clear w_Th_clear rm_Th_clear D gw_cl tys (.ref b :: As) ws w' o) (hR : rm_Th_clear.frames + 1 ≤ R.frames ∧ 8 + (1 + 11) + rm_Th_clear.locals ≤ R.locals) (hf : cells + 0 ≤ R.cells ∧ slots + 0 ≤ R.slots) (q0 : Nat) (he : ws[q0]? = some (b, .inr (4, fs))) (hn : As.length = 0) (hW : (st.map fun v => v.category).sum ≤ 8) (hdg : decode cc pc = .ok (.invokevirtual 87, 3)) (kk : gw_W p l e R s m args below meth c D gw_cl A Q cells slots nL w' lv (pc + 3) (o.toList ++ st)) : gw_W p l e R s m args below meth c D gw_cl A Q cells slots nL ws lv pc (As.reverse ++ .ref b :: st) :=
  gw_callV (T := T_Th) (N := 15) C hM (gw_good tb_485) tb_482 tb_483 tb_484 tb_5 (by decide +kernel) hR hf rfl rfl rfl he hn hW hdg kk
theorem fc_Wa_88 {p : Program} {l : Launch} {e : Env} {R : Room} {s : State} {m : MethodId} {args : Array Value} {below : List Frame} {meth : Method} {c : Code} {Q : State → Prop} {cc : ByteArray} {nL : Nat} {D : va_G} {tys : List (ClassId × FieldType)} {A : Nat → Prop} {cells slots : Nat} {ws w' : va_W} {lv : List (Nat × Value)} {pc : Nat} {st As : List Value} {o : Option Value} {b : Nat} {fs : List Value} (C : gw_C p s m args meth c cc nL R_Wa D gw_cl tys A) (hM : gw_M l y_Ro_clear w_Ro_clear rm_Ro_clear D gw_cl tys (.ref b :: As) ws w' o) (hR : rm_Ro_clear.frames + 1 ≤ R.frames ∧ 8 + (1 + 11) + rm_Ro_clear.locals ≤ R.locals) (hf : cells + 0 ≤ R.cells ∧ slots + 0 ≤ R.slots) (q0 : Nat) (he : ws[q0]? = some (b, .inr (5, fs))) (hn : As.length = 0) (hW : (st.map fun v => v.category).sum ≤ 8) (hdg : decode cc pc = .ok (.invokevirtual 88, 3)) (kk : gw_W p l e R s m args below meth c D gw_cl A Q cells slots nL w' lv (pc + 3) (o.toList ++ st)) : gw_W p l e R s m args below meth c D gw_cl A Q cells slots nL ws lv pc (As.reverse ++ .ref b :: st) :=
  gw_callV (T := T_Ro) (N := 6) C hM (gw_good tb_489) tb_486 tb_487 tb_488 tb_6 (by decide +kernel) hR hf rfl rfl rfl he hn hW hdg kk
theorem fc_Wa_89 {p : Program} {l : Launch} {e : Env} {R : Room} {s : State} {m : MethodId} {args : Array Value} {below : List Frame} {meth : Method} {c : Code} {Q : State → Prop} {cc : ByteArray} {nL : Nat} {D : va_G} {tys : List (ClassId × FieldType)} {A : Nat → Prop} {cells slots : Nat} {ws w' : va_W} {lv : List (Nat × Value)} {pc : Nat} {st As : List Value} {o : Option Value} {b : Nat} {fs : List Value} (C : gw_C p s m args meth c cc nL R_Wa D gw_cl tys A) (hM : gw_M l y_Va_beNumber w_Va_beNumber rm_Va_beNumber D gw_cl tys (.ref b :: As) ws w' o) (hR : rm_Va_beNumber.frames + 1 ≤ R.frames ∧ 8 + (3 + 11) + rm_Va_beNumber.locals ≤ R.locals) (hf : cells + 0 ≤ R.cells ∧ slots + 0 ≤ R.slots) (q0 : Nat) (he : ws[q0]? = some (b, .inr (6, fs))) (hn : As.length = 1) (hW : (st.map fun v => v.category).sum ≤ 8) (hdg : decode cc pc = .ok (.invokevirtual 89, 3)) (kk : gw_W p l e R s m args below meth c D gw_cl A Q cells slots nL w' lv (pc + 3) (o.toList ++ st)) : gw_W p l e R s m args below meth c D gw_cl A Q cells slots nL ws lv pc (As.reverse ++ .ref b :: st) :=
  gw_callV (T := T_Va) (N := 4) C hM (gw_good tb_493) tb_490 tb_491 tb_492 tb_7 (by decide +kernel) hR hf rfl rfl rfl he hn hW hdg kk
theorem fc_Wa_93 {p : Program} {l : Launch} {e : Env} {R : Room} {s : State} {m : MethodId} {args : Array Value} {below : List Frame} {meth : Method} {c : Code} {Q : State → Prop} {cc : ByteArray} {nL : Nat} {D : va_G} {tys : List (ClassId × FieldType)} {A : Nat → Prop} {cells slots : Nat} {ws w' : va_W} {lv : List (Nat × Value)} {pc : Nat} {st As : List Value} {o : Option Value} {b : Nat} {fs : List Value} (C : gw_C p s m args meth c cc nL R_Wa D gw_cl tys A) (hM : gw_M l y_Wa_takeTerm w_Wa_takeTerm rm_Wa_takeTerm D gw_cl tys (.ref b :: As) ws w' o) (hR : rm_Wa_takeTerm.frames + 1 ≤ R.frames ∧ 8 + (3 + 11) + rm_Wa_takeTerm.locals ≤ R.locals) (hf : cells + 0 ≤ R.cells ∧ slots + 0 ≤ R.slots) (q0 : Nat) (he : ws[q0]? = some (b, .inr (1, fs))) (hn : As.length = 2) (hW : (st.map fun v => v.category).sum ≤ 8) (hdg : decode cc pc = .ok (.invokevirtual 93, 3)) (kk : gw_W p l e R s m args below meth c D gw_cl A Q cells slots nL w' lv (pc + 3) (o.toList ++ st)) : gw_W p l e R s m args below meth c D gw_cl A Q cells slots nL ws lv pc (As.reverse ++ .ref b :: st) :=
  gw_callV (T := T_Wa) (N := 17) C hM (gw_good tb_501) tb_498 tb_500 sl_Wa_takeTerm tb_2 (by decide +kernel) hR hf rfl rfl rfl he hn hW hdg kk
theorem fc_Wa_97 {p : Program} {l : Launch} {e : Env} {R : Room} {s : State} {m : MethodId} {args : Array Value} {below : List Frame} {meth : Method} {c : Code} {Q : State → Prop} {cc : ByteArray} {nL : Nat} {D : va_G} {tys : List (ClassId × FieldType)} {A : Nat → Prop} {cells slots : Nat} {ws w' : va_W} {lv : List (Nat × Value)} {pc : Nat} {st As : List Value} {o : Option Value} {b : Nat} {fs : List Value} (C : gw_C p s m args meth c cc nL R_Wa D gw_cl tys A) (hM : gw_M l y_Wa_sweepUnreached w_Wa_sweepUnreached rm_Wa_sweepUnreached D gw_cl tys (.ref b :: As) ws w' o) (hR : rm_Wa_sweepUnreached.frames + 1 ≤ R.frames ∧ 8 + (2 + 11) + rm_Wa_sweepUnreached.locals ≤ R.locals) (hf : cells + 0 ≤ R.cells ∧ slots + 0 ≤ R.slots) (q0 : Nat) (he : ws[q0]? = some (b, .inr (1, fs))) (hn : As.length = 0) (hW : (st.map fun v => v.category).sum ≤ 8) (hdg : decode cc pc = .ok (.invokevirtual 97, 3)) (kk : gw_W p l e R s m args below meth c D gw_cl A Q cells slots nL w' lv (pc + 3) (o.toList ++ st)) : gw_W p l e R s m args below meth c D gw_cl A Q cells slots nL ws lv pc (As.reverse ++ .ref b :: st) :=
  gw_callV (T := T_Wa) (N := 17) C hM (gw_good tb_522) tb_519 tb_520 tb_521 tb_2 (by decide +kernel) hR hf rfl rfl rfl he hn hW hdg kk
theorem fc_Wa_101 {p : Program} {l : Launch} {e : Env} {R : Room} {s : State} {m : MethodId} {args : Array Value} {below : List Frame} {meth : Method} {c : Code} {Q : State → Prop} {cc : ByteArray} {nL : Nat} {D : va_G} {tys : List (ClassId × FieldType)} {A : Nat → Prop} {cells slots : Nat} {ws w' : va_W} {lv : List (Nat × Value)} {pc : Nat} {st As : List Value} {o : Option Value} {b : Nat} {fs : List Value} (C : gw_C p s m args meth c cc nL R_Wa D gw_cl tys A) (hM : gw_M l y_Wa_stepWithTerm w_Wa_stepWithTerm rm_Wa_stepWithTerm D gw_cl tys (.ref b :: As) ws w' o) (hR : rm_Wa_stepWithTerm.frames + 1 ≤ R.frames ∧ 8 + (1 + 11) + rm_Wa_stepWithTerm.locals ≤ R.locals) (hf : cells + 0 ≤ R.cells ∧ slots + 0 ≤ R.slots) (q0 : Nat) (he : ws[q0]? = some (b, .inr (1, fs))) (hn : As.length = 0) (hW : (st.map fun v => v.category).sum ≤ 8) (hdg : decode cc pc = .ok (.invokevirtual 101, 3)) (kk : gw_W p l e R s m args below meth c D gw_cl A Q cells slots nL w' lv (pc + 3) (o.toList ++ st)) : gw_W p l e R s m args below meth c D gw_cl A Q cells slots nL ws lv pc (As.reverse ++ .ref b :: st) :=
  gw_callV (T := T_Wa) (N := 17) C hM (gw_good tb_618) tb_615 tb_617 sl_Wa_stepWithTerm tb_2 (by decide +kernel) hR hf rfl rfl rfl he hn hW hdg kk
theorem fc_Wa_104 {p : Program} {l : Launch} {e : Env} {R : Room} {s : State} {m : MethodId} {args : Array Value} {below : List Frame} {meth : Method} {c : Code} {Q : State → Prop} {cc : ByteArray} {nL : Nat} {D : va_G} {tys : List (ClassId × FieldType)} {A : Nat → Prop} {cells slots : Nat} {ws w' : va_W} {lv : List (Nat × Value)} {pc : Nat} {st As : List Value} {o : Option Value} {b : Nat} {fs : List Value} (C : gw_C p s m args meth c cc nL R_Wa D gw_cl tys A) (hM : gw_M l y_Wa_stepWithValue w_Wa_stepWithValue rm_Wa_stepWithValue D gw_cl tys (.ref b :: As) ws w' o) (hR : rm_Wa_stepWithValue.frames + 1 ≤ R.frames ∧ 8 + (2 + 11) + rm_Wa_stepWithValue.locals ≤ R.locals) (hf : cells + 0 ≤ R.cells ∧ slots + 0 ≤ R.slots) (q0 : Nat) (he : ws[q0]? = some (b, .inr (1, fs))) (hn : As.length = 0) (hW : (st.map fun v => v.category).sum ≤ 8) (hdg : decode cc pc = .ok (.invokevirtual 104, 3)) (kk : gw_W p l e R s m args below meth c D gw_cl A Q cells slots nL w' lv (pc + 3) (o.toList ++ st)) : gw_W p l e R s m args below meth c D gw_cl A Q cells slots nL ws lv pc (As.reverse ++ .ref b :: st) :=
  gw_callV (T := T_Wa) (N := 17) C hM (gw_good tb_731) tb_728 tb_730 sl_Wa_stepWithValue tb_2 (by decide +kernel) hR hf rfl rfl rfl he hn hW hdg kk
theorem fc_Wa_107 {p : Program} {l : Launch} {e : Env} {R : Room} {s : State} {m : MethodId} {args : Array Value} {below : List Frame} {meth : Method} {c : Code} {Q : State → Prop} {cc : ByteArray} {nL : Nat} {D : va_G} {tys : List (ClassId × FieldType)} {A : Nat → Prop} {cells slots : Nat} {ws w' : va_W} {lv : List (Nat × Value)} {pc : Nat} {st As : List Value} {o : Option Value} {b : Nat} {fs : List Value} (C : gw_C p s m args meth c cc nL R_Wa D gw_cl tys A) (hM : gw_M l y_Wa_need w_Wa_need rm_Wa_need D gw_cl tys (.ref b :: As) ws w' o) (hR : rm_Wa_need.frames + 1 ≤ R.frames ∧ 8 + (3 + 11) + rm_Wa_need.locals ≤ R.locals) (hf : cells + 0 ≤ R.cells ∧ slots + 0 ≤ R.slots) (q0 : Nat) (he : ws[q0]? = some (b, .inr (1, fs))) (hn : As.length = 2) (hW : (st.map fun v => v.category).sum ≤ 8) (hdg : decode cc pc = .ok (.invokevirtual 107, 3)) (kk : gw_W p l e R s m args below meth c D gw_cl A Q cells slots nL w' lv (pc + 3) (o.toList ++ st)) : gw_W p l e R s m args below meth c D gw_cl A Q cells slots nL ws lv pc (As.reverse ++ .ref b :: st) :=
  gw_callV (T := T_Wa) (N := 17) C hM (gw_good tb_642) tb_639 tb_641 sl_Wa_need tb_2 (by decide +kernel) hR hf rfl rfl rfl he hn hW hdg kk
theorem fc_Wa_124 {p : Program} {l : Launch} {e : Env} {R : Room} {s : State} {m : MethodId} {args : Array Value} {below : List Frame} {meth : Method} {c : Code} {Q : State → Prop} {cc : ByteArray} {nL : Nat} {D : va_G} {tys : List (ClassId × FieldType)} {A : Nat → Prop} {cells slots : Nat} {ws w' : va_W} {lv : List (Nat × Value)} {pc : Nat} {st As : List Value} {o : Option Value} {b : Nat} {fs : List Value} (C : gw_C p s m args meth c cc nL R_Wa D gw_cl tys A) (hM : gw_M l y_Ro_kindOf w_Ro_kindOf rm_Ro_kindOf D gw_cl tys (.ref b :: As) ws w' o) (hR : rm_Ro_kindOf.frames + 1 ≤ R.frames ∧ 8 + (2 + 11) + rm_Ro_kindOf.locals ≤ R.locals) (hf : cells + 0 ≤ R.cells ∧ slots + 0 ≤ R.slots) (q0 : Nat) (he : ws[q0]? = some (b, .inr (5, fs))) (hn : As.length = 1) (hW : (st.map fun v => v.category).sum ≤ 8) (hdg : decode cc pc = .ok (.invokevirtual 124, 3)) (kk : gw_W p l e R s m args below meth c D gw_cl A Q cells slots nL w' lv (pc + 3) (o.toList ++ st)) : gw_W p l e R s m args below meth c D gw_cl A Q cells slots nL ws lv pc (As.reverse ++ .ref b :: st) :=
  gw_callV (T := T_Ro) (N := 6) C hM (gw_good tb_566) tb_563 tb_564 tb_565 tb_6 (by decide +kernel) hR hf rfl rfl rfl he hn hW hdg kk
theorem fc_Wa_128 {p : Program} {l : Launch} {e : Env} {R : Room} {s : State} {m : MethodId} {args : Array Value} {below : List Frame} {meth : Method} {c : Code} {Q : State → Prop} {cc : ByteArray} {nL : Nat} {D : va_G} {tys : List (ClassId × FieldType)} {A : Nat → Prop} {cells slots : Nat} {ws w' : va_W} {lv : List (Nat × Value)} {pc : Nat} {st As : List Value} {o : Option Value} {b : Nat} {fs : List Value} (C : gw_C p s m args meth c cc nL R_Wa D gw_cl tys A) (hM : gw_M l y_Ro_firstOf w_Ro_firstOf rm_Ro_firstOf D gw_cl tys (.ref b :: As) ws w' o) (hR : rm_Ro_firstOf.frames + 1 ≤ R.frames ∧ 8 + (2 + 11) + rm_Ro_firstOf.locals ≤ R.locals) (hf : cells + 0 ≤ R.cells ∧ slots + 0 ≤ R.slots) (q0 : Nat) (he : ws[q0]? = some (b, .inr (5, fs))) (hn : As.length = 1) (hW : (st.map fun v => v.category).sum ≤ 8) (hdg : decode cc pc = .ok (.invokevirtual 128, 3)) (kk : gw_W p l e R s m args below meth c D gw_cl A Q cells slots nL w' lv (pc + 3) (o.toList ++ st)) : gw_W p l e R s m args below meth c D gw_cl A Q cells slots nL ws lv pc (As.reverse ++ .ref b :: st) :=
  gw_callV (T := T_Ro) (N := 6) C hM (gw_good tb_574) tb_571 tb_572 tb_573 tb_6 (by decide +kernel) hR hf rfl rfl rfl he hn hW hdg kk
theorem fc_Wa_131 {p : Program} {l : Launch} {e : Env} {R : Room} {s : State} {m : MethodId} {args : Array Value} {below : List Frame} {meth : Method} {c : Code} {Q : State → Prop} {cc : ByteArray} {nL : Nat} {D : va_G} {tys : List (ClassId × FieldType)} {A : Nat → Prop} {cells slots : Nat} {ws w' : va_W} {lv : List (Nat × Value)} {pc : Nat} {st As : List Value} {o : Option Value} {b : Nat} {fs : List Value} (C : gw_C p s m args meth c cc nL R_Wa D gw_cl tys A) (hM : gw_M l y_Te_sortOf w_Te_sortOf rm_Te_sortOf D gw_cl tys (.ref b :: As) ws w' o) (hR : rm_Te_sortOf.frames + 1 ≤ R.frames ∧ 8 + (2 + 11) + rm_Te_sortOf.locals ≤ R.locals) (hf : cells + 0 ≤ R.cells ∧ slots + 0 ≤ R.slots) (q0 : Nat) (he : ws[q0]? = some (b, .inr (2, fs))) (hn : As.length = 1) (hW : (st.map fun v => v.category).sum ≤ 8) (hdg : decode cc pc = .ok (.invokevirtual 131, 3)) (kk : gw_W p l e R s m args below meth c D gw_cl A Q cells slots nL w' lv (pc + 3) (o.toList ++ st)) : gw_W p l e R s m args below meth c D gw_cl A Q cells slots nL ws lv pc (As.reverse ++ .ref b :: st) :=
  gw_callV (T := T_Te) (N := 7) C hM (gw_good tb_622) tb_619 tb_620 tb_621 tb_3 (by decide +kernel) hR hf rfl rfl rfl he hn hW hdg kk
theorem fc_Wa_134 {p : Program} {l : Launch} {e : Env} {R : Room} {s : State} {m : MethodId} {args : Array Value} {below : List Frame} {meth : Method} {c : Code} {Q : State → Prop} {cc : ByteArray} {nL : Nat} {D : va_G} {tys : List (ClassId × FieldType)} {A : Nat → Prop} {cells slots : Nat} {ws w' : va_W} {lv : List (Nat × Value)} {pc : Nat} {st As : List Value} {o : Option Value} {b : Nat} {fs : List Value} (C : gw_C p s m args meth c cc nL R_Wa D gw_cl tys A) (hM : gw_M l y_Te_numberOf w_Te_numberOf rm_Te_numberOf D gw_cl tys (.ref b :: As) ws w' o) (hR : rm_Te_numberOf.frames + 1 ≤ R.frames ∧ 8 + (2 + 11) + rm_Te_numberOf.locals ≤ R.locals) (hf : cells + 0 ≤ R.cells ∧ slots + 0 ≤ R.slots) (q0 : Nat) (he : ws[q0]? = some (b, .inr (2, fs))) (hn : As.length = 1) (hW : (st.map fun v => v.category).sum ≤ 8) (hdg : decode cc pc = .ok (.invokevirtual 134, 3)) (kk : gw_W p l e R s m args below meth c D gw_cl A Q cells slots nL w' lv (pc + 3) (o.toList ++ st)) : gw_W p l e R s m args below meth c D gw_cl A Q cells slots nL ws lv pc (As.reverse ++ .ref b :: st) :=
  gw_callV (T := T_Te) (N := 7) C hM (gw_good tb_626) tb_623 tb_624 tb_625 tb_3 (by decide +kernel) hR hf rfl rfl rfl he hn hW hdg kk
theorem fc_Wa_138 {p : Program} {l : Launch} {e : Env} {R : Room} {s : State} {m : MethodId} {args : Array Value} {below : List Frame} {meth : Method} {c : Code} {Q : State → Prop} {cc : ByteArray} {nL : Nat} {D : va_G} {tys : List (ClassId × FieldType)} {A : Nat → Prop} {cells slots : Nat} {ws w' : va_W} {lv : List (Nat × Value)} {pc : Nat} {st As : List Value} {o : Option Value} {b : Nat} {fs : List Value} (C : gw_C p s m args meth c cc nL R_Wa D gw_cl tys A) (hM : gw_M l y_Va_beLambda w_Va_beLambda rm_Va_beLambda D gw_cl tys (.ref b :: As) ws w' o) (hR : rm_Va_beLambda.frames + 1 ≤ R.frames ∧ 8 + (3 + 11) + rm_Va_beLambda.locals ≤ R.locals) (hf : cells + 0 ≤ R.cells ∧ slots + 0 ≤ R.slots) (q0 : Nat) (he : ws[q0]? = some (b, .inr (6, fs))) (hn : As.length = 2) (hW : (st.map fun v => v.category).sum ≤ 8) (hdg : decode cc pc = .ok (.invokevirtual 138, 3)) (kk : gw_W p l e R s m args below meth c D gw_cl A Q cells slots nL w' lv (pc + 3) (o.toList ++ st)) : gw_W p l e R s m args below meth c D gw_cl A Q cells slots nL ws lv pc (As.reverse ++ .ref b :: st) :=
  gw_callV (T := T_Va) (N := 4) C hM (gw_good tb_630) tb_627 tb_628 tb_629 tb_7 (by decide +kernel) hR hf rfl rfl rfl he hn hW hdg kk
theorem fc_Wa_141 {p : Program} {l : Launch} {e : Env} {R : Room} {s : State} {m : MethodId} {args : Array Value} {below : List Frame} {meth : Method} {c : Code} {Q : State → Prop} {cc : ByteArray} {nL : Nat} {D : va_G} {tys : List (ClassId × FieldType)} {A : Nat → Prop} {cells slots : Nat} {ws w' : va_W} {lv : List (Nat × Value)} {pc : Nat} {st As : List Value} {o : Option Value} {b : Nat} {fs : List Value} (C : gw_C p s m args meth c cc nL R_Wa D gw_cl tys A) (hM : gw_M l y_Te_firstOf w_Te_firstOf rm_Te_firstOf D gw_cl tys (.ref b :: As) ws w' o) (hR : rm_Te_firstOf.frames + 1 ≤ R.frames ∧ 8 + (2 + 11) + rm_Te_firstOf.locals ≤ R.locals) (hf : cells + 0 ≤ R.cells ∧ slots + 0 ≤ R.slots) (q0 : Nat) (he : ws[q0]? = some (b, .inr (2, fs))) (hn : As.length = 1) (hW : (st.map fun v => v.category).sum ≤ 8) (hdg : decode cc pc = .ok (.invokevirtual 141, 3)) (kk : gw_W p l e R s m args below meth c D gw_cl A Q cells slots nL w' lv (pc + 3) (o.toList ++ st)) : gw_W p l e R s m args below meth c D gw_cl A Q cells slots nL ws lv pc (As.reverse ++ .ref b :: st) :=
  gw_callV (T := T_Te) (N := 7) C hM (gw_good tb_634) tb_631 tb_632 tb_633 tb_3 (by decide +kernel) hR hf rfl rfl rfl he hn hW hdg kk
theorem fc_Wa_142 {p : Program} {l : Launch} {e : Env} {R : Room} {s : State} {m : MethodId} {args : Array Value} {below : List Frame} {meth : Method} {c : Code} {Q : State → Prop} {cc : ByteArray} {nL : Nat} {D : va_G} {tys : List (ClassId × FieldType)} {A : Nat → Prop} {cells slots : Nat} {ws w' : va_W} {lv : List (Nat × Value)} {pc : Nat} {st As : List Value} {o : Option Value} {b : Nat} {fs : List Value} (C : gw_C p s m args meth c cc nL R_Wa D gw_cl tys A) (hM : gw_M l y_Pl_thingAt w_Pl_thingAt rm_Pl_thingAt D gw_cl tys (.ref b :: As) ws w' o) (hR : rm_Pl_thingAt.frames + 1 ≤ R.frames ∧ 8 + (5 + 11) + rm_Pl_thingAt.locals ≤ R.locals) (hf : cells + 0 ≤ R.cells ∧ slots + 0 ≤ R.slots) (q0 : Nat) (he : ws[q0]? = some (b, .inr (3, fs))) (hn : As.length = 2) (hW : (st.map fun v => v.category).sum ≤ 8) (hdg : decode cc pc = .ok (.invokevirtual 142, 3)) (kk : gw_W p l e R s m args below meth c D gw_cl A Q cells slots nL w' lv (pc + 3) (o.toList ++ st)) : gw_W p l e R s m args below meth c D gw_cl A Q cells slots nL ws lv pc (As.reverse ++ .ref b :: st) :=
  gw_callV (T := T_Pl) (N := 4) C hM (gw_good tb_638) tb_635 tb_636 tb_637 tb_4 (by decide +kernel) hR hf rfl rfl rfl he hn hW hdg kk
theorem fc_Wa_146 {p : Program} {l : Launch} {e : Env} {R : Room} {s : State} {m : MethodId} {args : Array Value} {below : List Frame} {meth : Method} {c : Code} {Q : State → Prop} {cc : ByteArray} {nL : Nat} {D : va_G} {tys : List (ClassId × FieldType)} {A : Nat → Prop} {cells slots : Nat} {ws w' : va_W} {lv : List (Nat × Value)} {pc : Nat} {st As : List Value} {o : Option Value} {b : Nat} {fs : List Value} (C : gw_C p s m args meth c cc nL R_Wa D gw_cl tys A) (hM : gw_M l y_Te_secondOf w_Te_secondOf rm_Te_secondOf D gw_cl tys (.ref b :: As) ws w' o) (hR : rm_Te_secondOf.frames + 1 ≤ R.frames ∧ 8 + (2 + 11) + rm_Te_secondOf.locals ≤ R.locals) (hf : cells + 0 ≤ R.cells ∧ slots + 0 ≤ R.slots) (q0 : Nat) (he : ws[q0]? = some (b, .inr (2, fs))) (hn : As.length = 1) (hW : (st.map fun v => v.category).sum ≤ 8) (hdg : decode cc pc = .ok (.invokevirtual 146, 3)) (kk : gw_W p l e R s m args below meth c D gw_cl A Q cells slots nL w' lv (pc + 3) (o.toList ++ st)) : gw_W p l e R s m args below meth c D gw_cl A Q cells slots nL ws lv pc (As.reverse ++ .ref b :: st) :=
  gw_callV (T := T_Te) (N := 7) C hM (gw_good tb_683) tb_680 tb_681 tb_682 tb_3 (by decide +kernel) hR hf rfl rfl rfl he hn hW hdg kk
theorem fc_Wa_149 {p : Program} {l : Launch} {e : Env} {R : Room} {s : State} {m : MethodId} {args : Array Value} {below : List Frame} {meth : Method} {c : Code} {Q : State → Prop} {cc : ByteArray} {nL : Nat} {D : va_G} {tys : List (ClassId × FieldType)} {A : Nat → Prop} {cells slots : Nat} {ws w' : va_W} {lv : List (Nat × Value)} {pc : Nat} {st As : List Value} {o : Option Value} {b : Nat} {fs : List Value} (C : gw_C p s m args meth c cc nL R_Wa D gw_cl tys A) (hM : gw_M l y_Wa_makePair w_Wa_makePair rm_Wa_makePair D gw_cl tys (.ref b :: As) ws w' o) (hR : rm_Wa_makePair.frames + 1 ≤ R.frames ∧ 8 + (5 + 11) + rm_Wa_makePair.locals ≤ R.locals) (hf : cells + 0 ≤ R.cells ∧ slots + 0 ≤ R.slots) (q0 : Nat) (he : ws[q0]? = some (b, .inr (1, fs))) (hn : As.length = 2) (hW : (st.map fun v => v.category).sum ≤ 8) (hdg : decode cc pc = .ok (.invokevirtual 149, 3)) (kk : gw_W p l e R s m args below meth c D gw_cl A Q cells slots nL w' lv (pc + 3) (o.toList ++ st)) : gw_W p l e R s m args below meth c D gw_cl A Q cells slots nL ws lv pc (As.reverse ++ .ref b :: st) :=
  gw_callV (T := T_Wa) (N := 17) C hM (gw_good tb_687) tb_684 tb_686 sl_Wa_makePair tb_2 (by decide +kernel) hR hf rfl rfl rfl he hn hW hdg kk
theorem fc_Wa_152 {p : Program} {l : Launch} {e : Env} {R : Room} {s : State} {m : MethodId} {args : Array Value} {below : List Frame} {meth : Method} {c : Code} {Q : State → Prop} {cc : ByteArray} {nL : Nat} {D : va_G} {tys : List (ClassId × FieldType)} {A : Nat → Prop} {cells slots : Nat} {ws w' : va_W} {lv : List (Nat × Value)} {pc : Nat} {st As : List Value} {o : Option Value} {b : Nat} {fs : List Value} (C : gw_C p s m args meth c cc nL R_Wa D gw_cl tys A) (hM : gw_M l y_Wa_enterApply w_Wa_enterApply rm_Wa_enterApply D gw_cl tys (.ref b :: As) ws w' o) (hR : rm_Wa_enterApply.frames + 1 ≤ R.frames ∧ 8 + (2 + 11) + rm_Wa_enterApply.locals ≤ R.locals) (hf : cells + 0 ≤ R.cells ∧ slots + 0 ≤ R.slots) (q0 : Nat) (he : ws[q0]? = some (b, .inr (1, fs))) (hn : As.length = 1) (hW : (st.map fun v => v.category).sum ≤ 8) (hdg : decode cc pc = .ok (.invokevirtual 152, 3)) (kk : gw_W p l e R s m args below meth c D gw_cl A Q cells slots nL w' lv (pc + 3) (o.toList ++ st)) : gw_W p l e R s m args below meth c D gw_cl A Q cells slots nL ws lv pc (As.reverse ++ .ref b :: st) :=
  gw_callV (T := T_Wa) (N := 17) C hM (gw_good tb_711) tb_708 tb_710 sl_Wa_enterApply tb_2 (by decide +kernel) hR hf rfl rfl rfl he hn hW hdg kk
theorem fc_Wa_156 {p : Program} {l : Launch} {e : Env} {R : Room} {s : State} {m : MethodId} {args : Array Value} {below : List Frame} {meth : Method} {c : Code} {Q : State → Prop} {cc : ByteArray} {nL : Nat} {D : va_G} {tys : List (ClassId × FieldType)} {A : Nat → Prop} {cells slots : Nat} {ws w' : va_W} {lv : List (Nat × Value)} {pc : Nat} {st As : List Value} {o : Option Value} {b : Nat} {fs : List Value} (C : gw_C p s m args meth c cc nL R_Wa D gw_cl tys A) (hM : gw_M l y_Wa_enterLet w_Wa_enterLet rm_Wa_enterLet D gw_cl tys (.ref b :: As) ws w' o) (hR : rm_Wa_enterLet.frames + 1 ≤ R.frames ∧ 8 + (4 + 11) + rm_Wa_enterLet.locals ≤ R.locals) (hf : cells + 0 ≤ R.cells ∧ slots + 0 ≤ R.slots) (q0 : Nat) (he : ws[q0]? = some (b, .inr (1, fs))) (hn : As.length = 2) (hW : (st.map fun v => v.category).sum ≤ 8) (hdg : decode cc pc = .ok (.invokevirtual 156, 3)) (kk : gw_W p l e R s m args below meth c D gw_cl A Q cells slots nL w' lv (pc + 3) (o.toList ++ st)) : gw_W p l e R s m args below meth c D gw_cl A Q cells slots nL ws lv pc (As.reverse ++ .ref b :: st) :=
  gw_callV (T := T_Wa) (N := 17) C hM (gw_good tb_715) tb_712 tb_714 sl_Wa_enterLet tb_2 (by decide +kernel) hR hf rfl rfl rfl he hn hW hdg kk
theorem fc_Wa_159 {p : Program} {l : Launch} {e : Env} {R : Room} {s : State} {m : MethodId} {args : Array Value} {below : List Frame} {meth : Method} {c : Code} {Q : State → Prop} {cc : ByteArray} {nL : Nat} {D : va_G} {tys : List (ClassId × FieldType)} {A : Nat → Prop} {cells slots : Nat} {ws w' : va_W} {lv : List (Nat × Value)} {pc : Nat} {st As : List Value} {o : Option Value} {b : Nat} {fs : List Value} (C : gw_C p s m args meth c cc nL R_Wa D gw_cl tys A) (hM : gw_M l y_Wa_enter w_Wa_enter rm_Wa_enter D gw_cl tys (.ref b :: As) ws w' o) (hR : rm_Wa_enter.frames + 1 ≤ R.frames ∧ 8 + (2 + 11) + rm_Wa_enter.locals ≤ R.locals) (hf : cells + 0 ≤ R.cells ∧ slots + 0 ≤ R.slots) (q0 : Nat) (he : ws[q0]? = some (b, .inr (1, fs))) (hn : As.length = 1) (hW : (st.map fun v => v.category).sum ≤ 8) (hdg : decode cc pc = .ok (.invokevirtual 159, 3)) (kk : gw_W p l e R s m args below meth c D gw_cl A Q cells slots nL w' lv (pc + 3) (o.toList ++ st)) : gw_W p l e R s m args below meth c D gw_cl A Q cells slots nL ws lv pc (As.reverse ++ .ref b :: st) :=
  gw_callV (T := T_Wa) (N := 17) C hM (gw_good tb_727) tb_724 tb_726 sl_Wa_enter tb_2 (by decide +kernel) hR hf rfl rfl rfl he hn hW hdg kk
theorem fc_Wa_162 {p : Program} {l : Launch} {e : Env} {R : Room} {s : State} {m : MethodId} {args : Array Value} {below : List Frame} {meth : Method} {c : Code} {Q : State → Prop} {cc : ByteArray} {nL : Nat} {D : va_G} {tys : List (ClassId × FieldType)} {A : Nat → Prop} {cells slots : Nat} {ws w' : va_W} {lv : List (Nat × Value)} {pc : Nat} {st As : List Value} {o : Option Value} {b : Nat} {fs : List Value} (C : gw_C p s m args meth c cc nL R_Wa D gw_cl tys A) (hM : gw_M l y_Th_add w_Th_add rm_Th_add D gw_cl tys (.ref b :: As) ws w' o) (hR : rm_Th_add.frames + 1 ≤ R.frames ∧ 8 + (5 + 11) + rm_Th_add.locals ≤ R.locals) (hf : cells + 0 ≤ R.cells ∧ slots + 0 ≤ R.slots) (q0 : Nat) (he : ws[q0]? = some (b, .inr (4, fs))) (hn : As.length = 2) (hW : (st.map fun v => v.category).sum ≤ 8) (hdg : decode cc pc = .ok (.invokevirtual 162, 3)) (kk : gw_W p l e R s m args below meth c D gw_cl A Q cells slots nL w' lv (pc + 3) (o.toList ++ st)) : gw_W p l e R s m args below meth c D gw_cl A Q cells slots nL ws lv pc (As.reverse ++ .ref b :: st) :=
  gw_callV (T := T_Th) (N := 15) C hM (gw_good tb_703) tb_700 tb_701 tb_702 tb_5 (by decide +kernel) hR hf rfl rfl rfl he hn hW hdg kk
theorem fc_Wa_165 {p : Program} {l : Launch} {e : Env} {R : Room} {s : State} {m : MethodId} {args : Array Value} {below : List Frame} {meth : Method} {c : Code} {Q : State → Prop} {cc : ByteArray} {nL : Nat} {D : va_G} {tys : List (ClassId × FieldType)} {A : Nat → Prop} {cells slots : Nat} {ws w' : va_W} {lv : List (Nat × Value)} {pc : Nat} {st As : List Value} {o : Option Value} {b : Nat} {fs : List Value} (C : gw_C p s m args meth c cc nL R_Wa D gw_cl tys A) (hM : gw_M l y_Wa_newThingsFor w_Wa_newThingsFor rm_Wa_newThingsFor D gw_cl tys (.ref b :: As) ws w' o) (hR : rm_Wa_newThingsFor.frames + 1 ≤ R.frames ∧ 8 + (2 + 11) + rm_Wa_newThingsFor.locals ≤ R.locals) (hf : cells + 0 ≤ R.cells ∧ slots + 0 ≤ R.slots) (q0 : Nat) (he : ws[q0]? = some (b, .inr (1, fs))) (hn : As.length = 1) (hW : (st.map fun v => v.category).sum ≤ 8) (hdg : decode cc pc = .ok (.invokevirtual 165, 3)) (kk : gw_W p l e R s m args below meth c D gw_cl A Q cells slots nL w' lv (pc + 3) (o.toList ++ st)) : gw_W p l e R s m args below meth c D gw_cl A Q cells slots nL ws lv pc (As.reverse ++ .ref b :: st) :=
  gw_callV (T := T_Wa) (N := 17) C hM (gw_good tb_691) tb_688 tb_690 sl_Wa_newThingsFor tb_2 (by decide +kernel) hR hf rfl rfl rfl he hn hW hdg kk
theorem fc_Wa_168 {p : Program} {l : Launch} {e : Env} {R : Room} {s : State} {m : MethodId} {args : Array Value} {below : List Frame} {meth : Method} {c : Code} {Q : State → Prop} {cc : ByteArray} {nL : Nat} {D : va_G} {tys : List (ClassId × FieldType)} {A : Nat → Prop} {cells slots : Nat} {ws w' : va_W} {lv : List (Nat × Value)} {pc : Nat} {st As : List Value} {o : Option Value} {b : Nat} {fs : List Value} (C : gw_C p s m args meth c cc nL R_Wa D gw_cl tys A) (hM : gw_M l y_Th_hasRoomFor w_Th_hasRoomFor rm_Th_hasRoomFor D gw_cl tys (.ref b :: As) ws w' o) (hR : rm_Th_hasRoomFor.frames + 1 ≤ R.frames ∧ 8 + (2 + 11) + rm_Th_hasRoomFor.locals ≤ R.locals) (hf : cells + 0 ≤ R.cells ∧ slots + 0 ≤ R.slots) (q0 : Nat) (he : ws[q0]? = some (b, .inr (4, fs))) (hn : As.length = 1) (hW : (st.map fun v => v.category).sum ≤ 8) (hdg : decode cc pc = .ok (.invokevirtual 168, 3)) (kk : gw_W p l e R s m args below meth c D gw_cl A Q cells slots nL w' lv (pc + 3) (o.toList ++ st)) : gw_W p l e R s m args below meth c D gw_cl A Q cells slots nL ws lv pc (As.reverse ++ .ref b :: st) :=
  gw_callV (T := T_Th) (N := 15) C hM (gw_good tb_695) tb_692 tb_693 tb_694 tb_5 (by decide +kernel) hR hf rfl rfl rfl he hn hW hdg kk
theorem fc_Wa_172 {p : Program} {l : Launch} {e : Env} {R : Room} {s : State} {m : MethodId} {args : Array Value} {below : List Frame} {meth : Method} {c : Code} {Q : State → Prop} {cc : ByteArray} {nL : Nat} {D : va_G} {tys : List (ClassId × FieldType)} {A : Nat → Prop} {cells slots : Nat} {ws w' : va_W} {lv : List (Nat × Value)} {pc : Nat} {st As : List Value} {o : Option Value} {b : Nat} {fs : List Value} (C : gw_C p s m args meth c cc nL R_Wa D gw_cl tys A) (hM : gw_M l y_Wa_thingFor w_Wa_thingFor rm_Wa_thingFor D gw_cl tys (.ref b :: As) ws w' o) (hR : rm_Wa_thingFor.frames + 1 ≤ R.frames ∧ 8 + (2 + 11) + rm_Wa_thingFor.locals ≤ R.locals) (hf : cells + 0 ≤ R.cells ∧ slots + 0 ≤ R.slots) (q0 : Nat) (he : ws[q0]? = some (b, .inr (1, fs))) (hn : As.length = 1) (hW : (st.map fun v => v.category).sum ≤ 8) (hdg : decode cc pc = .ok (.invokevirtual 172, 3)) (kk : gw_W p l e R s m args below meth c D gw_cl A Q cells slots nL w' lv (pc + 3) (o.toList ++ st)) : gw_W p l e R s m args below meth c D gw_cl A Q cells slots nL ws lv pc (As.reverse ++ .ref b :: st) :=
  gw_callV (T := T_Wa) (N := 17) C hM (gw_good tb_699) tb_696 tb_698 sl_Wa_thingFor tb_2 (by decide +kernel) hR hf rfl rfl rfl he hn hW hdg kk
theorem fc_Wa_175 {p : Program} {l : Launch} {e : Env} {R : Room} {s : State} {m : MethodId} {args : Array Value} {below : List Frame} {meth : Method} {c : Code} {Q : State → Prop} {cc : ByteArray} {nL : Nat} {D : va_G} {tys : List (ClassId × FieldType)} {A : Nat → Prop} {cells slots : Nat} {ws w' : va_W} {lv : List (Nat × Value)} {pc : Nat} {st As : List Value} {o : Option Value} {b : Nat} {fs : List Value} (C : gw_C p s m args meth c cc nL R_Wa D gw_cl tys A) (hM : gw_M l y_Va_bePair w_Va_bePair rm_Va_bePair D gw_cl tys (.ref b :: As) ws w' o) (hR : rm_Va_bePair.frames + 1 ≤ R.frames ∧ 8 + (3 + 11) + rm_Va_bePair.locals ≤ R.locals) (hf : cells + 0 ≤ R.cells ∧ slots + 0 ≤ R.slots) (q0 : Nat) (he : ws[q0]? = some (b, .inr (6, fs))) (hn : As.length = 2) (hW : (st.map fun v => v.category).sum ≤ 8) (hdg : decode cc pc = .ok (.invokevirtual 175, 3)) (kk : gw_W p l e R s m args below meth c D gw_cl A Q cells slots nL w' lv (pc + 3) (o.toList ++ st)) : gw_W p l e R s m args below meth c D gw_cl A Q cells slots nL ws lv pc (As.reverse ++ .ref b :: st) :=
  gw_callV (T := T_Va) (N := 4) C hM (gw_good tb_707) tb_704 tb_705 tb_706 tb_7 (by decide +kernel) hR hf rfl rfl rfl he hn hW hdg kk
theorem fc_Wa_178 {p : Program} {l : Launch} {e : Env} {R : Room} {s : State} {m : MethodId} {args : Array Value} {below : List Frame} {meth : Method} {c : Code} {Q : State → Prop} {cc : ByteArray} {nL : Nat} {D : va_G} {tys : List (ClassId × FieldType)} {A : Nat → Prop} {cells slots : Nat} {ws w' : va_W} {lv : List (Nat × Value)} {pc : Nat} {st As : List Value} {o : Option Value} {b : Nat} {fs : List Value} (C : gw_C p s m args meth c cc nL R_Wa D gw_cl tys A) (hM : gw_M l y_Ro_isFull w_Ro_isFull rm_Ro_isFull D gw_cl tys (.ref b :: As) ws w' o) (hR : rm_Ro_isFull.frames + 1 ≤ R.frames ∧ 8 + (1 + 11) + rm_Ro_isFull.locals ≤ R.locals) (hf : cells + 0 ≤ R.cells ∧ slots + 0 ≤ R.slots) (q0 : Nat) (he : ws[q0]? = some (b, .inr (5, fs))) (hn : As.length = 0) (hW : (st.map fun v => v.category).sum ≤ 8) (hdg : decode cc pc = .ok (.invokevirtual 178, 3)) (kk : gw_W p l e R s m args below meth c D gw_cl A Q cells slots nL w' lv (pc + 3) (o.toList ++ st)) : gw_W p l e R s m args below meth c D gw_cl A Q cells slots nL ws lv pc (As.reverse ++ .ref b :: st) :=
  gw_callV (T := T_Ro) (N := 6) C hM (gw_good tb_659) tb_656 tb_657 tb_658 tb_6 (by decide +kernel) hR hf rfl rfl rfl he hn hW hdg kk
theorem fc_Wa_182 {p : Program} {l : Launch} {e : Env} {R : Room} {s : State} {m : MethodId} {args : Array Value} {below : List Frame} {meth : Method} {c : Code} {Q : State → Prop} {cc : ByteArray} {nL : Nat} {D : va_G} {tys : List (ClassId × FieldType)} {A : Nat → Prop} {cells slots : Nat} {ws w' : va_W} {lv : List (Nat × Value)} {pc : Nat} {st As : List Value} {o : Option Value} {b : Nat} {fs : List Value} (C : gw_C p s m args meth c cc nL R_Wa D gw_cl tys A) (hM : gw_M l y_Ro_add w_Ro_add rm_Ro_add D gw_cl tys (.ref b :: As) ws w' o) (hR : rm_Ro_add.frames + 1 ≤ R.frames ∧ 8 + (7 + 11) + rm_Ro_add.locals ≤ R.locals) (hf : cells + 0 ≤ R.cells ∧ slots + 0 ≤ R.slots) (q0 : Nat) (he : ws[q0]? = some (b, .inr (5, fs))) (hn : As.length = 4) (hW : (st.map fun v => v.category).sum ≤ 8) (hdg : decode cc pc = .ok (.invokevirtual 182, 3)) (kk : gw_W p l e R s m args below meth c D gw_cl A Q cells slots nL w' lv (pc + 3) (o.toList ++ st)) : gw_W p l e R s m args below meth c D gw_cl A Q cells slots nL ws lv pc (As.reverse ++ .ref b :: st) :=
  gw_callV (T := T_Ro) (N := 6) C hM (gw_good tb_675) tb_672 tb_673 tb_674 tb_6 (by decide +kernel) hR hf rfl rfl rfl he hn hW hdg kk
theorem fc_Wa_185 {p : Program} {l : Launch} {e : Env} {R : Room} {s : State} {m : MethodId} {args : Array Value} {below : List Frame} {meth : Method} {c : Code} {Q : State → Prop} {cc : ByteArray} {nL : Nat} {D : va_G} {tys : List (ClassId × FieldType)} {A : Nat → Prop} {cells slots : Nat} {ws w' : va_W} {lv : List (Nat × Value)} {pc : Nat} {st As : List Value} {o : Option Value} {b : Nat} {fs : List Value} (C : gw_C p s m args meth c cc nL R_Wa D gw_cl tys A) (hM : gw_M l y_Pl_isFull w_Pl_isFull rm_Pl_isFull D gw_cl tys (.ref b :: As) ws w' o) (hR : rm_Pl_isFull.frames + 1 ≤ R.frames ∧ 8 + (1 + 11) + rm_Pl_isFull.locals ≤ R.locals) (hf : cells + 0 ≤ R.cells ∧ slots + 0 ≤ R.slots) (q0 : Nat) (he : ws[q0]? = some (b, .inr (3, fs))) (hn : As.length = 0) (hW : (st.map fun v => v.category).sum ≤ 8) (hdg : decode cc pc = .ok (.invokevirtual 185, 3)) (kk : gw_W p l e R s m args below meth c D gw_cl A Q cells slots nL w' lv (pc + 3) (o.toList ++ st)) : gw_W p l e R s m args below meth c D gw_cl A Q cells slots nL ws lv pc (As.reverse ++ .ref b :: st) :=
  gw_callV (T := T_Pl) (N := 4) C hM (gw_good tb_719) tb_716 tb_717 tb_718 tb_4 (by decide +kernel) hR hf rfl rfl rfl he hn hW hdg kk
theorem fc_Wa_186 {p : Program} {l : Launch} {e : Env} {R : Room} {s : State} {m : MethodId} {args : Array Value} {below : List Frame} {meth : Method} {c : Code} {Q : State → Prop} {cc : ByteArray} {nL : Nat} {D : va_G} {tys : List (ClassId × FieldType)} {A : Nat → Prop} {cells slots : Nat} {ws w' : va_W} {lv : List (Nat × Value)} {pc : Nat} {st As : List Value} {o : Option Value} {b : Nat} {fs : List Value} (C : gw_C p s m args meth c cc nL R_Wa D gw_cl tys A) (hM : gw_M l y_Pl_add w_Pl_add rm_Pl_add D gw_cl tys (.ref b :: As) ws w' o) (hR : rm_Pl_add.frames + 1 ≤ R.frames ∧ 8 + (4 + 11) + rm_Pl_add.locals ≤ R.locals) (hf : cells + 0 ≤ R.cells ∧ slots + 0 ≤ R.slots) (q0 : Nat) (he : ws[q0]? = some (b, .inr (3, fs))) (hn : As.length = 2) (hW : (st.map fun v => v.category).sum ≤ 8) (hdg : decode cc pc = .ok (.invokevirtual 186, 3)) (kk : gw_W p l e R s m args below meth c D gw_cl A Q cells slots nL w' lv (pc + 3) (o.toList ++ st)) : gw_W p l e R s m args below meth c D gw_cl A Q cells slots nL ws lv pc (As.reverse ++ .ref b :: st) :=
  gw_callV (T := T_Pl) (N := 4) C hM (gw_good tb_723) tb_720 tb_721 tb_722 tb_4 (by decide +kernel) hR hf rfl rfl rfl he hn hW hdg kk
theorem fc_Wa_187 {p : Program} {l : Launch} {e : Env} {R : Room} {s : State} {m : MethodId} {args : Array Value} {below : List Frame} {meth : Method} {c : Code} {Q : State → Prop} {cc : ByteArray} {nL : Nat} {D : va_G} {tys : List (ClassId × FieldType)} {A : Nat → Prop} {cells slots : Nat} {ws w' : va_W} {lv : List (Nat × Value)} {pc : Nat} {st As : List Value} {o : Option Value} {b : Nat} {fs : List Value} (C : gw_C p s m args meth c cc nL R_Wa D gw_cl tys A) (hM : gw_M l y_Th_stateOf w_Th_stateOf rm_Th_stateOf D gw_cl tys (.ref b :: As) ws w' o) (hR : rm_Th_stateOf.frames + 1 ≤ R.frames ∧ 8 + (2 + 11) + rm_Th_stateOf.locals ≤ R.locals) (hf : cells + 0 ≤ R.cells ∧ slots + 0 ≤ R.slots) (q0 : Nat) (he : ws[q0]? = some (b, .inr (4, fs))) (hn : As.length = 1) (hW : (st.map fun v => v.category).sum ≤ 8) (hdg : decode cc pc = .ok (.invokevirtual 187, 3)) (kk : gw_W p l e R s m args below meth c D gw_cl A Q cells slots nL w' lv (pc + 3) (o.toList ++ st)) : gw_W p l e R s m args below meth c D gw_cl A Q cells slots nL ws lv pc (As.reverse ++ .ref b :: st) :=
  gw_callV (T := T_Th) (N := 15) C hM (gw_good tb_590) tb_587 tb_588 tb_589 tb_5 (by decide +kernel) hR hf rfl rfl rfl he hn hW hdg kk
theorem fc_Wa_190 {p : Program} {l : Launch} {e : Env} {R : Room} {s : State} {m : MethodId} {args : Array Value} {below : List Frame} {meth : Method} {c : Code} {Q : State → Prop} {cc : ByteArray} {nL : Nat} {D : va_G} {tys : List (ClassId × FieldType)} {A : Nat → Prop} {cells slots : Nat} {ws w' : va_W} {lv : List (Nat × Value)} {pc : Nat} {st As : List Value} {o : Option Value} {b : Nat} {fs : List Value} (C : gw_C p s m args meth c cc nL R_Wa D gw_cl tys A) (hM : gw_M l y_Ro_drop w_Ro_drop rm_Ro_drop D gw_cl tys (.ref b :: As) ws w' o) (hR : rm_Ro_drop.frames + 1 ≤ R.frames ∧ 8 + (1 + 11) + rm_Ro_drop.locals ≤ R.locals) (hf : cells + 0 ≤ R.cells ∧ slots + 0 ≤ R.slots) (q0 : Nat) (he : ws[q0]? = some (b, .inr (5, fs))) (hn : As.length = 0) (hW : (st.map fun v => v.category).sum ≤ 8) (hdg : decode cc pc = .ok (.invokevirtual 190, 3)) (kk : gw_W p l e R s m args below meth c D gw_cl A Q cells slots nL w' lv (pc + 3) (o.toList ++ st)) : gw_W p l e R s m args below meth c D gw_cl A Q cells slots nL ws lv pc (As.reverse ++ .ref b :: st) :=
  gw_callV (T := T_Ro) (N := 6) C hM (gw_good tb_646) tb_643 tb_644 tb_645 tb_6 (by decide +kernel) hR hf rfl rfl rfl he hn hW hdg kk
theorem fc_Wa_193 {p : Program} {l : Launch} {e : Env} {R : Room} {s : State} {m : MethodId} {args : Array Value} {below : List Frame} {meth : Method} {c : Code} {Q : State → Prop} {cc : ByteArray} {nL : Nat} {D : va_G} {tys : List (ClassId × FieldType)} {A : Nat → Prop} {cells slots : Nat} {ws w' : va_W} {lv : List (Nat × Value)} {pc : Nat} {st As : List Value} {o : Option Value} {b : Nat} {fs : List Value} (C : gw_C p s m args meth c cc nL R_Wa D gw_cl tys A) (hM : gw_M l y_Th_copyValue w_Th_copyValue rm_Th_copyValue D gw_cl tys (.ref b :: As) ws w' o) (hR : rm_Th_copyValue.frames + 1 ≤ R.frames ∧ 8 + (3 + 11) + rm_Th_copyValue.locals ≤ R.locals) (hf : cells + 0 ≤ R.cells ∧ slots + 0 ≤ R.slots) (q0 : Nat) (he : ws[q0]? = some (b, .inr (4, fs))) (hn : As.length = 2) (hW : (st.map fun v => v.category).sum ≤ 8) (hdg : decode cc pc = .ok (.invokevirtual 193, 3)) (kk : gw_W p l e R s m args below meth c D gw_cl A Q cells slots nL w' lv (pc + 3) (o.toList ++ st)) : gw_W p l e R s m args below meth c D gw_cl A Q cells slots nL ws lv pc (As.reverse ++ .ref b :: st) :=
  gw_callV (T := T_Th) (N := 15) C hM (gw_good tb_650) tb_647 tb_648 tb_649 tb_5 (by decide +kernel) hR hf rfl rfl rfl he hn hW hdg kk
theorem fc_Wa_197 {p : Program} {l : Launch} {e : Env} {R : Room} {s : State} {m : MethodId} {args : Array Value} {below : List Frame} {meth : Method} {c : Code} {Q : State → Prop} {cc : ByteArray} {nL : Nat} {D : va_G} {tys : List (ClassId × FieldType)} {A : Nat → Prop} {cells slots : Nat} {ws w' : va_W} {lv : List (Nat × Value)} {pc : Nat} {st As : List Value} {o : Option Value} {b : Nat} {fs : List Value} (C : gw_C p s m args meth c cc nL R_Wa D gw_cl tys A) (hM : gw_M l y_Wa_needWaiting w_Wa_needWaiting rm_Wa_needWaiting D gw_cl tys (.ref b :: As) ws w' o) (hR : rm_Wa_needWaiting.frames + 1 ≤ R.frames ∧ 8 + (3 + 11) + rm_Wa_needWaiting.locals ≤ R.locals) (hf : cells + 0 ≤ R.cells ∧ slots + 0 ≤ R.slots) (q0 : Nat) (he : ws[q0]? = some (b, .inr (1, fs))) (hn : As.length = 2) (hW : (st.map fun v => v.category).sum ≤ 8) (hdg : decode cc pc = .ok (.invokevirtual 197, 3)) (kk : gw_W p l e R s m args below meth c D gw_cl A Q cells slots nL w' lv (pc + 3) (o.toList ++ st)) : gw_W p l e R s m args below meth c D gw_cl A Q cells slots nL ws lv pc (As.reverse ++ .ref b :: st) :=
  gw_callV (T := T_Wa) (N := 17) C hM (gw_good tb_655) tb_652 tb_654 sl_Wa_needWaiting tb_2 (by decide +kernel) hR hf rfl rfl rfl he hn hW hdg kk
theorem fc_Wa_200 {p : Program} {l : Launch} {e : Env} {R : Room} {s : State} {m : MethodId} {args : Array Value} {below : List Frame} {meth : Method} {c : Code} {Q : State → Prop} {cc : ByteArray} {nL : Nat} {D : va_G} {tys : List (ClassId × FieldType)} {A : Nat → Prop} {cells slots : Nat} {ws w' : va_W} {lv : List (Nat × Value)} {pc : Nat} {st As : List Value} {o : Option Value} {b : Nat} {fs : List Value} (C : gw_C p s m args meth c cc nL R_Wa D gw_cl tys A) (hM : gw_M l y_Th_countWork w_Th_countWork rm_Th_countWork D gw_cl tys (.ref b :: As) ws w' o) (hR : rm_Th_countWork.frames + 1 ≤ R.frames ∧ 8 + (2 + 11) + rm_Th_countWork.locals ≤ R.locals) (hf : cells + 0 ≤ R.cells ∧ slots + 0 ≤ R.slots) (q0 : Nat) (he : ws[q0]? = some (b, .inr (4, fs))) (hn : As.length = 1) (hW : (st.map fun v => v.category).sum ≤ 8) (hdg : decode cc pc = .ok (.invokevirtual 200, 3)) (kk : gw_W p l e R s m args below meth c D gw_cl A Q cells slots nL w' lv (pc + 3) (o.toList ++ st)) : gw_W p l e R s m args below meth c D gw_cl A Q cells slots nL ws lv pc (As.reverse ++ .ref b :: st) :=
  gw_callV (T := T_Th) (N := 15) C hM (gw_good tb_663) tb_660 tb_661 tb_662 tb_5 (by decide +kernel) hR hf rfl rfl rfl he hn hW hdg kk
theorem fc_Wa_203 {p : Program} {l : Launch} {e : Env} {R : Room} {s : State} {m : MethodId} {args : Array Value} {below : List Frame} {meth : Method} {c : Code} {Q : State → Prop} {cc : ByteArray} {nL : Nat} {D : va_G} {tys : List (ClassId × FieldType)} {A : Nat → Prop} {cells slots : Nat} {ws w' : va_W} {lv : List (Nat × Value)} {pc : Nat} {st As : List Value} {o : Option Value} {b : Nat} {fs : List Value} (C : gw_C p s m args meth c cc nL R_Wa D gw_cl tys A) (hM : gw_M l y_Ro_newestInWork w_Ro_newestInWork rm_Ro_newestInWork D gw_cl tys (.ref b :: As) ws w' o) (hR : rm_Ro_newestInWork.frames + 1 ≤ R.frames ∧ 8 + (2 + 11) + rm_Ro_newestInWork.locals ≤ R.locals) (hf : cells + 0 ≤ R.cells ∧ slots + 0 ≤ R.slots) (q0 : Nat) (he : ws[q0]? = some (b, .inr (5, fs))) (hn : As.length = 0) (hW : (st.map fun v => v.category).sum ≤ 8) (hdg : decode cc pc = .ok (.invokevirtual 203, 3)) (kk : gw_W p l e R s m args below meth c D gw_cl A Q cells slots nL w' lv (pc + 3) (o.toList ++ st)) : gw_W p l e R s m args below meth c D gw_cl A Q cells slots nL ws lv pc (As.reverse ++ .ref b :: st) :=
  gw_callV (T := T_Ro) (N := 6) C hM (gw_good tb_667) tb_664 tb_665 tb_666 tb_6 (by decide +kernel) hR hf rfl rfl rfl he hn hW hdg kk
theorem fc_Wa_206 {p : Program} {l : Launch} {e : Env} {R : Room} {s : State} {m : MethodId} {args : Array Value} {below : List Frame} {meth : Method} {c : Code} {Q : State → Prop} {cc : ByteArray} {nL : Nat} {D : va_G} {tys : List (ClassId × FieldType)} {A : Nat → Prop} {cells slots : Nat} {ws w' : va_W} {lv : List (Nat × Value)} {pc : Nat} {st As : List Value} {o : Option Value} {b : Nat} {fs : List Value} (C : gw_C p s m args meth c cc nL R_Wa D gw_cl tys A) (hM : gw_M l y_Th_putInWork w_Th_putInWork rm_Th_putInWork D gw_cl tys (.ref b :: As) ws w' o) (hR : rm_Th_putInWork.frames + 1 ≤ R.frames ∧ 8 + (3 + 11) + rm_Th_putInWork.locals ≤ R.locals) (hf : cells + 0 ≤ R.cells ∧ slots + 0 ≤ R.slots) (q0 : Nat) (he : ws[q0]? = some (b, .inr (4, fs))) (hn : As.length = 2) (hW : (st.map fun v => v.category).sum ≤ 8) (hdg : decode cc pc = .ok (.invokevirtual 206, 3)) (kk : gw_W p l e R s m args below meth c D gw_cl A Q cells slots nL w' lv (pc + 3) (o.toList ++ st)) : gw_W p l e R s m args below meth c D gw_cl A Q cells slots nL ws lv pc (As.reverse ++ .ref b :: st) :=
  gw_callV (T := T_Th) (N := 15) C hM (gw_good tb_671) tb_668 tb_669 tb_670 tb_5 (by decide +kernel) hR hf rfl rfl rfl he hn hW hdg kk
theorem fc_Wa_209 {p : Program} {l : Launch} {e : Env} {R : Room} {s : State} {m : MethodId} {args : Array Value} {below : List Frame} {meth : Method} {c : Code} {Q : State → Prop} {cc : ByteArray} {nL : Nat} {D : va_G} {tys : List (ClassId × FieldType)} {A : Nat → Prop} {cells slots : Nat} {ws w' : va_W} {lv : List (Nat × Value)} {pc : Nat} {st As : List Value} {o : Option Value} {b : Nat} {fs : List Value} (C : gw_C p s m args meth c cc nL R_Wa D gw_cl tys A) (hM : gw_M l y_Th_termOf w_Th_termOf rm_Th_termOf D gw_cl tys (.ref b :: As) ws w' o) (hR : rm_Th_termOf.frames + 1 ≤ R.frames ∧ 8 + (2 + 11) + rm_Th_termOf.locals ≤ R.locals) (hf : cells + 0 ≤ R.cells ∧ slots + 0 ≤ R.slots) (q0 : Nat) (he : ws[q0]? = some (b, .inr (4, fs))) (hn : As.length = 1) (hW : (st.map fun v => v.category).sum ≤ 8) (hdg : decode cc pc = .ok (.invokevirtual 209, 3)) (kk : gw_W p l e R s m args below meth c D gw_cl A Q cells slots nL w' lv (pc + 3) (o.toList ++ st)) : gw_W p l e R s m args below meth c D gw_cl A Q cells slots nL ws lv pc (As.reverse ++ .ref b :: st) :=
  gw_callV (T := T_Th) (N := 15) C hM (gw_good tb_679) tb_676 tb_677 tb_678 tb_5 (by decide +kernel) hR hf rfl rfl rfl he hn hW hdg kk
theorem fc_Wa_212 {p : Program} {l : Launch} {e : Env} {R : Room} {s : State} {m : MethodId} {args : Array Value} {below : List Frame} {meth : Method} {c : Code} {Q : State → Prop} {cc : ByteArray} {nL : Nat} {D : va_G} {tys : List (ClassId × FieldType)} {A : Nat → Prop} {cells slots : Nat} {ws w' : va_W} {lv : List (Nat × Value)} {pc : Nat} {st As : List Value} {o : Option Value} {b : Nat} {fs : List Value} (C : gw_C p s m args meth c cc nL R_Wa D gw_cl tys A) (hM : gw_M l y_Th_placesOf w_Th_placesOf rm_Th_placesOf D gw_cl tys (.ref b :: As) ws w' o) (hR : rm_Th_placesOf.frames + 1 ≤ R.frames ∧ 8 + (2 + 11) + rm_Th_placesOf.locals ≤ R.locals) (hf : cells + 0 ≤ R.cells ∧ slots + 0 ≤ R.slots) (q0 : Nat) (he : ws[q0]? = some (b, .inr (4, fs))) (hn : As.length = 1) (hW : (st.map fun v => v.category).sum ≤ 8) (hdg : decode cc pc = .ok (.invokevirtual 212, 3)) (kk : gw_W p l e R s m args below meth c D gw_cl A Q cells slots nL w' lv (pc + 3) (o.toList ++ st)) : gw_W p l e R s m args below meth c D gw_cl A Q cells slots nL ws lv pc (As.reverse ++ .ref b :: st) :=
  gw_callV (T := T_Th) (N := 15) C hM (gw_good tb_598) tb_595 tb_596 tb_597 tb_5 (by decide +kernel) hR hf rfl rfl rfl he hn hW hdg kk
theorem fc_Wa_215 {p : Program} {l : Launch} {e : Env} {R : Room} {s : State} {m : MethodId} {args : Array Value} {below : List Frame} {meth : Method} {c : Code} {Q : State → Prop} {cc : ByteArray} {nL : Nat} {D : va_G} {tys : List (ClassId × FieldType)} {A : Nat → Prop} {cells slots : Nat} {ws w' : va_W} {lv : List (Nat × Value)} {pc : Nat} {st As : List Value} {o : Option Value} {b : Nat} {fs : List Value} (C : gw_C p s m args meth c cc nL R_Wa D gw_cl tys A) (hM : gw_M l y_Ro_newest w_Ro_newest rm_Ro_newest D gw_cl tys (.ref b :: As) ws w' o) (hR : rm_Ro_newest.frames + 1 ≤ R.frames ∧ 8 + (1 + 11) + rm_Ro_newest.locals ≤ R.locals) (hf : cells + 0 ≤ R.cells ∧ slots + 0 ≤ R.slots) (q0 : Nat) (he : ws[q0]? = some (b, .inr (5, fs))) (hn : As.length = 0) (hW : (st.map fun v => v.category).sum ≤ 8) (hdg : decode cc pc = .ok (.invokevirtual 215, 3)) (kk : gw_W p l e R s m args below meth c D gw_cl A Q cells slots nL w' lv (pc + 3) (o.toList ++ st)) : gw_W p l e R s m args below meth c D gw_cl A Q cells slots nL ws lv pc (As.reverse ++ .ref b :: st) :=
  gw_callV (T := T_Ro) (N := 6) C hM (gw_good tb_735) tb_732 tb_733 tb_734 tb_6 (by decide +kernel) hR hf rfl rfl rfl he hn hW hdg kk
theorem fc_Wa_218 {p : Program} {l : Launch} {e : Env} {R : Room} {s : State} {m : MethodId} {args : Array Value} {below : List Frame} {meth : Method} {c : Code} {Q : State → Prop} {cc : ByteArray} {nL : Nat} {D : va_G} {tys : List (ClassId × FieldType)} {A : Nat → Prop} {cells slots : Nat} {ws w' : va_W} {lv : List (Nat × Value)} {pc : Nat} {st As : List Value} {o : Option Value} {b : Nat} {fs : List Value} (C : gw_C p s m args meth c cc nL R_Wa D gw_cl tys A) (hM : gw_M l y_Th_finish w_Th_finish rm_Th_finish D gw_cl tys (.ref b :: As) ws w' o) (hR : rm_Th_finish.frames + 1 ≤ R.frames ∧ 8 + (3 + 11) + rm_Th_finish.locals ≤ R.locals) (hf : cells + 0 ≤ R.cells ∧ slots + 0 ≤ R.slots) (q0 : Nat) (he : ws[q0]? = some (b, .inr (4, fs))) (hn : As.length = 2) (hW : (st.map fun v => v.category).sum ≤ 8) (hdg : decode cc pc = .ok (.invokevirtual 218, 3)) (kk : gw_W p l e R s m args below meth c D gw_cl A Q cells slots nL w' lv (pc + 3) (o.toList ++ st)) : gw_W p l e R s m args below meth c D gw_cl A Q cells slots nL ws lv pc (As.reverse ++ .ref b :: st) :=
  gw_callV (T := T_Th) (N := 15) C hM (gw_good tb_739) tb_736 tb_737 tb_738 tb_5 (by decide +kernel) hR hf rfl rfl rfl he hn hW hdg kk
theorem fc_Wa_221 {p : Program} {l : Launch} {e : Env} {R : Room} {s : State} {m : MethodId} {args : Array Value} {below : List Frame} {meth : Method} {c : Code} {Q : State → Prop} {cc : ByteArray} {nL : Nat} {D : va_G} {tys : List (ClassId × FieldType)} {A : Nat → Prop} {cells slots : Nat} {ws w' : va_W} {lv : List (Nat × Value)} {pc : Nat} {st As : List Value} {o : Option Value} {b : Nat} {fs : List Value} (C : gw_C p s m args meth c cc nL R_Wa D gw_cl tys A) (hM : gw_M l y_Wa_giveThing w_Wa_giveThing rm_Wa_giveThing D gw_cl tys (.ref b :: As) ws w' o) (hR : rm_Wa_giveThing.frames + 1 ≤ R.frames ∧ 8 + (2 + 11) + rm_Wa_giveThing.locals ≤ R.locals) (hf : cells + 0 ≤ R.cells ∧ slots + 0 ≤ R.slots) (q0 : Nat) (he : ws[q0]? = some (b, .inr (1, fs))) (hn : As.length = 1) (hW : (st.map fun v => v.category).sum ≤ 8) (hdg : decode cc pc = .ok (.invokevirtual 221, 3)) (kk : gw_W p l e R s m args below meth c D gw_cl A Q cells slots nL w' lv (pc + 3) (o.toList ++ st)) : gw_W p l e R s m args below meth c D gw_cl A Q cells slots nL ws lv pc (As.reverse ++ .ref b :: st) :=
  gw_callV (T := T_Wa) (N := 17) C hM (gw_good tb_743) tb_740 tb_742 sl_Wa_giveThing tb_2 (by decide +kernel) hR hf rfl rfl rfl he hn hW hdg kk
theorem fc_Wa_224 {p : Program} {l : Launch} {e : Env} {R : Room} {s : State} {m : MethodId} {args : Array Value} {below : List Frame} {meth : Method} {c : Code} {Q : State → Prop} {cc : ByteArray} {nL : Nat} {D : va_G} {tys : List (ClassId × FieldType)} {A : Nat → Prop} {cells slots : Nat} {ws w' : va_W} {lv : List (Nat × Value)} {pc : Nat} {st As : List Value} {o : Option Value} {b : Nat} {fs : List Value} (C : gw_C p s m args meth c cc nL R_Wa D gw_cl tys A) (hM : gw_M l y_Ro_secondOf w_Ro_secondOf rm_Ro_secondOf D gw_cl tys (.ref b :: As) ws w' o) (hR : rm_Ro_secondOf.frames + 1 ≤ R.frames ∧ 8 + (2 + 11) + rm_Ro_secondOf.locals ≤ R.locals) (hf : cells + 0 ≤ R.cells ∧ slots + 0 ≤ R.slots) (q0 : Nat) (he : ws[q0]? = some (b, .inr (5, fs))) (hn : As.length = 1) (hW : (st.map fun v => v.category).sum ≤ 8) (hdg : decode cc pc = .ok (.invokevirtual 224, 3)) (kk : gw_W p l e R s m args below meth c D gw_cl A Q cells slots nL w' lv (pc + 3) (o.toList ++ st)) : gw_W p l e R s m args below meth c D gw_cl A Q cells slots nL ws lv pc (As.reverse ++ .ref b :: st) :=
  gw_callV (T := T_Ro) (N := 6) C hM (gw_good tb_578) tb_575 tb_576 tb_577 tb_6 (by decide +kernel) hR hf rfl rfl rfl he hn hW hdg kk
theorem fc_Wa_225 {p : Program} {l : Launch} {e : Env} {R : Room} {s : State} {m : MethodId} {args : Array Value} {below : List Frame} {meth : Method} {c : Code} {Q : State → Prop} {cc : ByteArray} {nL : Nat} {D : va_G} {tys : List (ClassId × FieldType)} {A : Nat → Prop} {cells slots : Nat} {ws w' : va_W} {lv : List (Nat × Value)} {pc : Nat} {st As : List Value} {o : Option Value} {b : Nat} {fs : List Value} (C : gw_C p s m args meth c cc nL R_Wa D gw_cl tys A) (hM : gw_M l y_Wa_thenSecond w_Wa_thenSecond rm_Wa_thenSecond D gw_cl tys (.ref b :: As) ws w' o) (hR : rm_Wa_thenSecond.frames + 1 ≤ R.frames ∧ 8 + (3 + 11) + rm_Wa_thenSecond.locals ≤ R.locals) (hf : cells + 0 ≤ R.cells ∧ slots + 0 ≤ R.slots) (q0 : Nat) (he : ws[q0]? = some (b, .inr (1, fs))) (hn : As.length = 2) (hW : (st.map fun v => v.category).sum ≤ 8) (hdg : decode cc pc = .ok (.invokevirtual 225, 3)) (kk : gw_W p l e R s m args below meth c D gw_cl A Q cells slots nL w' lv (pc + 3) (o.toList ++ st)) : gw_W p l e R s m args below meth c D gw_cl A Q cells slots nL ws lv pc (As.reverse ++ .ref b :: st) :=
  gw_callV (T := T_Wa) (N := 17) C hM (gw_good tb_747) tb_744 tb_746 sl_Wa_thenSecond tb_2 (by decide +kernel) hR hf rfl rfl rfl he hn hW hdg kk
theorem fc_Wa_228 {p : Program} {l : Launch} {e : Env} {R : Room} {s : State} {m : MethodId} {args : Array Value} {below : List Frame} {meth : Method} {c : Code} {Q : State → Prop} {cc : ByteArray} {nL : Nat} {D : va_G} {tys : List (ClassId × FieldType)} {A : Nat → Prop} {cells slots : Nat} {ws w' : va_W} {lv : List (Nat × Value)} {pc : Nat} {st As : List Value} {o : Option Value} {b : Nat} {fs : List Value} (C : gw_C p s m args meth c cc nL R_Wa D gw_cl tys A) (hM : gw_M l y_Te_thirdOf w_Te_thirdOf rm_Te_thirdOf D gw_cl tys (.ref b :: As) ws w' o) (hR : rm_Te_thirdOf.frames + 1 ≤ R.frames ∧ 8 + (2 + 11) + rm_Te_thirdOf.locals ≤ R.locals) (hf : cells + 0 ≤ R.cells ∧ slots + 0 ≤ R.slots) (q0 : Nat) (he : ws[q0]? = some (b, .inr (2, fs))) (hn : As.length = 1) (hW : (st.map fun v => v.category).sum ≤ 8) (hdg : decode cc pc = .ok (.invokevirtual 228, 3)) (kk : gw_W p l e R s m args below meth c D gw_cl A Q cells slots nL w' lv (pc + 3) (o.toList ++ st)) : gw_W p l e R s m args below meth c D gw_cl A Q cells slots nL ws lv pc (As.reverse ++ .ref b :: st) :=
  gw_callV (T := T_Te) (N := 7) C hM (gw_good tb_751) tb_748 tb_749 tb_750 tb_3 (by decide +kernel) hR hf rfl rfl rfl he hn hW hdg kk
theorem fc_Wa_231 {p : Program} {l : Launch} {e : Env} {R : Room} {s : State} {m : MethodId} {args : Array Value} {below : List Frame} {meth : Method} {c : Code} {Q : State → Prop} {cc : ByteArray} {nL : Nat} {D : va_G} {tys : List (ClassId × FieldType)} {A : Nat → Prop} {cells slots : Nat} {ws w' : va_W} {lv : List (Nat × Value)} {pc : Nat} {st As : List Value} {o : Option Value} {b : Nat} {fs : List Value} (C : gw_C p s m args meth c cc nL R_Wa D gw_cl tys A) (hM : gw_M l y_Ro_numberOf w_Ro_numberOf rm_Ro_numberOf D gw_cl tys (.ref b :: As) ws w' o) (hR : rm_Ro_numberOf.frames + 1 ≤ R.frames ∧ 8 + (2 + 11) + rm_Ro_numberOf.locals ≤ R.locals) (hf : cells + 0 ≤ R.cells ∧ slots + 0 ≤ R.slots) (q0 : Nat) (he : ws[q0]? = some (b, .inr (5, fs))) (hn : As.length = 1) (hW : (st.map fun v => v.category).sum ≤ 8) (hdg : decode cc pc = .ok (.invokevirtual 231, 3)) (kk : gw_W p l e R s m args below meth c D gw_cl A Q cells slots nL w' lv (pc + 3) (o.toList ++ st)) : gw_W p l e R s m args below meth c D gw_cl A Q cells slots nL ws lv pc (As.reverse ++ .ref b :: st) :=
  gw_callV (T := T_Ro) (N := 6) C hM (gw_good tb_755) tb_752 tb_753 tb_754 tb_6 (by decide +kernel) hR hf rfl rfl rfl he hn hW hdg kk
theorem fc_Wa_232 {p : Program} {l : Launch} {e : Env} {R : Room} {s : State} {m : MethodId} {args : Array Value} {below : List Frame} {meth : Method} {c : Code} {Q : State → Prop} {cc : ByteArray} {nL : Nat} {D : va_G} {tys : List (ClassId × FieldType)} {A : Nat → Prop} {cells slots : Nat} {ws w' : va_W} {lv : List (Nat × Value)} {pc : Nat} {st As : List Value} {o : Option Value} {b : Nat} {fs : List Value} (C : gw_C p s m args meth c cc nL R_Wa D gw_cl tys A) (hM : gw_M l y_Wa_actWith w_Wa_actWith rm_Wa_actWith D gw_cl tys (.ref b :: As) ws w' o) (hR : rm_Wa_actWith.frames + 1 ≤ R.frames ∧ 8 + (4 + 11) + rm_Wa_actWith.locals ≤ R.locals) (hf : cells + 0 ≤ R.cells ∧ slots + 0 ≤ R.slots) (q0 : Nat) (he : ws[q0]? = some (b, .inr (1, fs))) (hn : As.length = 2) (hW : (st.map fun v => v.category).sum ≤ 8) (hdg : decode cc pc = .ok (.invokevirtual 232, 3)) (kk : gw_W p l e R s m args below meth c D gw_cl A Q cells slots nL w' lv (pc + 3) (o.toList ++ st)) : gw_W p l e R s m args below meth c D gw_cl A Q cells slots nL ws lv pc (As.reverse ++ .ref b :: st) :=
  gw_callV (T := T_Wa) (N := 17) C hM (gw_good tb_759) tb_756 tb_758 sl_Wa_actWith tb_2 (by decide +kernel) hR hf rfl rfl rfl he hn hW hdg kk
theorem fc_Wa_236 {p : Program} {l : Launch} {e : Env} {R : Room} {s : State} {m : MethodId} {args : Array Value} {below : List Frame} {meth : Method} {c : Code} {Q : State → Prop} {cc : ByteArray} {nL : Nat} {D : va_G} {tys : List (ClassId × FieldType)} {A : Nat → Prop} {cells slots : Nat} {ws w' : va_W} {lv : List (Nat × Value)} {pc : Nat} {st As : List Value} {o : Option Value} {b : Nat} {fs : List Value} (C : gw_C p s m args meth c cc nL R_Wa D gw_cl tys A) (hM : gw_M l y_Wa_chooseBranch w_Wa_chooseBranch rm_Wa_chooseBranch D gw_cl tys (.ref b :: As) ws w' o) (hR : rm_Wa_chooseBranch.frames + 1 ≤ R.frames ∧ 8 + (4 + 11) + rm_Wa_chooseBranch.locals ≤ R.locals) (hf : cells + 0 ≤ R.cells ∧ slots + 0 ≤ R.slots) (q0 : Nat) (he : ws[q0]? = some (b, .inr (1, fs))) (hn : As.length = 2) (hW : (st.map fun v => v.category).sum ≤ 8) (hdg : decode cc pc = .ok (.invokevirtual 236, 3)) (kk : gw_W p l e R s m args below meth c D gw_cl A Q cells slots nL w' lv (pc + 3) (o.toList ++ st)) : gw_W p l e R s m args below meth c D gw_cl A Q cells slots nL ws lv pc (As.reverse ++ .ref b :: st) :=
  gw_callV (T := T_Wa) (N := 17) C hM (gw_good tb_766) tb_763 tb_765 sl_Wa_chooseBranch tb_2 (by decide +kernel) hR hf rfl rfl rfl he hn hW hdg kk
theorem fc_Wa_242 {p : Program} {l : Launch} {e : Env} {R : Room} {s : State} {m : MethodId} {args : Array Value} {below : List Frame} {meth : Method} {c : Code} {Q : State → Prop} {cc : ByteArray} {nL : Nat} {D : va_G} {tys : List (ClassId × FieldType)} {A : Nat → Prop} {cells slots : Nat} {ws w' : va_W} {lv : List (Nat × Value)} {pc : Nat} {st As : List Value} {o : Option Value} {b : Nat} {fs : List Value} (C : gw_C p s m args meth c cc nL R_Wa D gw_cl tys A) (hM : gw_M l y_Wa_takeOfPair w_Wa_takeOfPair rm_Wa_takeOfPair D gw_cl tys (.ref b :: As) ws w' o) (hR : rm_Wa_takeOfPair.frames + 1 ≤ R.frames ∧ 8 + (2 + 11) + rm_Wa_takeOfPair.locals ≤ R.locals) (hf : cells + 0 ≤ R.cells ∧ slots + 0 ≤ R.slots) (q0 : Nat) (he : ws[q0]? = some (b, .inr (1, fs))) (hn : As.length = 1) (hW : (st.map fun v => v.category).sum ≤ 8) (hdg : decode cc pc = .ok (.invokevirtual 242, 3)) (kk : gw_W p l e R s m args below meth c D gw_cl A Q cells slots nL w' lv (pc + 3) (o.toList ++ st)) : gw_W p l e R s m args below meth c D gw_cl A Q cells slots nL ws lv pc (As.reverse ++ .ref b :: st) :=
  gw_callV (T := T_Wa) (N := 17) C hM (gw_good tb_770) tb_767 tb_769 sl_Wa_takeOfPair tb_2 (by decide +kernel) hR hf rfl rfl rfl he hn hW hdg kk
theorem fc_Wa_255 {p : Program} {l : Launch} {e : Env} {R : Room} {s : State} {m : MethodId} {args : Array Value} {below : List Frame} {meth : Method} {c : Code} {Q : State → Prop} {cc : ByteArray} {nL : Nat} {D : va_G} {tys : List (ClassId × FieldType)} {A : Nat → Prop} {cells slots : Nat} {ws w' : va_W} {lv : List (Nat × Value)} {pc : Nat} {st As : List Value} {o : Option Value} {b : Nat} {fs : List Value} (C : gw_C p s m args meth c cc nL R_Wa D gw_cl tys A) (hM : gw_M l y_Wa_resultOf w_Wa_resultOf rm_Wa_resultOf D gw_cl tys As ws w' o) (hR : rm_Wa_resultOf.frames + 1 ≤ R.frames ∧ 8 + (5 + 11) + rm_Wa_resultOf.locals ≤ R.locals) (hf : cells + 0 ≤ R.cells ∧ slots + 0 ≤ R.slots) (hn : As.length = 3) (hW : (st.map fun v => v.category).sum ≤ 8) (hdg : decode cc pc = .ok (.invokestatic 255, 3)) (kk : gw_W p l e R s m args below meth c D gw_cl A Q cells slots nL w' lv (pc + 3) (o.toList ++ st)) : gw_W p l e R s m args below meth c D gw_cl A Q cells slots nL ws lv pc (As.reverse ++ st) :=
  gw_callS C hM (gw_good tb_762) tb_760 tb_761 tb_2 (by decide +kernel) hR hf rfl rfl hn hW hdg kk
theorem fc_Wa_259 {p : Program} {l : Launch} {e : Env} {R : Room} {s : State} {m : MethodId} {args : Array Value} {below : List Frame} {meth : Method} {c : Code} {Q : State → Prop} {cc : ByteArray} {nL : Nat} {D : va_G} {tys : List (ClassId × FieldType)} {A : Nat → Prop} {cells slots : Nat} {ws w' : va_W} {lv : List (Nat × Value)} {pc : Nat} {st As : List Value} {o : Option Value} {b : Nat} {fs : List Value} (C : gw_C p s m args meth c cc nL R_Wa D gw_cl tys A) (hM : gw_M l y_Th_forgetReached w_Th_forgetReached rm_Th_forgetReached D gw_cl tys (.ref b :: As) ws w' o) (hR : rm_Th_forgetReached.frames + 1 ≤ R.frames ∧ 8 + (1 + 11) + rm_Th_forgetReached.locals ≤ R.locals) (hf : cells + 0 ≤ R.cells ∧ slots + 0 ≤ R.slots) (q0 : Nat) (he : ws[q0]? = some (b, .inr (4, fs))) (hn : As.length = 0) (hW : (st.map fun v => v.category).sum ≤ 8) (hdg : decode cc pc = .ok (.invokevirtual 259, 3)) (kk : gw_W p l e R s m args below meth c D gw_cl A Q cells slots nL w' lv (pc + 3) (o.toList ++ st)) : gw_W p l e R s m args below meth c D gw_cl A Q cells slots nL ws lv pc (As.reverse ++ .ref b :: st) :=
  gw_callV (T := T_Th) (N := 15) C hM (gw_good tb_526) tb_523 tb_524 tb_525 tb_5 (by decide +kernel) hR hf rfl rfl rfl he hn hW hdg kk
theorem fc_Wa_262 {p : Program} {l : Launch} {e : Env} {R : Room} {s : State} {m : MethodId} {args : Array Value} {below : List Frame} {meth : Method} {c : Code} {Q : State → Prop} {cc : ByteArray} {nL : Nat} {D : va_G} {tys : List (ClassId × FieldType)} {A : Nat → Prop} {cells slots : Nat} {ws w' : va_W} {lv : List (Nat × Value)} {pc : Nat} {st As : List Value} {o : Option Value} {b : Nat} {fs : List Value} (C : gw_C p s m args meth c cc nL R_Wa D gw_cl tys A) (hM : gw_M l y_Wa_reachFromHand w_Wa_reachFromHand rm_Wa_reachFromHand D gw_cl tys (.ref b :: As) ws w' o) (hR : rm_Wa_reachFromHand.frames + 1 ≤ R.frames ∧ 8 + (1 + 11) + rm_Wa_reachFromHand.locals ≤ R.locals) (hf : cells + 0 ≤ R.cells ∧ slots + 0 ≤ R.slots) (q0 : Nat) (he : ws[q0]? = some (b, .inr (1, fs))) (hn : As.length = 0) (hW : (st.map fun v => v.category).sum ≤ 8) (hdg : decode cc pc = .ok (.invokevirtual 262, 3)) (kk : gw_W p l e R s m args below meth c D gw_cl A Q cells slots nL w' lv (pc + 3) (o.toList ++ st)) : gw_W p l e R s m args below meth c D gw_cl A Q cells slots nL ws lv pc (As.reverse ++ .ref b :: st) :=
  gw_callV (T := T_Wa) (N := 17) C hM (gw_good tb_530) tb_527 tb_529 sl_Wa_reachFromHand tb_2 (by decide +kernel) hR hf rfl rfl rfl he hn hW hdg kk
theorem fc_Wa_265 {p : Program} {l : Launch} {e : Env} {R : Room} {s : State} {m : MethodId} {args : Array Value} {below : List Frame} {meth : Method} {c : Code} {Q : State → Prop} {cc : ByteArray} {nL : Nat} {D : va_G} {tys : List (ClassId × FieldType)} {A : Nat → Prop} {cells slots : Nat} {ws w' : va_W} {lv : List (Nat × Value)} {pc : Nat} {st As : List Value} {o : Option Value} {b : Nat} {fs : List Value} (C : gw_C p s m args meth c cc nL R_Wa D gw_cl tys A) (hM : gw_M l y_Wa_reachFromRow w_Wa_reachFromRow rm_Wa_reachFromRow D gw_cl tys (.ref b :: As) ws w' o) (hR : rm_Wa_reachFromRow.frames + 1 ≤ R.frames ∧ 8 + (2 + 11) + rm_Wa_reachFromRow.locals ≤ R.locals) (hf : cells + 0 ≤ R.cells ∧ slots + 0 ≤ R.slots) (q0 : Nat) (he : ws[q0]? = some (b, .inr (1, fs))) (hn : As.length = 0) (hW : (st.map fun v => v.category).sum ≤ 8) (hdg : decode cc pc = .ok (.invokevirtual 265, 3)) (kk : gw_W p l e R s m args below meth c D gw_cl A Q cells slots nL w' lv (pc + 3) (o.toList ++ st)) : gw_W p l e R s m args below meth c D gw_cl A Q cells slots nL ws lv pc (As.reverse ++ .ref b :: st) :=
  gw_callV (T := T_Wa) (N := 17) C hM (gw_good tb_562) tb_559 tb_561 sl_Wa_reachFromRow tb_2 (by decide +kernel) hR hf rfl rfl rfl he hn hW hdg kk
theorem fc_Wa_271 {p : Program} {l : Launch} {e : Env} {R : Room} {s : State} {m : MethodId} {args : Array Value} {below : List Frame} {meth : Method} {c : Code} {Q : State → Prop} {cc : ByteArray} {nL : Nat} {D : va_G} {tys : List (ClassId × FieldType)} {A : Nat → Prop} {cells slots : Nat} {ws w' : va_W} {lv : List (Nat × Value)} {pc : Nat} {st As : List Value} {o : Option Value} {b : Nat} {fs : List Value} (C : gw_C p s m args meth c cc nL R_Wa D gw_cl tys A) (hM : gw_M l y_Th_reachedAt w_Th_reachedAt rm_Th_reachedAt D gw_cl tys (.ref b :: As) ws w' o) (hR : rm_Th_reachedAt.frames + 1 ≤ R.frames ∧ 8 + (2 + 11) + rm_Th_reachedAt.locals ≤ R.locals) (hf : cells + 0 ≤ R.cells ∧ slots + 0 ≤ R.slots) (q0 : Nat) (he : ws[q0]? = some (b, .inr (4, fs))) (hn : As.length = 1) (hW : (st.map fun v => v.category).sum ≤ 8) (hdg : decode cc pc = .ok (.invokevirtual 271, 3)) (kk : gw_W p l e R s m args below meth c D gw_cl A Q cells slots nL w' lv (pc + 3) (o.toList ++ st)) : gw_W p l e R s m args below meth c D gw_cl A Q cells slots nL ws lv pc (As.reverse ++ .ref b :: st) :=
  gw_callV (T := T_Th) (N := 15) C hM (gw_good tb_582) tb_579 tb_580 tb_581 tb_5 (by decide +kernel) hR hf rfl rfl rfl he hn hW hdg kk
theorem fc_Wa_274 {p : Program} {l : Launch} {e : Env} {R : Room} {s : State} {m : MethodId} {args : Array Value} {below : List Frame} {meth : Method} {c : Code} {Q : State → Prop} {cc : ByteArray} {nL : Nat} {D : va_G} {tys : List (ClassId × FieldType)} {A : Nat → Prop} {cells slots : Nat} {ws w' : va_W} {lv : List (Nat × Value)} {pc : Nat} {st As : List Value} {o : Option Value} {b : Nat} {fs : List Value} (C : gw_C p s m args meth c cc nL R_Wa D gw_cl tys A) (hM : gw_M l y_Wa_reachFromThing w_Wa_reachFromThing rm_Wa_reachFromThing D gw_cl tys (.ref b :: As) ws w' o) (hR : rm_Wa_reachFromThing.frames + 1 ≤ R.frames ∧ 8 + (3 + 11) + rm_Wa_reachFromThing.locals ≤ R.locals) (hf : cells + 0 ≤ R.cells ∧ slots + 0 ≤ R.slots) (q0 : Nat) (he : ws[q0]? = some (b, .inr (1, fs))) (hn : As.length = 1) (hW : (st.map fun v => v.category).sum ≤ 8) (hdg : decode cc pc = .ok (.invokevirtual 274, 3)) (kk : gw_W p l e R s m args below meth c D gw_cl A Q cells slots nL w' lv (pc + 3) (o.toList ++ st)) : gw_W p l e R s m args below meth c D gw_cl A Q cells slots nL ws lv pc (As.reverse ++ .ref b :: st) :=
  gw_callV (T := T_Wa) (N := 17) C hM (gw_good tb_586) tb_583 tb_585 sl_Wa_reachFromThing tb_2 (by decide +kernel) hR hf rfl rfl rfl he hn hW hdg kk
theorem fc_Wa_277 {p : Program} {l : Launch} {e : Env} {R : Room} {s : State} {m : MethodId} {args : Array Value} {below : List Frame} {meth : Method} {c : Code} {Q : State → Prop} {cc : ByteArray} {nL : Nat} {D : va_G} {tys : List (ClassId × FieldType)} {A : Nat → Prop} {cells slots : Nat} {ws w' : va_W} {lv : List (Nat × Value)} {pc : Nat} {st As : List Value} {o : Option Value} {b : Nat} {fs : List Value} (C : gw_C p s m args meth c cc nL R_Wa D gw_cl tys A) (hM : gw_M l y_Th_keepReached w_Th_keepReached rm_Th_keepReached D gw_cl tys (.ref b :: As) ws w' o) (hR : rm_Th_keepReached.frames + 1 ≤ R.frames ∧ 8 + (6 + 11) + rm_Th_keepReached.locals ≤ R.locals) (hf : cells + 0 ≤ R.cells ∧ slots + 0 ≤ R.slots) (q0 : Nat) (he : ws[q0]? = some (b, .inr (4, fs))) (hn : As.length = 1) (hW : (st.map fun v => v.category).sum ≤ 8) (hdg : decode cc pc = .ok (.invokevirtual 277, 3)) (kk : gw_W p l e R s m args below meth c D gw_cl A Q cells slots nL w' lv (pc + 3) (o.toList ++ st)) : gw_W p l e R s m args below meth c D gw_cl A Q cells slots nL ws lv pc (As.reverse ++ .ref b :: st) :=
  gw_callV (T := T_Th) (N := 15) C hM (gw_good tb_614) tb_611 tb_612 tb_613 tb_5 (by decide +kernel) hR hf rfl rfl rfl he hn hW hdg kk
theorem fc_Wa_280 {p : Program} {l : Launch} {e : Env} {R : Room} {s : State} {m : MethodId} {args : Array Value} {below : List Frame} {meth : Method} {c : Code} {Q : State → Prop} {cc : ByteArray} {nL : Nat} {D : va_G} {tys : List (ClassId × FieldType)} {A : Nat → Prop} {cells slots : Nat} {ws w' : va_W} {lv : List (Nat × Value)} {pc : Nat} {st As : List Value} {o : Option Value} {b : Nat} {fs : List Value} (C : gw_C p s m args meth c cc nL R_Wa D gw_cl tys A) (hM : gw_M l y_Wa_reachPlaces w_Wa_reachPlaces rm_Wa_reachPlaces D gw_cl tys (.ref b :: As) ws w' o) (hR : rm_Wa_reachPlaces.frames + 1 ≤ R.frames ∧ 8 + (4 + 11) + rm_Wa_reachPlaces.locals ≤ R.locals) (hf : cells + 0 ≤ R.cells ∧ slots + 0 ≤ R.slots) (q0 : Nat) (he : ws[q0]? = some (b, .inr (1, fs))) (hn : As.length = 1) (hW : (st.map fun v => v.category).sum ≤ 8) (hdg : decode cc pc = .ok (.invokevirtual 280, 3)) (kk : gw_W p l e R s m args below meth c D gw_cl A Q cells slots nL w' lv (pc + 3) (o.toList ++ st)) : gw_W p l e R s m args below meth c D gw_cl A Q cells slots nL ws lv pc (As.reverse ++ .ref b :: st) :=
  gw_callV (T := T_Wa) (N := 17) C hM (gw_good tb_534) tb_531 tb_533 sl_Wa_reachPlaces tb_2 (by decide +kernel) hR hf rfl rfl rfl he hn hW hdg kk
theorem fc_Wa_283 {p : Program} {l : Launch} {e : Env} {R : Room} {s : State} {m : MethodId} {args : Array Value} {below : List Frame} {meth : Method} {c : Code} {Q : State → Prop} {cc : ByteArray} {nL : Nat} {D : va_G} {tys : List (ClassId × FieldType)} {A : Nat → Prop} {cells slots : Nat} {ws w' : va_W} {lv : List (Nat × Value)} {pc : Nat} {st As : List Value} {o : Option Value} {b : Nat} {fs : List Value} (C : gw_C p s m args meth c cc nL R_Wa D gw_cl tys A) (hM : gw_M l y_Wa_reachOfValue w_Wa_reachOfValue rm_Wa_reachOfValue D gw_cl tys (.ref b :: As) ws w' o) (hR : rm_Wa_reachOfValue.frames + 1 ≤ R.frames ∧ 8 + (4 + 11) + rm_Wa_reachOfValue.locals ≤ R.locals) (hf : cells + 0 ≤ R.cells ∧ slots + 0 ≤ R.slots) (q0 : Nat) (he : ws[q0]? = some (b, .inr (1, fs))) (hn : As.length = 3) (hW : (st.map fun v => v.category).sum ≤ 8) (hdg : decode cc pc = .ok (.invokevirtual 283, 3)) (kk : gw_W p l e R s m args below meth c D gw_cl A Q cells slots nL w' lv (pc + 3) (o.toList ++ st)) : gw_W p l e R s m args below meth c D gw_cl A Q cells slots nL ws lv pc (As.reverse ++ .ref b :: st) :=
  gw_callV (T := T_Wa) (N := 17) C hM (gw_good tb_558) tb_555 tb_557 sl_Wa_reachOfValue tb_2 (by decide +kernel) hR hf rfl rfl rfl he hn hW hdg kk
theorem fc_Wa_287 {p : Program} {l : Launch} {e : Env} {R : Room} {s : State} {m : MethodId} {args : Array Value} {below : List Frame} {meth : Method} {c : Code} {Q : State → Prop} {cc : ByteArray} {nL : Nat} {D : va_G} {tys : List (ClassId × FieldType)} {A : Nat → Prop} {cells slots : Nat} {ws w' : va_W} {lv : List (Nat × Value)} {pc : Nat} {st As : List Value} {o : Option Value} {b : Nat} {fs : List Value} (C : gw_C p s m args meth c cc nL R_Wa D gw_cl tys A) (hM : gw_M l y_Th_reach w_Th_reach rm_Th_reach D gw_cl tys (.ref b :: As) ws w' o) (hR : rm_Th_reach.frames + 1 ≤ R.frames ∧ 8 + (4 + 11) + rm_Th_reach.locals ≤ R.locals) (hf : cells + 0 ≤ R.cells ∧ slots + 0 ≤ R.slots) (q0 : Nat) (he : ws[q0]? = some (b, .inr (4, fs))) (hn : As.length = 2) (hW : (st.map fun v => v.category).sum ≤ 8) (hdg : decode cc pc = .ok (.invokevirtual 287, 3)) (kk : gw_W p l e R s m args below meth c D gw_cl A Q cells slots nL w' lv (pc + 3) (o.toList ++ st)) : gw_W p l e R s m args below meth c D gw_cl A Q cells slots nL ws lv pc (As.reverse ++ .ref b :: st) :=
  gw_callV (T := T_Th) (N := 15) C hM (gw_good tb_550) tb_547 tb_548 tb_549 tb_5 (by decide +kernel) hR hf rfl rfl rfl he hn hW hdg kk
theorem fc_Wa_290 {p : Program} {l : Launch} {e : Env} {R : Room} {s : State} {m : MethodId} {args : Array Value} {below : List Frame} {meth : Method} {c : Code} {Q : State → Prop} {cc : ByteArray} {nL : Nat} {D : va_G} {tys : List (ClassId × FieldType)} {A : Nat → Prop} {cells slots : Nat} {ws w' : va_W} {lv : List (Nat × Value)} {pc : Nat} {st As : List Value} {o : Option Value} {b : Nat} {fs : List Value} (C : gw_C p s m args meth c cc nL R_Wa D gw_cl tys A) (hM : gw_M l y_Th_valueSortOf w_Th_valueSortOf rm_Th_valueSortOf D gw_cl tys (.ref b :: As) ws w' o) (hR : rm_Th_valueSortOf.frames + 1 ≤ R.frames ∧ 8 + (2 + 11) + rm_Th_valueSortOf.locals ≤ R.locals) (hf : cells + 0 ≤ R.cells ∧ slots + 0 ≤ R.slots) (q0 : Nat) (he : ws[q0]? = some (b, .inr (4, fs))) (hn : As.length = 1) (hW : (st.map fun v => v.category).sum ≤ 8) (hdg : decode cc pc = .ok (.invokevirtual 290, 3)) (kk : gw_W p l e R s m args below meth c D gw_cl A Q cells slots nL w' lv (pc + 3) (o.toList ++ st)) : gw_W p l e R s m args below meth c D gw_cl A Q cells slots nL ws lv pc (As.reverse ++ .ref b :: st) :=
  gw_callV (T := T_Th) (N := 15) C hM (gw_good tb_602) tb_599 tb_600 tb_601 tb_5 (by decide +kernel) hR hf rfl rfl rfl he hn hW hdg kk
theorem fc_Wa_293 {p : Program} {l : Launch} {e : Env} {R : Room} {s : State} {m : MethodId} {args : Array Value} {below : List Frame} {meth : Method} {c : Code} {Q : State → Prop} {cc : ByteArray} {nL : Nat} {D : va_G} {tys : List (ClassId × FieldType)} {A : Nat → Prop} {cells slots : Nat} {ws w' : va_W} {lv : List (Nat × Value)} {pc : Nat} {st As : List Value} {o : Option Value} {b : Nat} {fs : List Value} (C : gw_C p s m args meth c cc nL R_Wa D gw_cl tys A) (hM : gw_M l y_Th_valueFirstOf w_Th_valueFirstOf rm_Th_valueFirstOf D gw_cl tys (.ref b :: As) ws w' o) (hR : rm_Th_valueFirstOf.frames + 1 ≤ R.frames ∧ 8 + (2 + 11) + rm_Th_valueFirstOf.locals ≤ R.locals) (hf : cells + 0 ≤ R.cells ∧ slots + 0 ≤ R.slots) (q0 : Nat) (he : ws[q0]? = some (b, .inr (4, fs))) (hn : As.length = 1) (hW : (st.map fun v => v.category).sum ≤ 8) (hdg : decode cc pc = .ok (.invokevirtual 293, 3)) (kk : gw_W p l e R s m args below meth c D gw_cl A Q cells slots nL w' lv (pc + 3) (o.toList ++ st)) : gw_W p l e R s m args below meth c D gw_cl A Q cells slots nL ws lv pc (As.reverse ++ .ref b :: st) :=
  gw_callV (T := T_Th) (N := 15) C hM (gw_good tb_606) tb_603 tb_604 tb_605 tb_5 (by decide +kernel) hR hf rfl rfl rfl he hn hW hdg kk
theorem fc_Wa_296 {p : Program} {l : Launch} {e : Env} {R : Room} {s : State} {m : MethodId} {args : Array Value} {below : List Frame} {meth : Method} {c : Code} {Q : State → Prop} {cc : ByteArray} {nL : Nat} {D : va_G} {tys : List (ClassId × FieldType)} {A : Nat → Prop} {cells slots : Nat} {ws w' : va_W} {lv : List (Nat × Value)} {pc : Nat} {st As : List Value} {o : Option Value} {b : Nat} {fs : List Value} (C : gw_C p s m args meth c cc nL R_Wa D gw_cl tys A) (hM : gw_M l y_Th_valueSecondOf w_Th_valueSecondOf rm_Th_valueSecondOf D gw_cl tys (.ref b :: As) ws w' o) (hR : rm_Th_valueSecondOf.frames + 1 ≤ R.frames ∧ 8 + (2 + 11) + rm_Th_valueSecondOf.locals ≤ R.locals) (hf : cells + 0 ≤ R.cells ∧ slots + 0 ≤ R.slots) (q0 : Nat) (he : ws[q0]? = some (b, .inr (4, fs))) (hn : As.length = 1) (hW : (st.map fun v => v.category).sum ≤ 8) (hdg : decode cc pc = .ok (.invokevirtual 296, 3)) (kk : gw_W p l e R s m args below meth c D gw_cl A Q cells slots nL w' lv (pc + 3) (o.toList ++ st)) : gw_W p l e R s m args below meth c D gw_cl A Q cells slots nL ws lv pc (As.reverse ++ .ref b :: st) :=
  gw_callV (T := T_Th) (N := 15) C hM (gw_good tb_610) tb_607 tb_608 tb_609 tb_5 (by decide +kernel) hR hf rfl rfl rfl he hn hW hdg kk
theorem fc_Wa_299 {p : Program} {l : Launch} {e : Env} {R : Room} {s : State} {m : MethodId} {args : Array Value} {below : List Frame} {meth : Method} {c : Code} {Q : State → Prop} {cc : ByteArray} {nL : Nat} {D : va_G} {tys : List (ClassId × FieldType)} {A : Nat → Prop} {cells slots : Nat} {ws w' : va_W} {lv : List (Nat × Value)} {pc : Nat} {st As : List Value} {o : Option Value} {b : Nat} {fs : List Value} (C : gw_C p s m args meth c cc nL R_Wa D gw_cl tys A) (hM : gw_M l y_Pl_mark w_Pl_mark rm_Pl_mark D gw_cl tys (.ref b :: As) ws w' o) (hR : rm_Pl_mark.frames + 1 ≤ R.frames ∧ 8 + (3 + 11) + rm_Pl_mark.locals ≤ R.locals) (hf : cells + 0 ≤ R.cells ∧ slots + 0 ≤ R.slots) (q0 : Nat) (he : ws[q0]? = some (b, .inr (3, fs))) (hn : As.length = 2) (hW : (st.map fun v => v.category).sum ≤ 8) (hdg : decode cc pc = .ok (.invokevirtual 299, 3)) (kk : gw_W p l e R s m args below meth c D gw_cl A Q cells slots nL w' lv (pc + 3) (o.toList ++ st)) : gw_W p l e R s m args below meth c D gw_cl A Q cells slots nL ws lv pc (As.reverse ++ .ref b :: st) :=
  gw_callV (T := T_Pl) (N := 4) C hM (gw_good tb_538) tb_535 tb_536 tb_537 tb_4 (by decide +kernel) hR hf rfl rfl rfl he hn hW hdg kk
theorem fc_Wa_303 {p : Program} {l : Launch} {e : Env} {R : Room} {s : State} {m : MethodId} {args : Array Value} {below : List Frame} {meth : Method} {c : Code} {Q : State → Prop} {cc : ByteArray} {nL : Nat} {D : va_G} {tys : List (ClassId × FieldType)} {A : Nat → Prop} {cells slots : Nat} {ws w' : va_W} {lv : List (Nat × Value)} {pc : Nat} {st As : List Value} {o : Option Value} {b : Nat} {fs : List Value} (C : gw_C p s m args meth c cc nL R_Wa D gw_cl tys A) (hM : gw_M l y_Pl_heldBy w_Pl_heldBy rm_Pl_heldBy D gw_cl tys (.ref b :: As) ws w' o) (hR : rm_Pl_heldBy.frames + 1 ≤ R.frames ∧ 8 + (2 + 11) + rm_Pl_heldBy.locals ≤ R.locals) (hf : cells + 0 ≤ R.cells ∧ slots + 0 ≤ R.slots) (q0 : Nat) (he : ws[q0]? = some (b, .inr (3, fs))) (hn : As.length = 1) (hW : (st.map fun v => v.category).sum ≤ 8) (hdg : decode cc pc = .ok (.invokevirtual 303, 3)) (kk : gw_W p l e R s m args below meth c D gw_cl A Q cells slots nL w' lv (pc + 3) (o.toList ++ st)) : gw_W p l e R s m args below meth c D gw_cl A Q cells slots nL ws lv pc (As.reverse ++ .ref b :: st) :=
  gw_callV (T := T_Pl) (N := 4) C hM (gw_good tb_542) tb_539 tb_540 tb_541 tb_4 (by decide +kernel) hR hf rfl rfl rfl he hn hW hdg kk
theorem fc_Wa_306 {p : Program} {l : Launch} {e : Env} {R : Room} {s : State} {m : MethodId} {args : Array Value} {below : List Frame} {meth : Method} {c : Code} {Q : State → Prop} {cc : ByteArray} {nL : Nat} {D : va_G} {tys : List (ClassId × FieldType)} {A : Nat → Prop} {cells slots : Nat} {ws w' : va_W} {lv : List (Nat × Value)} {pc : Nat} {st As : List Value} {o : Option Value} {b : Nat} {fs : List Value} (C : gw_C p s m args meth c cc nL R_Wa D gw_cl tys A) (hM : gw_M l y_Pl_outerOf w_Pl_outerOf rm_Pl_outerOf D gw_cl tys (.ref b :: As) ws w' o) (hR : rm_Pl_outerOf.frames + 1 ≤ R.frames ∧ 8 + (2 + 11) + rm_Pl_outerOf.locals ≤ R.locals) (hf : cells + 0 ≤ R.cells ∧ slots + 0 ≤ R.slots) (q0 : Nat) (he : ws[q0]? = some (b, .inr (3, fs))) (hn : As.length = 1) (hW : (st.map fun v => v.category).sum ≤ 8) (hdg : decode cc pc = .ok (.invokevirtual 306, 3)) (kk : gw_W p l e R s m args below meth c D gw_cl A Q cells slots nL w' lv (pc + 3) (o.toList ++ st)) : gw_W p l e R s m args below meth c D gw_cl A Q cells slots nL ws lv pc (As.reverse ++ .ref b :: st) :=
  gw_callV (T := T_Pl) (N := 4) C hM (gw_good tb_554) tb_551 tb_552 tb_553 tb_4 (by decide +kernel) hR hf rfl rfl rfl he hn hW hdg kk
theorem fm_Te_46 {p : Program} {l : Launch} {e : Env} {R : Room} {s : State} {m : MethodId} {args : Array Value} {below : List Frame} {meth : Method} {c : Code} {Q : State → Prop} {cc : ByteArray} {nL : Nat} {D : va_G} {tys : List (ClassId × FieldType)} {A : Nat → Prop} {cells slots : Nat} {ws : va_W} {lv : List (Nat × Value)} {pc : Nat} {st : List Value} {x y : Int32} (C : gw_C p s m args meth c cc nL R_Te D gw_cl tys A) (hR1 : 1 ≤ R.frames) (hR2 : (st.map fun v => v.category).sum + 13 ≤ R.locals) (hc : cells ≤ R.cells) (hs : slots ≤ R.slots) (hdg : decode cc pc = .ok (.invokestatic 46, 3)) (kk : gw_W p l e R s m args below meth c D gw_cl A Q cells slots nL ws lv (pc + 3) (.int (if x < y then y else x) :: st)) : gw_W p l e R s m args below meth c D gw_cl A Q cells slots nL ws lv pc (.int y :: .int x :: st) :=
  fun H locs ls hP hD hS hl => va_mmax C.1 C.2.1 (C.2.2.1.trans hl.1.symm) C.2.2.2.1 (C.2.2.2.2.1 _ tb_432) (C.2.2.2.2.1 _ tb_433) (C.2.2.2.2.1 _ tb_15) (C.2.2.2.2.1 _ (gw_T_all tb_434)) hR1 hR2 hc hs hdg (kk H locs ls hP hD hS hl)
theorem fg_Mo_7 {p : Program} {l : Launch} {e : Env} {R : Room} {s : State} {m : MethodId} {args : Array Value} {below : List Frame} {meth : Method} {c : Code} {Q : State → Prop} {cc : ByteArray} {nL : Nat} {D : va_G} {tys : List (ClassId × FieldType)} {A : Nat → Prop} {cells slots : Nat} {ws : va_W} {lv : List (Nat × Value)} {pc : Nat} {st : List Value} {a : Nat} {fs : List Value} {v : Value} (C : gw_C p s m args meth c cc nL R_Mo D gw_cl tys A) (q0 : Nat) (he : ws[q0]? = some (a, .inr (7, fs))) (hv : fs[1]? = some v) (hdg : decode cc pc = .ok (.getfield 7, 3)) (kk : gw_W p l e R s m args below meth c D gw_cl A Q cells slots nL ws lv (pc + 3) (v :: st)) : gw_W p l e R s m args below meth c D gw_cl A Q cells slots nL ws lv pc (.ref a :: st) :=
  gw_get (K := R_Mo) (T := T_Mo) (N := 48) C 1 i_Mo rfl (by decide) tb_872 q0 he hv hdg kk
theorem fg_Mo_13 {p : Program} {l : Launch} {e : Env} {R : Room} {s : State} {m : MethodId} {args : Array Value} {below : List Frame} {meth : Method} {c : Code} {Q : State → Prop} {cc : ByteArray} {nL : Nat} {D : va_G} {tys : List (ClassId × FieldType)} {A : Nat → Prop} {cells slots : Nat} {ws : va_W} {lv : List (Nat × Value)} {pc : Nat} {st : List Value} {a : Nat} {fs : List Value} {v : Value} (C : gw_C p s m args meth c cc nL R_Mo D gw_cl tys A) (q0 : Nat) (he : ws[q0]? = some (a, .inr (7, fs))) (hv : fs[2]? = some v) (hdg : decode cc pc = .ok (.getfield 13, 3)) (kk : gw_W p l e R s m args below meth c D gw_cl A Q cells slots nL ws lv (pc + 3) (v :: st)) : gw_W p l e R s m args below meth c D gw_cl A Q cells slots nL ws lv pc (.ref a :: st) :=
  gw_get (K := R_Mo) (T := T_Mo) (N := 48) C 2 i_Mo rfl (by decide) tb_873 q0 he hv hdg kk
theorem fg_Mo_16 {p : Program} {l : Launch} {e : Env} {R : Room} {s : State} {m : MethodId} {args : Array Value} {below : List Frame} {meth : Method} {c : Code} {Q : State → Prop} {cc : ByteArray} {nL : Nat} {D : va_G} {tys : List (ClassId × FieldType)} {A : Nat → Prop} {cells slots : Nat} {ws : va_W} {lv : List (Nat × Value)} {pc : Nat} {st : List Value} {a : Nat} {fs : List Value} {v : Value} (C : gw_C p s m args meth c cc nL R_Mo D gw_cl tys A) (q0 : Nat) (he : ws[q0]? = some (a, .inr (7, fs))) (hv : fs[3]? = some v) (hdg : decode cc pc = .ok (.getfield 16, 3)) (kk : gw_W p l e R s m args below meth c D gw_cl A Q cells slots nL ws lv (pc + 3) (v :: st)) : gw_W p l e R s m args below meth c D gw_cl A Q cells slots nL ws lv pc (.ref a :: st) :=
  gw_get (K := R_Mo) (T := T_Mo) (N := 48) C 3 i_Mo rfl (by decide) tb_874 q0 he hv hdg kk
theorem fg_Mo_19 {p : Program} {l : Launch} {e : Env} {R : Room} {s : State} {m : MethodId} {args : Array Value} {below : List Frame} {meth : Method} {c : Code} {Q : State → Prop} {cc : ByteArray} {nL : Nat} {D : va_G} {tys : List (ClassId × FieldType)} {A : Nat → Prop} {cells slots : Nat} {ws : va_W} {lv : List (Nat × Value)} {pc : Nat} {st : List Value} {a : Nat} {fs : List Value} {v : Value} (C : gw_C p s m args meth c cc nL R_Mo D gw_cl tys A) (q0 : Nat) (he : ws[q0]? = some (a, .inr (7, fs))) (hv : fs[4]? = some v) (hdg : decode cc pc = .ok (.getfield 19, 3)) (kk : gw_W p l e R s m args below meth c D gw_cl A Q cells slots nL ws lv (pc + 3) (v :: st)) : gw_W p l e R s m args below meth c D gw_cl A Q cells slots nL ws lv pc (.ref a :: st) :=
  gw_get (K := R_Mo) (T := T_Mo) (N := 48) C 4 i_Mo rfl (by decide) tb_875 q0 he hv hdg kk
theorem fg_Mo_22 {p : Program} {l : Launch} {e : Env} {R : Room} {s : State} {m : MethodId} {args : Array Value} {below : List Frame} {meth : Method} {c : Code} {Q : State → Prop} {cc : ByteArray} {nL : Nat} {D : va_G} {tys : List (ClassId × FieldType)} {A : Nat → Prop} {cells slots : Nat} {ws : va_W} {lv : List (Nat × Value)} {pc : Nat} {st : List Value} {a : Nat} {fs : List Value} {v : Value} (C : gw_C p s m args meth c cc nL R_Mo D gw_cl tys A) (q0 : Nat) (he : ws[q0]? = some (a, .inr (7, fs))) (hv : fs[5]? = some v) (hdg : decode cc pc = .ok (.getfield 22, 3)) (kk : gw_W p l e R s m args below meth c D gw_cl A Q cells slots nL ws lv (pc + 3) (v :: st)) : gw_W p l e R s m args below meth c D gw_cl A Q cells slots nL ws lv pc (.ref a :: st) :=
  gw_get (K := R_Mo) (T := T_Mo) (N := 48) C 5 i_Mo rfl (by decide) tb_876 q0 he hv hdg kk
theorem fg_Mo_26 {p : Program} {l : Launch} {e : Env} {R : Room} {s : State} {m : MethodId} {args : Array Value} {below : List Frame} {meth : Method} {c : Code} {Q : State → Prop} {cc : ByteArray} {nL : Nat} {D : va_G} {tys : List (ClassId × FieldType)} {A : Nat → Prop} {cells slots : Nat} {ws : va_W} {lv : List (Nat × Value)} {pc : Nat} {st : List Value} {a : Nat} {fs : List Value} {v : Value} (C : gw_C p s m args meth c cc nL R_Mo D gw_cl tys A) (q0 : Nat) (he : ws[q0]? = some (a, .inr (7, fs))) (hv : fs[6]? = some v) (hdg : decode cc pc = .ok (.getfield 26, 3)) (kk : gw_W p l e R s m args below meth c D gw_cl A Q cells slots nL ws lv (pc + 3) (v :: st)) : gw_W p l e R s m args below meth c D gw_cl A Q cells slots nL ws lv pc (.ref a :: st) :=
  gw_get (K := R_Mo) (T := T_Mo) (N := 48) C 6 i_Mo rfl (by decide) tb_877 q0 he hv hdg kk
theorem fg_Mo_29 {p : Program} {l : Launch} {e : Env} {R : Room} {s : State} {m : MethodId} {args : Array Value} {below : List Frame} {meth : Method} {c : Code} {Q : State → Prop} {cc : ByteArray} {nL : Nat} {D : va_G} {tys : List (ClassId × FieldType)} {A : Nat → Prop} {cells slots : Nat} {ws : va_W} {lv : List (Nat × Value)} {pc : Nat} {st : List Value} {a : Nat} {fs : List Value} {v : Value} (C : gw_C p s m args meth c cc nL R_Mo D gw_cl tys A) (q0 : Nat) (he : ws[q0]? = some (a, .inr (7, fs))) (hv : fs[9]? = some v) (hdg : decode cc pc = .ok (.getfield 29, 3)) (kk : gw_W p l e R s m args below meth c D gw_cl A Q cells slots nL ws lv (pc + 3) (v :: st)) : gw_W p l e R s m args below meth c D gw_cl A Q cells slots nL ws lv pc (.ref a :: st) :=
  gw_get (K := R_Mo) (T := T_Mo) (N := 48) C 9 i_Mo rfl (by decide) tb_880 q0 he hv hdg kk
theorem fg_Mo_32 {p : Program} {l : Launch} {e : Env} {R : Room} {s : State} {m : MethodId} {args : Array Value} {below : List Frame} {meth : Method} {c : Code} {Q : State → Prop} {cc : ByteArray} {nL : Nat} {D : va_G} {tys : List (ClassId × FieldType)} {A : Nat → Prop} {cells slots : Nat} {ws : va_W} {lv : List (Nat × Value)} {pc : Nat} {st : List Value} {a : Nat} {fs : List Value} {v : Value} (C : gw_C p s m args meth c cc nL R_Mo D gw_cl tys A) (q0 : Nat) (he : ws[q0]? = some (a, .inr (7, fs))) (hv : fs[10]? = some v) (hdg : decode cc pc = .ok (.getfield 32, 3)) (kk : gw_W p l e R s m args below meth c D gw_cl A Q cells slots nL ws lv (pc + 3) (v :: st)) : gw_W p l e R s m args below meth c D gw_cl A Q cells slots nL ws lv pc (.ref a :: st) :=
  gw_get (K := R_Mo) (T := T_Mo) (N := 48) C 10 i_Mo rfl (by decide) tb_881 q0 he hv hdg kk
theorem fg_Mo_35 {p : Program} {l : Launch} {e : Env} {R : Room} {s : State} {m : MethodId} {args : Array Value} {below : List Frame} {meth : Method} {c : Code} {Q : State → Prop} {cc : ByteArray} {nL : Nat} {D : va_G} {tys : List (ClassId × FieldType)} {A : Nat → Prop} {cells slots : Nat} {ws : va_W} {lv : List (Nat × Value)} {pc : Nat} {st : List Value} {a : Nat} {fs : List Value} {v : Value} (C : gw_C p s m args meth c cc nL R_Mo D gw_cl tys A) (q0 : Nat) (he : ws[q0]? = some (a, .inr (7, fs))) (hv : fs[11]? = some v) (hdg : decode cc pc = .ok (.getfield 35, 3)) (kk : gw_W p l e R s m args below meth c D gw_cl A Q cells slots nL ws lv (pc + 3) (v :: st)) : gw_W p l e R s m args below meth c D gw_cl A Q cells slots nL ws lv pc (.ref a :: st) :=
  gw_get (K := R_Mo) (T := T_Mo) (N := 48) C 11 i_Mo rfl (by decide) tb_882 q0 he hv hdg kk
theorem fg_Mo_38 {p : Program} {l : Launch} {e : Env} {R : Room} {s : State} {m : MethodId} {args : Array Value} {below : List Frame} {meth : Method} {c : Code} {Q : State → Prop} {cc : ByteArray} {nL : Nat} {D : va_G} {tys : List (ClassId × FieldType)} {A : Nat → Prop} {cells slots : Nat} {ws : va_W} {lv : List (Nat × Value)} {pc : Nat} {st : List Value} {a : Nat} {fs : List Value} {v : Value} (C : gw_C p s m args meth c cc nL R_Mo D gw_cl tys A) (q0 : Nat) (he : ws[q0]? = some (a, .inr (7, fs))) (hv : fs[12]? = some v) (hdg : decode cc pc = .ok (.getfield 38, 3)) (kk : gw_W p l e R s m args below meth c D gw_cl A Q cells slots nL ws lv (pc + 3) (v :: st)) : gw_W p l e R s m args below meth c D gw_cl A Q cells slots nL ws lv pc (.ref a :: st) :=
  gw_get (K := R_Mo) (T := T_Mo) (N := 48) C 12 i_Mo rfl (by decide) tb_883 q0 he hv hdg kk
theorem fg_Mo_41 {p : Program} {l : Launch} {e : Env} {R : Room} {s : State} {m : MethodId} {args : Array Value} {below : List Frame} {meth : Method} {c : Code} {Q : State → Prop} {cc : ByteArray} {nL : Nat} {D : va_G} {tys : List (ClassId × FieldType)} {A : Nat → Prop} {cells slots : Nat} {ws : va_W} {lv : List (Nat × Value)} {pc : Nat} {st : List Value} {a : Nat} {fs : List Value} {v : Value} (C : gw_C p s m args meth c cc nL R_Mo D gw_cl tys A) (q0 : Nat) (he : ws[q0]? = some (a, .inr (7, fs))) (hv : fs[13]? = some v) (hdg : decode cc pc = .ok (.getfield 41, 3)) (kk : gw_W p l e R s m args below meth c D gw_cl A Q cells slots nL ws lv (pc + 3) (v :: st)) : gw_W p l e R s m args below meth c D gw_cl A Q cells slots nL ws lv pc (.ref a :: st) :=
  gw_get (K := R_Mo) (T := T_Mo) (N := 48) C 13 i_Mo rfl (by decide) tb_884 q0 he hv hdg kk
theorem fg_Mo_44 {p : Program} {l : Launch} {e : Env} {R : Room} {s : State} {m : MethodId} {args : Array Value} {below : List Frame} {meth : Method} {c : Code} {Q : State → Prop} {cc : ByteArray} {nL : Nat} {D : va_G} {tys : List (ClassId × FieldType)} {A : Nat → Prop} {cells slots : Nat} {ws : va_W} {lv : List (Nat × Value)} {pc : Nat} {st : List Value} {a : Nat} {fs : List Value} {v : Value} (C : gw_C p s m args meth c cc nL R_Mo D gw_cl tys A) (q0 : Nat) (he : ws[q0]? = some (a, .inr (7, fs))) (hv : fs[14]? = some v) (hdg : decode cc pc = .ok (.getfield 44, 3)) (kk : gw_W p l e R s m args below meth c D gw_cl A Q cells slots nL ws lv (pc + 3) (v :: st)) : gw_W p l e R s m args below meth c D gw_cl A Q cells slots nL ws lv pc (.ref a :: st) :=
  gw_get (K := R_Mo) (T := T_Mo) (N := 48) C 14 i_Mo rfl (by decide) tb_885 q0 he hv hdg kk
theorem fg_Mo_47 {p : Program} {l : Launch} {e : Env} {R : Room} {s : State} {m : MethodId} {args : Array Value} {below : List Frame} {meth : Method} {c : Code} {Q : State → Prop} {cc : ByteArray} {nL : Nat} {D : va_G} {tys : List (ClassId × FieldType)} {A : Nat → Prop} {cells slots : Nat} {ws : va_W} {lv : List (Nat × Value)} {pc : Nat} {st : List Value} {a : Nat} {fs : List Value} {v : Value} (C : gw_C p s m args meth c cc nL R_Mo D gw_cl tys A) (q0 : Nat) (he : ws[q0]? = some (a, .inr (7, fs))) (hv : fs[15]? = some v) (hdg : decode cc pc = .ok (.getfield 47, 3)) (kk : gw_W p l e R s m args below meth c D gw_cl A Q cells slots nL ws lv (pc + 3) (v :: st)) : gw_W p l e R s m args below meth c D gw_cl A Q cells slots nL ws lv pc (.ref a :: st) :=
  gw_get (K := R_Mo) (T := T_Mo) (N := 48) C 15 i_Mo rfl (by decide) tb_886 q0 he hv hdg kk
theorem fg_Mo_50 {p : Program} {l : Launch} {e : Env} {R : Room} {s : State} {m : MethodId} {args : Array Value} {below : List Frame} {meth : Method} {c : Code} {Q : State → Prop} {cc : ByteArray} {nL : Nat} {D : va_G} {tys : List (ClassId × FieldType)} {A : Nat → Prop} {cells slots : Nat} {ws : va_W} {lv : List (Nat × Value)} {pc : Nat} {st : List Value} {a : Nat} {fs : List Value} {v : Value} (C : gw_C p s m args meth c cc nL R_Mo D gw_cl tys A) (q0 : Nat) (he : ws[q0]? = some (a, .inr (7, fs))) (hv : fs[16]? = some v) (hdg : decode cc pc = .ok (.getfield 50, 3)) (kk : gw_W p l e R s m args below meth c D gw_cl A Q cells slots nL ws lv (pc + 3) (v :: st)) : gw_W p l e R s m args below meth c D gw_cl A Q cells slots nL ws lv pc (.ref a :: st) :=
  gw_get (K := R_Mo) (T := T_Mo) (N := 48) C 16 i_Mo rfl (by decide) tb_887 q0 he hv hdg kk
theorem fg_Mo_53 {p : Program} {l : Launch} {e : Env} {R : Room} {s : State} {m : MethodId} {args : Array Value} {below : List Frame} {meth : Method} {c : Code} {Q : State → Prop} {cc : ByteArray} {nL : Nat} {D : va_G} {tys : List (ClassId × FieldType)} {A : Nat → Prop} {cells slots : Nat} {ws : va_W} {lv : List (Nat × Value)} {pc : Nat} {st : List Value} {a : Nat} {fs : List Value} {v : Value} (C : gw_C p s m args meth c cc nL R_Mo D gw_cl tys A) (q0 : Nat) (he : ws[q0]? = some (a, .inr (7, fs))) (hv : fs[17]? = some v) (hdg : decode cc pc = .ok (.getfield 53, 3)) (kk : gw_W p l e R s m args below meth c D gw_cl A Q cells slots nL ws lv (pc + 3) (v :: st)) : gw_W p l e R s m args below meth c D gw_cl A Q cells slots nL ws lv pc (.ref a :: st) :=
  gw_get (K := R_Mo) (T := T_Mo) (N := 48) C 17 i_Mo rfl (by decide) tb_888 q0 he hv hdg kk
theorem fg_Mo_56 {p : Program} {l : Launch} {e : Env} {R : Room} {s : State} {m : MethodId} {args : Array Value} {below : List Frame} {meth : Method} {c : Code} {Q : State → Prop} {cc : ByteArray} {nL : Nat} {D : va_G} {tys : List (ClassId × FieldType)} {A : Nat → Prop} {cells slots : Nat} {ws : va_W} {lv : List (Nat × Value)} {pc : Nat} {st : List Value} {a : Nat} {fs : List Value} {v : Value} (C : gw_C p s m args meth c cc nL R_Mo D gw_cl tys A) (q0 : Nat) (he : ws[q0]? = some (a, .inr (7, fs))) (hv : fs[18]? = some v) (hdg : decode cc pc = .ok (.getfield 56, 3)) (kk : gw_W p l e R s m args below meth c D gw_cl A Q cells slots nL ws lv (pc + 3) (v :: st)) : gw_W p l e R s m args below meth c D gw_cl A Q cells slots nL ws lv pc (.ref a :: st) :=
  gw_get (K := R_Mo) (T := T_Mo) (N := 48) C 18 i_Mo rfl (by decide) tb_889 q0 he hv hdg kk
theorem fg_Mo_60 {p : Program} {l : Launch} {e : Env} {R : Room} {s : State} {m : MethodId} {args : Array Value} {below : List Frame} {meth : Method} {c : Code} {Q : State → Prop} {cc : ByteArray} {nL : Nat} {D : va_G} {tys : List (ClassId × FieldType)} {A : Nat → Prop} {cells slots : Nat} {ws : va_W} {lv : List (Nat × Value)} {pc : Nat} {st : List Value} {a : Nat} {fs : List Value} {v : Value} (C : gw_C p s m args meth c cc nL R_Mo D gw_cl tys A) (q0 : Nat) (he : ws[q0]? = some (a, .inr (7, fs))) (hv : fs[20]? = some v) (hdg : decode cc pc = .ok (.getfield 60, 3)) (kk : gw_W p l e R s m args below meth c D gw_cl A Q cells slots nL ws lv (pc + 3) (v :: st)) : gw_W p l e R s m args below meth c D gw_cl A Q cells slots nL ws lv pc (.ref a :: st) :=
  gw_get (K := R_Mo) (T := T_Mo) (N := 48) C 20 i_Mo rfl (by decide) tb_891 q0 he hv hdg kk
theorem fg_Mo_63 {p : Program} {l : Launch} {e : Env} {R : Room} {s : State} {m : MethodId} {args : Array Value} {below : List Frame} {meth : Method} {c : Code} {Q : State → Prop} {cc : ByteArray} {nL : Nat} {D : va_G} {tys : List (ClassId × FieldType)} {A : Nat → Prop} {cells slots : Nat} {ws : va_W} {lv : List (Nat × Value)} {pc : Nat} {st : List Value} {a : Nat} {fs : List Value} {v : Value} (C : gw_C p s m args meth c cc nL R_Mo D gw_cl tys A) (q0 : Nat) (he : ws[q0]? = some (a, .inr (7, fs))) (hv : fs[21]? = some v) (hdg : decode cc pc = .ok (.getfield 63, 3)) (kk : gw_W p l e R s m args below meth c D gw_cl A Q cells slots nL ws lv (pc + 3) (v :: st)) : gw_W p l e R s m args below meth c D gw_cl A Q cells slots nL ws lv pc (.ref a :: st) :=
  gw_get (K := R_Mo) (T := T_Mo) (N := 48) C 21 i_Mo rfl (by decide) tb_892 q0 he hv hdg kk
theorem fg_Mo_66 {p : Program} {l : Launch} {e : Env} {R : Room} {s : State} {m : MethodId} {args : Array Value} {below : List Frame} {meth : Method} {c : Code} {Q : State → Prop} {cc : ByteArray} {nL : Nat} {D : va_G} {tys : List (ClassId × FieldType)} {A : Nat → Prop} {cells slots : Nat} {ws : va_W} {lv : List (Nat × Value)} {pc : Nat} {st : List Value} {a : Nat} {fs : List Value} {v : Value} (C : gw_C p s m args meth c cc nL R_Mo D gw_cl tys A) (q0 : Nat) (he : ws[q0]? = some (a, .inr (7, fs))) (hv : fs[24]? = some v) (hdg : decode cc pc = .ok (.getfield 66, 3)) (kk : gw_W p l e R s m args below meth c D gw_cl A Q cells slots nL ws lv (pc + 3) (v :: st)) : gw_W p l e R s m args below meth c D gw_cl A Q cells slots nL ws lv pc (.ref a :: st) :=
  gw_get (K := R_Mo) (T := T_Mo) (N := 48) C 24 i_Mo rfl (by decide) tb_895 q0 he hv hdg kk
theorem fg_Mo_69 {p : Program} {l : Launch} {e : Env} {R : Room} {s : State} {m : MethodId} {args : Array Value} {below : List Frame} {meth : Method} {c : Code} {Q : State → Prop} {cc : ByteArray} {nL : Nat} {D : va_G} {tys : List (ClassId × FieldType)} {A : Nat → Prop} {cells slots : Nat} {ws : va_W} {lv : List (Nat × Value)} {pc : Nat} {st : List Value} {a : Nat} {fs : List Value} {v : Value} (C : gw_C p s m args meth c cc nL R_Mo D gw_cl tys A) (q0 : Nat) (he : ws[q0]? = some (a, .inr (7, fs))) (hv : fs[25]? = some v) (hdg : decode cc pc = .ok (.getfield 69, 3)) (kk : gw_W p l e R s m args below meth c D gw_cl A Q cells slots nL ws lv (pc + 3) (v :: st)) : gw_W p l e R s m args below meth c D gw_cl A Q cells slots nL ws lv pc (.ref a :: st) :=
  gw_get (K := R_Mo) (T := T_Mo) (N := 48) C 25 i_Mo rfl (by decide) tb_896 q0 he hv hdg kk
theorem fg_Mo_72 {p : Program} {l : Launch} {e : Env} {R : Room} {s : State} {m : MethodId} {args : Array Value} {below : List Frame} {meth : Method} {c : Code} {Q : State → Prop} {cc : ByteArray} {nL : Nat} {D : va_G} {tys : List (ClassId × FieldType)} {A : Nat → Prop} {cells slots : Nat} {ws : va_W} {lv : List (Nat × Value)} {pc : Nat} {st : List Value} {a : Nat} {fs : List Value} {v : Value} (C : gw_C p s m args meth c cc nL R_Mo D gw_cl tys A) (q0 : Nat) (he : ws[q0]? = some (a, .inr (7, fs))) (hv : fs[26]? = some v) (hdg : decode cc pc = .ok (.getfield 72, 3)) (kk : gw_W p l e R s m args below meth c D gw_cl A Q cells slots nL ws lv (pc + 3) (v :: st)) : gw_W p l e R s m args below meth c D gw_cl A Q cells slots nL ws lv pc (.ref a :: st) :=
  gw_get (K := R_Mo) (T := T_Mo) (N := 48) C 26 i_Mo rfl (by decide) tb_897 q0 he hv hdg kk
theorem fg_Mo_75 {p : Program} {l : Launch} {e : Env} {R : Room} {s : State} {m : MethodId} {args : Array Value} {below : List Frame} {meth : Method} {c : Code} {Q : State → Prop} {cc : ByteArray} {nL : Nat} {D : va_G} {tys : List (ClassId × FieldType)} {A : Nat → Prop} {cells slots : Nat} {ws : va_W} {lv : List (Nat × Value)} {pc : Nat} {st : List Value} {a : Nat} {fs : List Value} {v : Value} (C : gw_C p s m args meth c cc nL R_Mo D gw_cl tys A) (q0 : Nat) (he : ws[q0]? = some (a, .inr (7, fs))) (hv : fs[27]? = some v) (hdg : decode cc pc = .ok (.getfield 75, 3)) (kk : gw_W p l e R s m args below meth c D gw_cl A Q cells slots nL ws lv (pc + 3) (v :: st)) : gw_W p l e R s m args below meth c D gw_cl A Q cells slots nL ws lv pc (.ref a :: st) :=
  gw_get (K := R_Mo) (T := T_Mo) (N := 48) C 27 i_Mo rfl (by decide) tb_898 q0 he hv hdg kk
theorem fg_Mo_78 {p : Program} {l : Launch} {e : Env} {R : Room} {s : State} {m : MethodId} {args : Array Value} {below : List Frame} {meth : Method} {c : Code} {Q : State → Prop} {cc : ByteArray} {nL : Nat} {D : va_G} {tys : List (ClassId × FieldType)} {A : Nat → Prop} {cells slots : Nat} {ws : va_W} {lv : List (Nat × Value)} {pc : Nat} {st : List Value} {a : Nat} {fs : List Value} {v : Value} (C : gw_C p s m args meth c cc nL R_Mo D gw_cl tys A) (q0 : Nat) (he : ws[q0]? = some (a, .inr (7, fs))) (hv : fs[44]? = some v) (hdg : decode cc pc = .ok (.getfield 78, 3)) (kk : gw_W p l e R s m args below meth c D gw_cl A Q cells slots nL ws lv (pc + 3) (v :: st)) : gw_W p l e R s m args below meth c D gw_cl A Q cells slots nL ws lv pc (.ref a :: st) :=
  gw_get (K := R_Mo) (T := T_Mo) (N := 48) C 44 i_Mo rfl (by decide) tb_915 q0 he hv hdg kk
theorem fg_Mo_81 {p : Program} {l : Launch} {e : Env} {R : Room} {s : State} {m : MethodId} {args : Array Value} {below : List Frame} {meth : Method} {c : Code} {Q : State → Prop} {cc : ByteArray} {nL : Nat} {D : va_G} {tys : List (ClassId × FieldType)} {A : Nat → Prop} {cells slots : Nat} {ws : va_W} {lv : List (Nat × Value)} {pc : Nat} {st : List Value} {a : Nat} {fs : List Value} {v : Value} (C : gw_C p s m args meth c cc nL R_Mo D gw_cl tys A) (q0 : Nat) (he : ws[q0]? = some (a, .inr (7, fs))) (hv : fs[45]? = some v) (hdg : decode cc pc = .ok (.getfield 81, 3)) (kk : gw_W p l e R s m args below meth c D gw_cl A Q cells slots nL ws lv (pc + 3) (v :: st)) : gw_W p l e R s m args below meth c D gw_cl A Q cells slots nL ws lv pc (.ref a :: st) :=
  gw_get (K := R_Mo) (T := T_Mo) (N := 48) C 45 i_Mo rfl (by decide) tb_916 q0 he hv hdg kk
theorem fg_Mo_84 {p : Program} {l : Launch} {e : Env} {R : Room} {s : State} {m : MethodId} {args : Array Value} {below : List Frame} {meth : Method} {c : Code} {Q : State → Prop} {cc : ByteArray} {nL : Nat} {D : va_G} {tys : List (ClassId × FieldType)} {A : Nat → Prop} {cells slots : Nat} {ws : va_W} {lv : List (Nat × Value)} {pc : Nat} {st : List Value} {a : Nat} {fs : List Value} {v : Value} (C : gw_C p s m args meth c cc nL R_Mo D gw_cl tys A) (q0 : Nat) (he : ws[q0]? = some (a, .inr (7, fs))) (hv : fs[46]? = some v) (hdg : decode cc pc = .ok (.getfield 84, 3)) (kk : gw_W p l e R s m args below meth c D gw_cl A Q cells slots nL ws lv (pc + 3) (v :: st)) : gw_W p l e R s m args below meth c D gw_cl A Q cells slots nL ws lv pc (.ref a :: st) :=
  gw_get (K := R_Mo) (T := T_Mo) (N := 48) C 46 i_Mo rfl (by decide) tb_917 q0 he hv hdg kk
theorem fg_Mo_87 {p : Program} {l : Launch} {e : Env} {R : Room} {s : State} {m : MethodId} {args : Array Value} {below : List Frame} {meth : Method} {c : Code} {Q : State → Prop} {cc : ByteArray} {nL : Nat} {D : va_G} {tys : List (ClassId × FieldType)} {A : Nat → Prop} {cells slots : Nat} {ws : va_W} {lv : List (Nat × Value)} {pc : Nat} {st : List Value} {a : Nat} {fs : List Value} {v : Value} (C : gw_C p s m args meth c cc nL R_Mo D gw_cl tys A) (q0 : Nat) (he : ws[q0]? = some (a, .inr (7, fs))) (hv : fs[43]? = some v) (hdg : decode cc pc = .ok (.getfield 87, 3)) (kk : gw_W p l e R s m args below meth c D gw_cl A Q cells slots nL ws lv (pc + 3) (v :: st)) : gw_W p l e R s m args below meth c D gw_cl A Q cells slots nL ws lv pc (.ref a :: st) :=
  gw_get (K := R_Mo) (T := T_Mo) (N := 48) C 43 i_Mo rfl (by decide) tb_914 q0 he hv hdg kk
theorem fp_Mo_87 {p : Program} {l : Launch} {e : Env} {R : Room} {s : State} {m : MethodId} {args : Array Value} {below : List Frame} {meth : Method} {c : Code} {Q : State → Prop} {cc : ByteArray} {nL : Nat} {D : va_G} {tys : List (ClassId × FieldType)} {A : Nat → Prop} {cells slots : Nat} {ws : va_W} {lv : List (Nat × Value)} {pc : Nat} {st : List Value} {a : Nat} {fs : List Value} {v : Value} {ws' : va_W} (C : gw_C p s m args meth c cc nL R_Mo D gw_cl tys A) (q0 : Nat) (he : ws[q0]? = some (a, .inr (7, fs))) (hn : narrow (.int) v = v) (hfit : fits (.int) v = true) (hl0 : 43 < fs.length) (hdg : decode cc pc = .ok (.putfield 87, 3)) (hw : ws.set q0 (a, .inr (7, fs.set 43 v)) = ws') (kk : gw_W p l e R s m args below meth c D gw_cl A Q cells slots nL ws' lv (pc + 3) st) : gw_W p l e R s m args below meth c D gw_cl A Q cells slots nL ws lv pc (v :: .ref a :: st) :=
  gw_put (K := R_Mo) (T := T_Mo) (N := 48) (ty := .int) C 43 i_Mo t_Mo t_Mo_ok n_Mo rfl (by decide) tb_914 rfl (by decide +kernel) q0 he hn hfit hl0 hdg hw kk
theorem fg_Mo_91 {p : Program} {l : Launch} {e : Env} {R : Room} {s : State} {m : MethodId} {args : Array Value} {below : List Frame} {meth : Method} {c : Code} {Q : State → Prop} {cc : ByteArray} {nL : Nat} {D : va_G} {tys : List (ClassId × FieldType)} {A : Nat → Prop} {cells slots : Nat} {ws : va_W} {lv : List (Nat × Value)} {pc : Nat} {st : List Value} {a : Nat} {fs : List Value} {v : Value} (C : gw_C p s m args meth c cc nL R_Mo D gw_cl tys A) (q0 : Nat) (he : ws[q0]? = some (a, .inr (7, fs))) (hv : fs[0]? = some v) (hdg : decode cc pc = .ok (.getfield 91, 3)) (kk : gw_W p l e R s m args below meth c D gw_cl A Q cells slots nL ws lv (pc + 3) (v :: st)) : gw_W p l e R s m args below meth c D gw_cl A Q cells slots nL ws lv pc (.ref a :: st) :=
  gw_get (K := R_Mo) (T := T_Mo) (N := 48) C 0 i_Mo rfl (by decide) tb_871 q0 he hv hdg kk
theorem fp_Mo_91 {p : Program} {l : Launch} {e : Env} {R : Room} {s : State} {m : MethodId} {args : Array Value} {below : List Frame} {meth : Method} {c : Code} {Q : State → Prop} {cc : ByteArray} {nL : Nat} {D : va_G} {tys : List (ClassId × FieldType)} {A : Nat → Prop} {cells slots : Nat} {ws : va_W} {lv : List (Nat × Value)} {pc : Nat} {st : List Value} {a : Nat} {fs : List Value} {v : Value} {ws' : va_W} (C : gw_C p s m args meth c cc nL R_Mo D gw_cl tys A) (q0 : Nat) (he : ws[q0]? = some (a, .inr (7, fs))) (hn : narrow (.int) v = v) (hfit : fits (.int) v = true) (hl0 : 0 < fs.length) (hdg : decode cc pc = .ok (.putfield 91, 3)) (hw : ws.set q0 (a, .inr (7, fs.set 0 v)) = ws') (kk : gw_W p l e R s m args below meth c D gw_cl A Q cells slots nL ws' lv (pc + 3) st) : gw_W p l e R s m args below meth c D gw_cl A Q cells slots nL ws lv pc (v :: .ref a :: st) :=
  gw_put (K := R_Mo) (T := T_Mo) (N := 48) (ty := .int) C 0 i_Mo t_Mo t_Mo_ok n_Mo rfl (by decide) tb_871 rfl (by decide +kernel) q0 he hn hfit hl0 hdg hw kk
theorem fg_Mo_113 {p : Program} {l : Launch} {e : Env} {R : Room} {s : State} {m : MethodId} {args : Array Value} {below : List Frame} {meth : Method} {c : Code} {Q : State → Prop} {cc : ByteArray} {nL : Nat} {D : va_G} {tys : List (ClassId × FieldType)} {A : Nat → Prop} {cells slots : Nat} {ws : va_W} {lv : List (Nat × Value)} {pc : Nat} {st : List Value} {a : Nat} {fs : List Value} {v : Value} (C : gw_C p s m args meth c cc nL R_Mo D gw_cl tys A) (q0 : Nat) (he : ws[q0]? = some (a, .inr (7, fs))) (hv : fs[7]? = some v) (hdg : decode cc pc = .ok (.getfield 113, 3)) (kk : gw_W p l e R s m args below meth c D gw_cl A Q cells slots nL ws lv (pc + 3) (v :: st)) : gw_W p l e R s m args below meth c D gw_cl A Q cells slots nL ws lv pc (.ref a :: st) :=
  gw_get (K := R_Mo) (T := T_Mo) (N := 48) C 7 i_Mo rfl (by decide) tb_878 q0 he hv hdg kk
theorem fp_Mo_113 {p : Program} {l : Launch} {e : Env} {R : Room} {s : State} {m : MethodId} {args : Array Value} {below : List Frame} {meth : Method} {c : Code} {Q : State → Prop} {cc : ByteArray} {nL : Nat} {D : va_G} {tys : List (ClassId × FieldType)} {A : Nat → Prop} {cells slots : Nat} {ws : va_W} {lv : List (Nat × Value)} {pc : Nat} {st : List Value} {a : Nat} {fs : List Value} {v : Value} {ws' : va_W} (C : gw_C p s m args meth c cc nL R_Mo D gw_cl tys A) (q0 : Nat) (he : ws[q0]? = some (a, .inr (7, fs))) (hn : narrow (.int) v = v) (hfit : fits (.int) v = true) (hl0 : 7 < fs.length) (hdg : decode cc pc = .ok (.putfield 113, 3)) (hw : ws.set q0 (a, .inr (7, fs.set 7 v)) = ws') (kk : gw_W p l e R s m args below meth c D gw_cl A Q cells slots nL ws' lv (pc + 3) st) : gw_W p l e R s m args below meth c D gw_cl A Q cells slots nL ws lv pc (v :: .ref a :: st) :=
  gw_put (K := R_Mo) (T := T_Mo) (N := 48) (ty := .int) C 7 i_Mo t_Mo t_Mo_ok n_Mo rfl (by decide) tb_878 rfl (by decide +kernel) q0 he hn hfit hl0 hdg hw kk
theorem fg_Mo_116 {p : Program} {l : Launch} {e : Env} {R : Room} {s : State} {m : MethodId} {args : Array Value} {below : List Frame} {meth : Method} {c : Code} {Q : State → Prop} {cc : ByteArray} {nL : Nat} {D : va_G} {tys : List (ClassId × FieldType)} {A : Nat → Prop} {cells slots : Nat} {ws : va_W} {lv : List (Nat × Value)} {pc : Nat} {st : List Value} {a : Nat} {fs : List Value} {v : Value} (C : gw_C p s m args meth c cc nL R_Mo D gw_cl tys A) (q0 : Nat) (he : ws[q0]? = some (a, .inr (7, fs))) (hv : fs[8]? = some v) (hdg : decode cc pc = .ok (.getfield 116, 3)) (kk : gw_W p l e R s m args below meth c D gw_cl A Q cells slots nL ws lv (pc + 3) (v :: st)) : gw_W p l e R s m args below meth c D gw_cl A Q cells slots nL ws lv pc (.ref a :: st) :=
  gw_get (K := R_Mo) (T := T_Mo) (N := 48) C 8 i_Mo rfl (by decide) tb_879 q0 he hv hdg kk
theorem fp_Mo_116 {p : Program} {l : Launch} {e : Env} {R : Room} {s : State} {m : MethodId} {args : Array Value} {below : List Frame} {meth : Method} {c : Code} {Q : State → Prop} {cc : ByteArray} {nL : Nat} {D : va_G} {tys : List (ClassId × FieldType)} {A : Nat → Prop} {cells slots : Nat} {ws : va_W} {lv : List (Nat × Value)} {pc : Nat} {st : List Value} {a : Nat} {fs : List Value} {v : Value} {ws' : va_W} (C : gw_C p s m args meth c cc nL R_Mo D gw_cl tys A) (q0 : Nat) (he : ws[q0]? = some (a, .inr (7, fs))) (hn : narrow (.int) v = v) (hfit : fits (.int) v = true) (hl0 : 8 < fs.length) (hdg : decode cc pc = .ok (.putfield 116, 3)) (hw : ws.set q0 (a, .inr (7, fs.set 8 v)) = ws') (kk : gw_W p l e R s m args below meth c D gw_cl A Q cells slots nL ws' lv (pc + 3) st) : gw_W p l e R s m args below meth c D gw_cl A Q cells slots nL ws lv pc (v :: .ref a :: st) :=
  gw_put (K := R_Mo) (T := T_Mo) (N := 48) (ty := .int) C 8 i_Mo t_Mo t_Mo_ok n_Mo rfl (by decide) tb_879 rfl (by decide +kernel) q0 he hn hfit hl0 hdg hw kk
theorem fg_Mo_119 {p : Program} {l : Launch} {e : Env} {R : Room} {s : State} {m : MethodId} {args : Array Value} {below : List Frame} {meth : Method} {c : Code} {Q : State → Prop} {cc : ByteArray} {nL : Nat} {D : va_G} {tys : List (ClassId × FieldType)} {A : Nat → Prop} {cells slots : Nat} {ws : va_W} {lv : List (Nat × Value)} {pc : Nat} {st : List Value} {a : Nat} {fs : List Value} {v : Value} (C : gw_C p s m args meth c cc nL R_Mo D gw_cl tys A) (q0 : Nat) (he : ws[q0]? = some (a, .inr (7, fs))) (hv : fs[19]? = some v) (hdg : decode cc pc = .ok (.getfield 119, 3)) (kk : gw_W p l e R s m args below meth c D gw_cl A Q cells slots nL ws lv (pc + 3) (v :: st)) : gw_W p l e R s m args below meth c D gw_cl A Q cells slots nL ws lv pc (.ref a :: st) :=
  gw_get (K := R_Mo) (T := T_Mo) (N := 48) C 19 i_Mo rfl (by decide) tb_890 q0 he hv hdg kk
theorem fp_Mo_119 {p : Program} {l : Launch} {e : Env} {R : Room} {s : State} {m : MethodId} {args : Array Value} {below : List Frame} {meth : Method} {c : Code} {Q : State → Prop} {cc : ByteArray} {nL : Nat} {D : va_G} {tys : List (ClassId × FieldType)} {A : Nat → Prop} {cells slots : Nat} {ws : va_W} {lv : List (Nat × Value)} {pc : Nat} {st : List Value} {a : Nat} {fs : List Value} {v : Value} {ws' : va_W} (C : gw_C p s m args meth c cc nL R_Mo D gw_cl tys A) (q0 : Nat) (he : ws[q0]? = some (a, .inr (7, fs))) (hn : narrow (.int) v = v) (hfit : fits (.int) v = true) (hl0 : 19 < fs.length) (hdg : decode cc pc = .ok (.putfield 119, 3)) (hw : ws.set q0 (a, .inr (7, fs.set 19 v)) = ws') (kk : gw_W p l e R s m args below meth c D gw_cl A Q cells slots nL ws' lv (pc + 3) st) : gw_W p l e R s m args below meth c D gw_cl A Q cells slots nL ws lv pc (v :: .ref a :: st) :=
  gw_put (K := R_Mo) (T := T_Mo) (N := 48) (ty := .int) C 19 i_Mo t_Mo t_Mo_ok n_Mo rfl (by decide) tb_890 rfl (by decide +kernel) q0 he hn hfit hl0 hdg hw kk
theorem fg_Mo_122 {p : Program} {l : Launch} {e : Env} {R : Room} {s : State} {m : MethodId} {args : Array Value} {below : List Frame} {meth : Method} {c : Code} {Q : State → Prop} {cc : ByteArray} {nL : Nat} {D : va_G} {tys : List (ClassId × FieldType)} {A : Nat → Prop} {cells slots : Nat} {ws : va_W} {lv : List (Nat × Value)} {pc : Nat} {st : List Value} {a : Nat} {fs : List Value} {v : Value} (C : gw_C p s m args meth c cc nL R_Mo D gw_cl tys A) (q0 : Nat) (he : ws[q0]? = some (a, .inr (7, fs))) (hv : fs[22]? = some v) (hdg : decode cc pc = .ok (.getfield 122, 3)) (kk : gw_W p l e R s m args below meth c D gw_cl A Q cells slots nL ws lv (pc + 3) (v :: st)) : gw_W p l e R s m args below meth c D gw_cl A Q cells slots nL ws lv pc (.ref a :: st) :=
  gw_get (K := R_Mo) (T := T_Mo) (N := 48) C 22 i_Mo rfl (by decide) tb_893 q0 he hv hdg kk
theorem fp_Mo_122 {p : Program} {l : Launch} {e : Env} {R : Room} {s : State} {m : MethodId} {args : Array Value} {below : List Frame} {meth : Method} {c : Code} {Q : State → Prop} {cc : ByteArray} {nL : Nat} {D : va_G} {tys : List (ClassId × FieldType)} {A : Nat → Prop} {cells slots : Nat} {ws : va_W} {lv : List (Nat × Value)} {pc : Nat} {st : List Value} {a : Nat} {fs : List Value} {v : Value} {ws' : va_W} (C : gw_C p s m args meth c cc nL R_Mo D gw_cl tys A) (q0 : Nat) (he : ws[q0]? = some (a, .inr (7, fs))) (hn : narrow (.int) v = v) (hfit : fits (.int) v = true) (hl0 : 22 < fs.length) (hdg : decode cc pc = .ok (.putfield 122, 3)) (hw : ws.set q0 (a, .inr (7, fs.set 22 v)) = ws') (kk : gw_W p l e R s m args below meth c D gw_cl A Q cells slots nL ws' lv (pc + 3) st) : gw_W p l e R s m args below meth c D gw_cl A Q cells slots nL ws lv pc (v :: .ref a :: st) :=
  gw_put (K := R_Mo) (T := T_Mo) (N := 48) (ty := .int) C 22 i_Mo t_Mo t_Mo_ok n_Mo rfl (by decide) tb_893 rfl (by decide +kernel) q0 he hn hfit hl0 hdg hw kk
theorem fg_Mo_125 {p : Program} {l : Launch} {e : Env} {R : Room} {s : State} {m : MethodId} {args : Array Value} {below : List Frame} {meth : Method} {c : Code} {Q : State → Prop} {cc : ByteArray} {nL : Nat} {D : va_G} {tys : List (ClassId × FieldType)} {A : Nat → Prop} {cells slots : Nat} {ws : va_W} {lv : List (Nat × Value)} {pc : Nat} {st : List Value} {a : Nat} {fs : List Value} {v : Value} (C : gw_C p s m args meth c cc nL R_Mo D gw_cl tys A) (q0 : Nat) (he : ws[q0]? = some (a, .inr (7, fs))) (hv : fs[23]? = some v) (hdg : decode cc pc = .ok (.getfield 125, 3)) (kk : gw_W p l e R s m args below meth c D gw_cl A Q cells slots nL ws lv (pc + 3) (v :: st)) : gw_W p l e R s m args below meth c D gw_cl A Q cells slots nL ws lv pc (.ref a :: st) :=
  gw_get (K := R_Mo) (T := T_Mo) (N := 48) C 23 i_Mo rfl (by decide) tb_894 q0 he hv hdg kk
theorem fp_Mo_125 {p : Program} {l : Launch} {e : Env} {R : Room} {s : State} {m : MethodId} {args : Array Value} {below : List Frame} {meth : Method} {c : Code} {Q : State → Prop} {cc : ByteArray} {nL : Nat} {D : va_G} {tys : List (ClassId × FieldType)} {A : Nat → Prop} {cells slots : Nat} {ws : va_W} {lv : List (Nat × Value)} {pc : Nat} {st : List Value} {a : Nat} {fs : List Value} {v : Value} {ws' : va_W} (C : gw_C p s m args meth c cc nL R_Mo D gw_cl tys A) (q0 : Nat) (he : ws[q0]? = some (a, .inr (7, fs))) (hn : narrow (.int) v = v) (hfit : fits (.int) v = true) (hl0 : 23 < fs.length) (hdg : decode cc pc = .ok (.putfield 125, 3)) (hw : ws.set q0 (a, .inr (7, fs.set 23 v)) = ws') (kk : gw_W p l e R s m args below meth c D gw_cl A Q cells slots nL ws' lv (pc + 3) st) : gw_W p l e R s m args below meth c D gw_cl A Q cells slots nL ws lv pc (v :: .ref a :: st) :=
  gw_put (K := R_Mo) (T := T_Mo) (N := 48) (ty := .int) C 23 i_Mo t_Mo t_Mo_ok n_Mo rfl (by decide) tb_894 rfl (by decide +kernel) q0 he hn hfit hl0 hdg hw kk
theorem fg_Mo_128 {p : Program} {l : Launch} {e : Env} {R : Room} {s : State} {m : MethodId} {args : Array Value} {below : List Frame} {meth : Method} {c : Code} {Q : State → Prop} {cc : ByteArray} {nL : Nat} {D : va_G} {tys : List (ClassId × FieldType)} {A : Nat → Prop} {cells slots : Nat} {ws : va_W} {lv : List (Nat × Value)} {pc : Nat} {st : List Value} {a : Nat} {fs : List Value} {v : Value} (C : gw_C p s m args meth c cc nL R_Mo D gw_cl tys A) (q0 : Nat) (he : ws[q0]? = some (a, .inr (7, fs))) (hv : fs[38]? = some v) (hdg : decode cc pc = .ok (.getfield 128, 3)) (kk : gw_W p l e R s m args below meth c D gw_cl A Q cells slots nL ws lv (pc + 3) (v :: st)) : gw_W p l e R s m args below meth c D gw_cl A Q cells slots nL ws lv pc (.ref a :: st) :=
  gw_get (K := R_Mo) (T := T_Mo) (N := 48) C 38 i_Mo rfl (by decide) tb_909 q0 he hv hdg kk
theorem fp_Mo_128 {p : Program} {l : Launch} {e : Env} {R : Room} {s : State} {m : MethodId} {args : Array Value} {below : List Frame} {meth : Method} {c : Code} {Q : State → Prop} {cc : ByteArray} {nL : Nat} {D : va_G} {tys : List (ClassId × FieldType)} {A : Nat → Prop} {cells slots : Nat} {ws : va_W} {lv : List (Nat × Value)} {pc : Nat} {st : List Value} {a : Nat} {fs : List Value} {v : Value} {ws' : va_W} (C : gw_C p s m args meth c cc nL R_Mo D gw_cl tys A) (q0 : Nat) (he : ws[q0]? = some (a, .inr (7, fs))) (hn : narrow (.int) v = v) (hfit : fits (.int) v = true) (hl0 : 38 < fs.length) (hdg : decode cc pc = .ok (.putfield 128, 3)) (hw : ws.set q0 (a, .inr (7, fs.set 38 v)) = ws') (kk : gw_W p l e R s m args below meth c D gw_cl A Q cells slots nL ws' lv (pc + 3) st) : gw_W p l e R s m args below meth c D gw_cl A Q cells slots nL ws lv pc (v :: .ref a :: st) :=
  gw_put (K := R_Mo) (T := T_Mo) (N := 48) (ty := .int) C 38 i_Mo t_Mo t_Mo_ok n_Mo rfl (by decide) tb_909 rfl (by decide +kernel) q0 he hn hfit hl0 hdg hw kk
theorem fg_Mo_131 {p : Program} {l : Launch} {e : Env} {R : Room} {s : State} {m : MethodId} {args : Array Value} {below : List Frame} {meth : Method} {c : Code} {Q : State → Prop} {cc : ByteArray} {nL : Nat} {D : va_G} {tys : List (ClassId × FieldType)} {A : Nat → Prop} {cells slots : Nat} {ws : va_W} {lv : List (Nat × Value)} {pc : Nat} {st : List Value} {a : Nat} {fs : List Value} {v : Value} (C : gw_C p s m args meth c cc nL R_Mo D gw_cl tys A) (q0 : Nat) (he : ws[q0]? = some (a, .inr (7, fs))) (hv : fs[39]? = some v) (hdg : decode cc pc = .ok (.getfield 131, 3)) (kk : gw_W p l e R s m args below meth c D gw_cl A Q cells slots nL ws lv (pc + 3) (v :: st)) : gw_W p l e R s m args below meth c D gw_cl A Q cells slots nL ws lv pc (.ref a :: st) :=
  gw_get (K := R_Mo) (T := T_Mo) (N := 48) C 39 i_Mo rfl (by decide) tb_910 q0 he hv hdg kk
theorem fp_Mo_131 {p : Program} {l : Launch} {e : Env} {R : Room} {s : State} {m : MethodId} {args : Array Value} {below : List Frame} {meth : Method} {c : Code} {Q : State → Prop} {cc : ByteArray} {nL : Nat} {D : va_G} {tys : List (ClassId × FieldType)} {A : Nat → Prop} {cells slots : Nat} {ws : va_W} {lv : List (Nat × Value)} {pc : Nat} {st : List Value} {a : Nat} {fs : List Value} {v : Value} {ws' : va_W} (C : gw_C p s m args meth c cc nL R_Mo D gw_cl tys A) (q0 : Nat) (he : ws[q0]? = some (a, .inr (7, fs))) (hn : narrow (.int) v = v) (hfit : fits (.int) v = true) (hl0 : 39 < fs.length) (hdg : decode cc pc = .ok (.putfield 131, 3)) (hw : ws.set q0 (a, .inr (7, fs.set 39 v)) = ws') (kk : gw_W p l e R s m args below meth c D gw_cl A Q cells slots nL ws' lv (pc + 3) st) : gw_W p l e R s m args below meth c D gw_cl A Q cells slots nL ws lv pc (v :: .ref a :: st) :=
  gw_put (K := R_Mo) (T := T_Mo) (N := 48) (ty := .int) C 39 i_Mo t_Mo t_Mo_ok n_Mo rfl (by decide) tb_910 rfl (by decide +kernel) q0 he hn hfit hl0 hdg hw kk
theorem fg_Mo_134 {p : Program} {l : Launch} {e : Env} {R : Room} {s : State} {m : MethodId} {args : Array Value} {below : List Frame} {meth : Method} {c : Code} {Q : State → Prop} {cc : ByteArray} {nL : Nat} {D : va_G} {tys : List (ClassId × FieldType)} {A : Nat → Prop} {cells slots : Nat} {ws : va_W} {lv : List (Nat × Value)} {pc : Nat} {st : List Value} {a : Nat} {fs : List Value} {v : Value} (C : gw_C p s m args meth c cc nL R_Mo D gw_cl tys A) (q0 : Nat) (he : ws[q0]? = some (a, .inr (7, fs))) (hv : fs[40]? = some v) (hdg : decode cc pc = .ok (.getfield 134, 3)) (kk : gw_W p l e R s m args below meth c D gw_cl A Q cells slots nL ws lv (pc + 3) (v :: st)) : gw_W p l e R s m args below meth c D gw_cl A Q cells slots nL ws lv pc (.ref a :: st) :=
  gw_get (K := R_Mo) (T := T_Mo) (N := 48) C 40 i_Mo rfl (by decide) tb_911 q0 he hv hdg kk
theorem fp_Mo_134 {p : Program} {l : Launch} {e : Env} {R : Room} {s : State} {m : MethodId} {args : Array Value} {below : List Frame} {meth : Method} {c : Code} {Q : State → Prop} {cc : ByteArray} {nL : Nat} {D : va_G} {tys : List (ClassId × FieldType)} {A : Nat → Prop} {cells slots : Nat} {ws : va_W} {lv : List (Nat × Value)} {pc : Nat} {st : List Value} {a : Nat} {fs : List Value} {v : Value} {ws' : va_W} (C : gw_C p s m args meth c cc nL R_Mo D gw_cl tys A) (q0 : Nat) (he : ws[q0]? = some (a, .inr (7, fs))) (hn : narrow (.int) v = v) (hfit : fits (.int) v = true) (hl0 : 40 < fs.length) (hdg : decode cc pc = .ok (.putfield 134, 3)) (hw : ws.set q0 (a, .inr (7, fs.set 40 v)) = ws') (kk : gw_W p l e R s m args below meth c D gw_cl A Q cells slots nL ws' lv (pc + 3) st) : gw_W p l e R s m args below meth c D gw_cl A Q cells slots nL ws lv pc (v :: .ref a :: st) :=
  gw_put (K := R_Mo) (T := T_Mo) (N := 48) (ty := .int) C 40 i_Mo t_Mo t_Mo_ok n_Mo rfl (by decide) tb_911 rfl (by decide +kernel) q0 he hn hfit hl0 hdg hw kk
theorem fg_Mo_137 {p : Program} {l : Launch} {e : Env} {R : Room} {s : State} {m : MethodId} {args : Array Value} {below : List Frame} {meth : Method} {c : Code} {Q : State → Prop} {cc : ByteArray} {nL : Nat} {D : va_G} {tys : List (ClassId × FieldType)} {A : Nat → Prop} {cells slots : Nat} {ws : va_W} {lv : List (Nat × Value)} {pc : Nat} {st : List Value} {a : Nat} {fs : List Value} {v : Value} (C : gw_C p s m args meth c cc nL R_Mo D gw_cl tys A) (q0 : Nat) (he : ws[q0]? = some (a, .inr (7, fs))) (hv : fs[37]? = some v) (hdg : decode cc pc = .ok (.getfield 137, 3)) (kk : gw_W p l e R s m args below meth c D gw_cl A Q cells slots nL ws lv (pc + 3) (v :: st)) : gw_W p l e R s m args below meth c D gw_cl A Q cells slots nL ws lv pc (.ref a :: st) :=
  gw_get (K := R_Mo) (T := T_Mo) (N := 48) C 37 i_Mo rfl (by decide) tb_908 q0 he hv hdg kk
theorem fp_Mo_137 {p : Program} {l : Launch} {e : Env} {R : Room} {s : State} {m : MethodId} {args : Array Value} {below : List Frame} {meth : Method} {c : Code} {Q : State → Prop} {cc : ByteArray} {nL : Nat} {D : va_G} {tys : List (ClassId × FieldType)} {A : Nat → Prop} {cells slots : Nat} {ws : va_W} {lv : List (Nat × Value)} {pc : Nat} {st : List Value} {a : Nat} {fs : List Value} {v : Value} {ws' : va_W} (C : gw_C p s m args meth c cc nL R_Mo D gw_cl tys A) (q0 : Nat) (he : ws[q0]? = some (a, .inr (7, fs))) (hn : narrow (.boolean) v = v) (hfit : fits (.boolean) v = true) (hl0 : 37 < fs.length) (hdg : decode cc pc = .ok (.putfield 137, 3)) (hw : ws.set q0 (a, .inr (7, fs.set 37 v)) = ws') (kk : gw_W p l e R s m args below meth c D gw_cl A Q cells slots nL ws' lv (pc + 3) st) : gw_W p l e R s m args below meth c D gw_cl A Q cells slots nL ws lv pc (v :: .ref a :: st) :=
  gw_put (K := R_Mo) (T := T_Mo) (N := 48) (ty := .boolean) C 37 i_Mo t_Mo t_Mo_ok n_Mo rfl (by decide) tb_908 rfl (by decide +kernel) q0 he hn hfit hl0 hdg hw kk
theorem fg_Mo_141 {p : Program} {l : Launch} {e : Env} {R : Room} {s : State} {m : MethodId} {args : Array Value} {below : List Frame} {meth : Method} {c : Code} {Q : State → Prop} {cc : ByteArray} {nL : Nat} {D : va_G} {tys : List (ClassId × FieldType)} {A : Nat → Prop} {cells slots : Nat} {ws : va_W} {lv : List (Nat × Value)} {pc : Nat} {st : List Value} {a : Nat} {fs : List Value} {v : Value} (C : gw_C p s m args meth c cc nL R_Mo D gw_cl tys A) (q0 : Nat) (he : ws[q0]? = some (a, .inr (7, fs))) (hv : fs[36]? = some v) (hdg : decode cc pc = .ok (.getfield 141, 3)) (kk : gw_W p l e R s m args below meth c D gw_cl A Q cells slots nL ws lv (pc + 3) (v :: st)) : gw_W p l e R s m args below meth c D gw_cl A Q cells slots nL ws lv pc (.ref a :: st) :=
  gw_get (K := R_Mo) (T := T_Mo) (N := 48) C 36 i_Mo rfl (by decide) tb_907 q0 he hv hdg kk
theorem fp_Mo_141 {p : Program} {l : Launch} {e : Env} {R : Room} {s : State} {m : MethodId} {args : Array Value} {below : List Frame} {meth : Method} {c : Code} {Q : State → Prop} {cc : ByteArray} {nL : Nat} {D : va_G} {tys : List (ClassId × FieldType)} {A : Nat → Prop} {cells slots : Nat} {ws : va_W} {lv : List (Nat × Value)} {pc : Nat} {st : List Value} {a : Nat} {fs : List Value} {v : Value} {ws' : va_W} (C : gw_C p s m args meth c cc nL R_Mo D gw_cl tys A) (q0 : Nat) (he : ws[q0]? = some (a, .inr (7, fs))) (hn : narrow (.int) v = v) (hfit : fits (.int) v = true) (hl0 : 36 < fs.length) (hdg : decode cc pc = .ok (.putfield 141, 3)) (hw : ws.set q0 (a, .inr (7, fs.set 36 v)) = ws') (kk : gw_W p l e R s m args below meth c D gw_cl A Q cells slots nL ws' lv (pc + 3) st) : gw_W p l e R s m args below meth c D gw_cl A Q cells slots nL ws lv pc (v :: .ref a :: st) :=
  gw_put (K := R_Mo) (T := T_Mo) (N := 48) (ty := .int) C 36 i_Mo t_Mo t_Mo_ok n_Mo rfl (by decide) tb_907 rfl (by decide +kernel) q0 he hn hfit hl0 hdg hw kk
theorem fg_Mo_148 {p : Program} {l : Launch} {e : Env} {R : Room} {s : State} {m : MethodId} {args : Array Value} {below : List Frame} {meth : Method} {c : Code} {Q : State → Prop} {cc : ByteArray} {nL : Nat} {D : va_G} {tys : List (ClassId × FieldType)} {A : Nat → Prop} {cells slots : Nat} {ws : va_W} {lv : List (Nat × Value)} {pc : Nat} {st : List Value} {a : Nat} {fs : List Value} {v : Value} (C : gw_C p s m args meth c cc nL R_Mo D gw_cl tys A) (q0 : Nat) (he : ws[q0]? = some (a, .inr (7, fs))) (hv : fs[28]? = some v) (hdg : decode cc pc = .ok (.getfield 148, 3)) (kk : gw_W p l e R s m args below meth c D gw_cl A Q cells slots nL ws lv (pc + 3) (v :: st)) : gw_W p l e R s m args below meth c D gw_cl A Q cells slots nL ws lv pc (.ref a :: st) :=
  gw_get (K := R_Mo) (T := T_Mo) (N := 48) C 28 i_Mo rfl (by decide) tb_899 q0 he hv hdg kk
theorem fp_Mo_148 {p : Program} {l : Launch} {e : Env} {R : Room} {s : State} {m : MethodId} {args : Array Value} {below : List Frame} {meth : Method} {c : Code} {Q : State → Prop} {cc : ByteArray} {nL : Nat} {D : va_G} {tys : List (ClassId × FieldType)} {A : Nat → Prop} {cells slots : Nat} {ws : va_W} {lv : List (Nat × Value)} {pc : Nat} {st : List Value} {a : Nat} {fs : List Value} {v : Value} {ws' : va_W} (C : gw_C p s m args meth c cc nL R_Mo D gw_cl tys A) (q0 : Nat) (he : ws[q0]? = some (a, .inr (7, fs))) (hn : narrow (.int) v = v) (hfit : fits (.int) v = true) (hl0 : 28 < fs.length) (hdg : decode cc pc = .ok (.putfield 148, 3)) (hw : ws.set q0 (a, .inr (7, fs.set 28 v)) = ws') (kk : gw_W p l e R s m args below meth c D gw_cl A Q cells slots nL ws' lv (pc + 3) st) : gw_W p l e R s m args below meth c D gw_cl A Q cells slots nL ws lv pc (v :: .ref a :: st) :=
  gw_put (K := R_Mo) (T := T_Mo) (N := 48) (ty := .int) C 28 i_Mo t_Mo t_Mo_ok n_Mo rfl (by decide) tb_899 rfl (by decide +kernel) q0 he hn hfit hl0 hdg hw kk
theorem fg_Mo_151 {p : Program} {l : Launch} {e : Env} {R : Room} {s : State} {m : MethodId} {args : Array Value} {below : List Frame} {meth : Method} {c : Code} {Q : State → Prop} {cc : ByteArray} {nL : Nat} {D : va_G} {tys : List (ClassId × FieldType)} {A : Nat → Prop} {cells slots : Nat} {ws : va_W} {lv : List (Nat × Value)} {pc : Nat} {st : List Value} {a : Nat} {fs : List Value} {v : Value} (C : gw_C p s m args meth c cc nL R_Mo D gw_cl tys A) (q0 : Nat) (he : ws[q0]? = some (a, .inr (7, fs))) (hv : fs[29]? = some v) (hdg : decode cc pc = .ok (.getfield 151, 3)) (kk : gw_W p l e R s m args below meth c D gw_cl A Q cells slots nL ws lv (pc + 3) (v :: st)) : gw_W p l e R s m args below meth c D gw_cl A Q cells slots nL ws lv pc (.ref a :: st) :=
  gw_get (K := R_Mo) (T := T_Mo) (N := 48) C 29 i_Mo rfl (by decide) tb_900 q0 he hv hdg kk
theorem fp_Mo_151 {p : Program} {l : Launch} {e : Env} {R : Room} {s : State} {m : MethodId} {args : Array Value} {below : List Frame} {meth : Method} {c : Code} {Q : State → Prop} {cc : ByteArray} {nL : Nat} {D : va_G} {tys : List (ClassId × FieldType)} {A : Nat → Prop} {cells slots : Nat} {ws : va_W} {lv : List (Nat × Value)} {pc : Nat} {st : List Value} {a : Nat} {fs : List Value} {v : Value} {ws' : va_W} (C : gw_C p s m args meth c cc nL R_Mo D gw_cl tys A) (q0 : Nat) (he : ws[q0]? = some (a, .inr (7, fs))) (hn : narrow (.int) v = v) (hfit : fits (.int) v = true) (hl0 : 29 < fs.length) (hdg : decode cc pc = .ok (.putfield 151, 3)) (hw : ws.set q0 (a, .inr (7, fs.set 29 v)) = ws') (kk : gw_W p l e R s m args below meth c D gw_cl A Q cells slots nL ws' lv (pc + 3) st) : gw_W p l e R s m args below meth c D gw_cl A Q cells slots nL ws lv pc (v :: .ref a :: st) :=
  gw_put (K := R_Mo) (T := T_Mo) (N := 48) (ty := .int) C 29 i_Mo t_Mo t_Mo_ok n_Mo rfl (by decide) tb_900 rfl (by decide +kernel) q0 he hn hfit hl0 hdg hw kk
theorem fg_Mo_154 {p : Program} {l : Launch} {e : Env} {R : Room} {s : State} {m : MethodId} {args : Array Value} {below : List Frame} {meth : Method} {c : Code} {Q : State → Prop} {cc : ByteArray} {nL : Nat} {D : va_G} {tys : List (ClassId × FieldType)} {A : Nat → Prop} {cells slots : Nat} {ws : va_W} {lv : List (Nat × Value)} {pc : Nat} {st : List Value} {a : Nat} {fs : List Value} {v : Value} (C : gw_C p s m args meth c cc nL R_Mo D gw_cl tys A) (q0 : Nat) (he : ws[q0]? = some (a, .inr (7, fs))) (hv : fs[30]? = some v) (hdg : decode cc pc = .ok (.getfield 154, 3)) (kk : gw_W p l e R s m args below meth c D gw_cl A Q cells slots nL ws lv (pc + 3) (v :: st)) : gw_W p l e R s m args below meth c D gw_cl A Q cells slots nL ws lv pc (.ref a :: st) :=
  gw_get (K := R_Mo) (T := T_Mo) (N := 48) C 30 i_Mo rfl (by decide) tb_901 q0 he hv hdg kk
theorem fp_Mo_154 {p : Program} {l : Launch} {e : Env} {R : Room} {s : State} {m : MethodId} {args : Array Value} {below : List Frame} {meth : Method} {c : Code} {Q : State → Prop} {cc : ByteArray} {nL : Nat} {D : va_G} {tys : List (ClassId × FieldType)} {A : Nat → Prop} {cells slots : Nat} {ws : va_W} {lv : List (Nat × Value)} {pc : Nat} {st : List Value} {a : Nat} {fs : List Value} {v : Value} {ws' : va_W} (C : gw_C p s m args meth c cc nL R_Mo D gw_cl tys A) (q0 : Nat) (he : ws[q0]? = some (a, .inr (7, fs))) (hn : narrow (.int) v = v) (hfit : fits (.int) v = true) (hl0 : 30 < fs.length) (hdg : decode cc pc = .ok (.putfield 154, 3)) (hw : ws.set q0 (a, .inr (7, fs.set 30 v)) = ws') (kk : gw_W p l e R s m args below meth c D gw_cl A Q cells slots nL ws' lv (pc + 3) st) : gw_W p l e R s m args below meth c D gw_cl A Q cells slots nL ws lv pc (v :: .ref a :: st) :=
  gw_put (K := R_Mo) (T := T_Mo) (N := 48) (ty := .int) C 30 i_Mo t_Mo t_Mo_ok n_Mo rfl (by decide) tb_901 rfl (by decide +kernel) q0 he hn hfit hl0 hdg hw kk
theorem fg_Mo_157 {p : Program} {l : Launch} {e : Env} {R : Room} {s : State} {m : MethodId} {args : Array Value} {below : List Frame} {meth : Method} {c : Code} {Q : State → Prop} {cc : ByteArray} {nL : Nat} {D : va_G} {tys : List (ClassId × FieldType)} {A : Nat → Prop} {cells slots : Nat} {ws : va_W} {lv : List (Nat × Value)} {pc : Nat} {st : List Value} {a : Nat} {fs : List Value} {v : Value} (C : gw_C p s m args meth c cc nL R_Mo D gw_cl tys A) (q0 : Nat) (he : ws[q0]? = some (a, .inr (7, fs))) (hv : fs[32]? = some v) (hdg : decode cc pc = .ok (.getfield 157, 3)) (kk : gw_W p l e R s m args below meth c D gw_cl A Q cells slots nL ws lv (pc + 3) (v :: st)) : gw_W p l e R s m args below meth c D gw_cl A Q cells slots nL ws lv pc (.ref a :: st) :=
  gw_get (K := R_Mo) (T := T_Mo) (N := 48) C 32 i_Mo rfl (by decide) tb_903 q0 he hv hdg kk
theorem fp_Mo_157 {p : Program} {l : Launch} {e : Env} {R : Room} {s : State} {m : MethodId} {args : Array Value} {below : List Frame} {meth : Method} {c : Code} {Q : State → Prop} {cc : ByteArray} {nL : Nat} {D : va_G} {tys : List (ClassId × FieldType)} {A : Nat → Prop} {cells slots : Nat} {ws : va_W} {lv : List (Nat × Value)} {pc : Nat} {st : List Value} {a : Nat} {fs : List Value} {v : Value} {ws' : va_W} (C : gw_C p s m args meth c cc nL R_Mo D gw_cl tys A) (q0 : Nat) (he : ws[q0]? = some (a, .inr (7, fs))) (hn : narrow (.int) v = v) (hfit : fits (.int) v = true) (hl0 : 32 < fs.length) (hdg : decode cc pc = .ok (.putfield 157, 3)) (hw : ws.set q0 (a, .inr (7, fs.set 32 v)) = ws') (kk : gw_W p l e R s m args below meth c D gw_cl A Q cells slots nL ws' lv (pc + 3) st) : gw_W p l e R s m args below meth c D gw_cl A Q cells slots nL ws lv pc (v :: .ref a :: st) :=
  gw_put (K := R_Mo) (T := T_Mo) (N := 48) (ty := .int) C 32 i_Mo t_Mo t_Mo_ok n_Mo rfl (by decide) tb_903 rfl (by decide +kernel) q0 he hn hfit hl0 hdg hw kk
theorem fg_Mo_160 {p : Program} {l : Launch} {e : Env} {R : Room} {s : State} {m : MethodId} {args : Array Value} {below : List Frame} {meth : Method} {c : Code} {Q : State → Prop} {cc : ByteArray} {nL : Nat} {D : va_G} {tys : List (ClassId × FieldType)} {A : Nat → Prop} {cells slots : Nat} {ws : va_W} {lv : List (Nat × Value)} {pc : Nat} {st : List Value} {a : Nat} {fs : List Value} {v : Value} (C : gw_C p s m args meth c cc nL R_Mo D gw_cl tys A) (q0 : Nat) (he : ws[q0]? = some (a, .inr (7, fs))) (hv : fs[33]? = some v) (hdg : decode cc pc = .ok (.getfield 160, 3)) (kk : gw_W p l e R s m args below meth c D gw_cl A Q cells slots nL ws lv (pc + 3) (v :: st)) : gw_W p l e R s m args below meth c D gw_cl A Q cells slots nL ws lv pc (.ref a :: st) :=
  gw_get (K := R_Mo) (T := T_Mo) (N := 48) C 33 i_Mo rfl (by decide) tb_904 q0 he hv hdg kk
theorem fp_Mo_160 {p : Program} {l : Launch} {e : Env} {R : Room} {s : State} {m : MethodId} {args : Array Value} {below : List Frame} {meth : Method} {c : Code} {Q : State → Prop} {cc : ByteArray} {nL : Nat} {D : va_G} {tys : List (ClassId × FieldType)} {A : Nat → Prop} {cells slots : Nat} {ws : va_W} {lv : List (Nat × Value)} {pc : Nat} {st : List Value} {a : Nat} {fs : List Value} {v : Value} {ws' : va_W} (C : gw_C p s m args meth c cc nL R_Mo D gw_cl tys A) (q0 : Nat) (he : ws[q0]? = some (a, .inr (7, fs))) (hn : narrow (.long) v = v) (hfit : fits (.long) v = true) (hl0 : 33 < fs.length) (hdg : decode cc pc = .ok (.putfield 160, 3)) (hw : ws.set q0 (a, .inr (7, fs.set 33 v)) = ws') (kk : gw_W p l e R s m args below meth c D gw_cl A Q cells slots nL ws' lv (pc + 3) st) : gw_W p l e R s m args below meth c D gw_cl A Q cells slots nL ws lv pc (v :: .ref a :: st) :=
  gw_put (K := R_Mo) (T := T_Mo) (N := 48) (ty := .long) C 33 i_Mo t_Mo t_Mo_ok n_Mo rfl (by decide) tb_904 rfl (by decide +kernel) q0 he hn hfit hl0 hdg hw kk
theorem fg_Mo_164 {p : Program} {l : Launch} {e : Env} {R : Room} {s : State} {m : MethodId} {args : Array Value} {below : List Frame} {meth : Method} {c : Code} {Q : State → Prop} {cc : ByteArray} {nL : Nat} {D : va_G} {tys : List (ClassId × FieldType)} {A : Nat → Prop} {cells slots : Nat} {ws : va_W} {lv : List (Nat × Value)} {pc : Nat} {st : List Value} {a : Nat} {fs : List Value} {v : Value} (C : gw_C p s m args meth c cc nL R_Mo D gw_cl tys A) (q0 : Nat) (he : ws[q0]? = some (a, .inr (7, fs))) (hv : fs[34]? = some v) (hdg : decode cc pc = .ok (.getfield 164, 3)) (kk : gw_W p l e R s m args below meth c D gw_cl A Q cells slots nL ws lv (pc + 3) (v :: st)) : gw_W p l e R s m args below meth c D gw_cl A Q cells slots nL ws lv pc (.ref a :: st) :=
  gw_get (K := R_Mo) (T := T_Mo) (N := 48) C 34 i_Mo rfl (by decide) tb_905 q0 he hv hdg kk
theorem fp_Mo_164 {p : Program} {l : Launch} {e : Env} {R : Room} {s : State} {m : MethodId} {args : Array Value} {below : List Frame} {meth : Method} {c : Code} {Q : State → Prop} {cc : ByteArray} {nL : Nat} {D : va_G} {tys : List (ClassId × FieldType)} {A : Nat → Prop} {cells slots : Nat} {ws : va_W} {lv : List (Nat × Value)} {pc : Nat} {st : List Value} {a : Nat} {fs : List Value} {v : Value} {ws' : va_W} (C : gw_C p s m args meth c cc nL R_Mo D gw_cl tys A) (q0 : Nat) (he : ws[q0]? = some (a, .inr (7, fs))) (hn : narrow (.int) v = v) (hfit : fits (.int) v = true) (hl0 : 34 < fs.length) (hdg : decode cc pc = .ok (.putfield 164, 3)) (hw : ws.set q0 (a, .inr (7, fs.set 34 v)) = ws') (kk : gw_W p l e R s m args below meth c D gw_cl A Q cells slots nL ws' lv (pc + 3) st) : gw_W p l e R s m args below meth c D gw_cl A Q cells slots nL ws lv pc (v :: .ref a :: st) :=
  gw_put (K := R_Mo) (T := T_Mo) (N := 48) (ty := .int) C 34 i_Mo t_Mo t_Mo_ok n_Mo rfl (by decide) tb_905 rfl (by decide +kernel) q0 he hn hfit hl0 hdg hw kk
theorem fg_Mo_167 {p : Program} {l : Launch} {e : Env} {R : Room} {s : State} {m : MethodId} {args : Array Value} {below : List Frame} {meth : Method} {c : Code} {Q : State → Prop} {cc : ByteArray} {nL : Nat} {D : va_G} {tys : List (ClassId × FieldType)} {A : Nat → Prop} {cells slots : Nat} {ws : va_W} {lv : List (Nat × Value)} {pc : Nat} {st : List Value} {a : Nat} {fs : List Value} {v : Value} (C : gw_C p s m args meth c cc nL R_Mo D gw_cl tys A) (q0 : Nat) (he : ws[q0]? = some (a, .inr (7, fs))) (hv : fs[35]? = some v) (hdg : decode cc pc = .ok (.getfield 167, 3)) (kk : gw_W p l e R s m args below meth c D gw_cl A Q cells slots nL ws lv (pc + 3) (v :: st)) : gw_W p l e R s m args below meth c D gw_cl A Q cells slots nL ws lv pc (.ref a :: st) :=
  gw_get (K := R_Mo) (T := T_Mo) (N := 48) C 35 i_Mo rfl (by decide) tb_906 q0 he hv hdg kk
theorem fp_Mo_167 {p : Program} {l : Launch} {e : Env} {R : Room} {s : State} {m : MethodId} {args : Array Value} {below : List Frame} {meth : Method} {c : Code} {Q : State → Prop} {cc : ByteArray} {nL : Nat} {D : va_G} {tys : List (ClassId × FieldType)} {A : Nat → Prop} {cells slots : Nat} {ws : va_W} {lv : List (Nat × Value)} {pc : Nat} {st : List Value} {a : Nat} {fs : List Value} {v : Value} {ws' : va_W} (C : gw_C p s m args meth c cc nL R_Mo D gw_cl tys A) (q0 : Nat) (he : ws[q0]? = some (a, .inr (7, fs))) (hn : narrow (.int) v = v) (hfit : fits (.int) v = true) (hl0 : 35 < fs.length) (hdg : decode cc pc = .ok (.putfield 167, 3)) (hw : ws.set q0 (a, .inr (7, fs.set 35 v)) = ws') (kk : gw_W p l e R s m args below meth c D gw_cl A Q cells slots nL ws' lv (pc + 3) st) : gw_W p l e R s m args below meth c D gw_cl A Q cells slots nL ws lv pc (v :: .ref a :: st) :=
  gw_put (K := R_Mo) (T := T_Mo) (N := 48) (ty := .int) C 35 i_Mo t_Mo t_Mo_ok n_Mo rfl (by decide) tb_906 rfl (by decide +kernel) q0 he hn hfit hl0 hdg hw kk
theorem fg_Mo_170 {p : Program} {l : Launch} {e : Env} {R : Room} {s : State} {m : MethodId} {args : Array Value} {below : List Frame} {meth : Method} {c : Code} {Q : State → Prop} {cc : ByteArray} {nL : Nat} {D : va_G} {tys : List (ClassId × FieldType)} {A : Nat → Prop} {cells slots : Nat} {ws : va_W} {lv : List (Nat × Value)} {pc : Nat} {st : List Value} {a : Nat} {fs : List Value} {v : Value} (C : gw_C p s m args meth c cc nL R_Mo D gw_cl tys A) (q0 : Nat) (he : ws[q0]? = some (a, .inr (7, fs))) (hv : fs[42]? = some v) (hdg : decode cc pc = .ok (.getfield 170, 3)) (kk : gw_W p l e R s m args below meth c D gw_cl A Q cells slots nL ws lv (pc + 3) (v :: st)) : gw_W p l e R s m args below meth c D gw_cl A Q cells slots nL ws lv pc (.ref a :: st) :=
  gw_get (K := R_Mo) (T := T_Mo) (N := 48) C 42 i_Mo rfl (by decide) tb_913 q0 he hv hdg kk
theorem fp_Mo_170 {p : Program} {l : Launch} {e : Env} {R : Room} {s : State} {m : MethodId} {args : Array Value} {below : List Frame} {meth : Method} {c : Code} {Q : State → Prop} {cc : ByteArray} {nL : Nat} {D : va_G} {tys : List (ClassId × FieldType)} {A : Nat → Prop} {cells slots : Nat} {ws : va_W} {lv : List (Nat × Value)} {pc : Nat} {st : List Value} {a : Nat} {fs : List Value} {v : Value} {ws' : va_W} (C : gw_C p s m args meth c cc nL R_Mo D gw_cl tys A) (q0 : Nat) (he : ws[q0]? = some (a, .inr (7, fs))) (hn : narrow (.int) v = v) (hfit : fits (.int) v = true) (hl0 : 42 < fs.length) (hdg : decode cc pc = .ok (.putfield 170, 3)) (hw : ws.set q0 (a, .inr (7, fs.set 42 v)) = ws') (kk : gw_W p l e R s m args below meth c D gw_cl A Q cells slots nL ws' lv (pc + 3) st) : gw_W p l e R s m args below meth c D gw_cl A Q cells slots nL ws lv pc (v :: .ref a :: st) :=
  gw_put (K := R_Mo) (T := T_Mo) (N := 48) (ty := .int) C 42 i_Mo t_Mo t_Mo_ok n_Mo rfl (by decide) tb_913 rfl (by decide +kernel) q0 he hn hfit hl0 hdg hw kk
theorem fg_Mo_180 {p : Program} {l : Launch} {e : Env} {R : Room} {s : State} {m : MethodId} {args : Array Value} {below : List Frame} {meth : Method} {c : Code} {Q : State → Prop} {cc : ByteArray} {nL : Nat} {D : va_G} {tys : List (ClassId × FieldType)} {A : Nat → Prop} {cells slots : Nat} {ws : va_W} {lv : List (Nat × Value)} {pc : Nat} {st : List Value} {a : Nat} {fs : List Value} {v : Value} (C : gw_C p s m args meth c cc nL R_Mo D gw_cl tys A) (q0 : Nat) (he : ws[q0]? = some (a, .inr (7, fs))) (hv : fs[31]? = some v) (hdg : decode cc pc = .ok (.getfield 180, 3)) (kk : gw_W p l e R s m args below meth c D gw_cl A Q cells slots nL ws lv (pc + 3) (v :: st)) : gw_W p l e R s m args below meth c D gw_cl A Q cells slots nL ws lv pc (.ref a :: st) :=
  gw_get (K := R_Mo) (T := T_Mo) (N := 48) C 31 i_Mo rfl (by decide) tb_902 q0 he hv hdg kk
theorem fp_Mo_180 {p : Program} {l : Launch} {e : Env} {R : Room} {s : State} {m : MethodId} {args : Array Value} {below : List Frame} {meth : Method} {c : Code} {Q : State → Prop} {cc : ByteArray} {nL : Nat} {D : va_G} {tys : List (ClassId × FieldType)} {A : Nat → Prop} {cells slots : Nat} {ws : va_W} {lv : List (Nat × Value)} {pc : Nat} {st : List Value} {a : Nat} {fs : List Value} {v : Value} {ws' : va_W} (C : gw_C p s m args meth c cc nL R_Mo D gw_cl tys A) (q0 : Nat) (he : ws[q0]? = some (a, .inr (7, fs))) (hn : narrow (.int) v = v) (hfit : fits (.int) v = true) (hl0 : 31 < fs.length) (hdg : decode cc pc = .ok (.putfield 180, 3)) (hw : ws.set q0 (a, .inr (7, fs.set 31 v)) = ws') (kk : gw_W p l e R s m args below meth c D gw_cl A Q cells slots nL ws' lv (pc + 3) st) : gw_W p l e R s m args below meth c D gw_cl A Q cells slots nL ws lv pc (v :: .ref a :: st) :=
  gw_put (K := R_Mo) (T := T_Mo) (N := 48) (ty := .int) C 31 i_Mo t_Mo t_Mo_ok n_Mo rfl (by decide) tb_902 rfl (by decide +kernel) q0 he hn hfit hl0 hdg hw kk
theorem fg_Mo_193 {p : Program} {l : Launch} {e : Env} {R : Room} {s : State} {m : MethodId} {args : Array Value} {below : List Frame} {meth : Method} {c : Code} {Q : State → Prop} {cc : ByteArray} {nL : Nat} {D : va_G} {tys : List (ClassId × FieldType)} {A : Nat → Prop} {cells slots : Nat} {ws : va_W} {lv : List (Nat × Value)} {pc : Nat} {st : List Value} {a : Nat} {fs : List Value} {v : Value} (C : gw_C p s m args meth c cc nL R_Mo D gw_cl tys A) (q0 : Nat) (he : ws[q0]? = some (a, .inr (7, fs))) (hv : fs[41]? = some v) (hdg : decode cc pc = .ok (.getfield 193, 3)) (kk : gw_W p l e R s m args below meth c D gw_cl A Q cells slots nL ws lv (pc + 3) (v :: st)) : gw_W p l e R s m args below meth c D gw_cl A Q cells slots nL ws lv pc (.ref a :: st) :=
  gw_get (K := R_Mo) (T := T_Mo) (N := 48) C 41 i_Mo rfl (by decide) tb_912 q0 he hv hdg kk
theorem fp_Mo_193 {p : Program} {l : Launch} {e : Env} {R : Room} {s : State} {m : MethodId} {args : Array Value} {below : List Frame} {meth : Method} {c : Code} {Q : State → Prop} {cc : ByteArray} {nL : Nat} {D : va_G} {tys : List (ClassId × FieldType)} {A : Nat → Prop} {cells slots : Nat} {ws : va_W} {lv : List (Nat × Value)} {pc : Nat} {st : List Value} {a : Nat} {fs : List Value} {v : Value} {ws' : va_W} (C : gw_C p s m args meth c cc nL R_Mo D gw_cl tys A) (q0 : Nat) (he : ws[q0]? = some (a, .inr (7, fs))) (hn : narrow (.int) v = v) (hfit : fits (.int) v = true) (hl0 : 41 < fs.length) (hdg : decode cc pc = .ok (.putfield 193, 3)) (hw : ws.set q0 (a, .inr (7, fs.set 41 v)) = ws') (kk : gw_W p l e R s m args below meth c D gw_cl A Q cells slots nL ws' lv (pc + 3) st) : gw_W p l e R s m args below meth c D gw_cl A Q cells slots nL ws lv pc (v :: .ref a :: st) :=
  gw_put (K := R_Mo) (T := T_Mo) (N := 48) (ty := .int) C 41 i_Mo t_Mo t_Mo_ok n_Mo rfl (by decide) tb_912 rfl (by decide +kernel) q0 he hn hfit hl0 hdg hw kk
theorem fg_Mo_233 {p : Program} {l : Launch} {e : Env} {R : Room} {s : State} {m : MethodId} {args : Array Value} {below : List Frame} {meth : Method} {c : Code} {Q : State → Prop} {cc : ByteArray} {nL : Nat} {D : va_G} {tys : List (ClassId × FieldType)} {A : Nat → Prop} {cells slots : Nat} {ws : va_W} {lv : List (Nat × Value)} {pc : Nat} {st : List Value} {a : Nat} {fs : List Value} {v : Value} (C : gw_C p s m args meth c cc nL R_Mo D gw_cl tys A) (q0 : Nat) (he : ws[q0]? = some (a, .inr (7, fs))) (hv : fs[47]? = some v) (hdg : decode cc pc = .ok (.getfield 233, 3)) (kk : gw_W p l e R s m args below meth c D gw_cl A Q cells slots nL ws lv (pc + 3) (v :: st)) : gw_W p l e R s m args below meth c D gw_cl A Q cells slots nL ws lv pc (.ref a :: st) :=
  gw_get (K := R_Mo) (T := T_Mo) (N := 48) C 47 i_Mo rfl (by decide) tb_918 q0 he hv hdg kk
theorem fp_Mo_233 {p : Program} {l : Launch} {e : Env} {R : Room} {s : State} {m : MethodId} {args : Array Value} {below : List Frame} {meth : Method} {c : Code} {Q : State → Prop} {cc : ByteArray} {nL : Nat} {D : va_G} {tys : List (ClassId × FieldType)} {A : Nat → Prop} {cells slots : Nat} {ws : va_W} {lv : List (Nat × Value)} {pc : Nat} {st : List Value} {a : Nat} {fs : List Value} {v : Value} {ws' : va_W} (C : gw_C p s m args meth c cc nL R_Mo D gw_cl tys A) (q0 : Nat) (he : ws[q0]? = some (a, .inr (7, fs))) (hn : narrow (.int) v = v) (hfit : fits (.int) v = true) (hl0 : 47 < fs.length) (hdg : decode cc pc = .ok (.putfield 233, 3)) (hw : ws.set q0 (a, .inr (7, fs.set 47 v)) = ws') (kk : gw_W p l e R s m args below meth c D gw_cl A Q cells slots nL ws' lv (pc + 3) st) : gw_W p l e R s m args below meth c D gw_cl A Q cells slots nL ws lv pc (v :: .ref a :: st) :=
  gw_put (K := R_Mo) (T := T_Mo) (N := 48) (ty := .int) C 47 i_Mo t_Mo t_Mo_ok n_Mo rfl (by decide) tb_918 rfl (by decide +kernel) q0 he hn hfit hl0 hdg hw kk
theorem fc_Mo_94 {p : Program} {l : Launch} {e : Env} {R : Room} {s : State} {m : MethodId} {args : Array Value} {below : List Frame} {meth : Method} {c : Code} {Q : State → Prop} {cc : ByteArray} {nL : Nat} {D : va_G} {tys : List (ClassId × FieldType)} {A : Nat → Prop} {cells slots : Nat} {ws w' : va_W} {lv : List (Nat × Value)} {pc : Nat} {st As : List Value} {o : Option Value} {b : Nat} {fs : List Value} (C : gw_C p s m args meth c cc nL R_Mo D gw_cl tys A) (hM : gw_M l y_Mo_thrownBy w_Mo_thrownBy rm_Mo_thrownBy D gw_cl tys (.ref b :: As) ws w' o) (hR : rm_Mo_thrownBy.frames + 1 ≤ R.frames ∧ 8 + (2 + 11) + rm_Mo_thrownBy.locals ≤ R.locals) (hf : cells + 0 ≤ R.cells ∧ slots + 0 ≤ R.slots) (q0 : Nat) (he : ws[q0]? = some (b, .inr (7, fs))) (hn : As.length = 1) (hW : (st.map fun v => v.category).sum ≤ 8) (hdg : decode cc pc = .ok (.invokevirtual 94, 3)) (kk : gw_W p l e R s m args below meth c D gw_cl A Q cells slots nL w' lv (pc + 3) (o.toList ++ st)) : gw_W p l e R s m args below meth c D gw_cl A Q cells slots nL ws lv pc (As.reverse ++ .ref b :: st) :=
  gw_callV (T := T_Mo) (N := 48) C hM (gw_good tb_1028) tb_1025 tb_1027 sl_Mo_thrownBy tb_8 (by decide +kernel) hR hf rfl rfl rfl he hn hW hdg kk
theorem fc_Mo_98 {p : Program} {l : Launch} {e : Env} {R : Room} {s : State} {m : MethodId} {args : Array Value} {below : List Frame} {meth : Method} {c : Code} {Q : State → Prop} {cc : ByteArray} {nL : Nat} {D : va_G} {tys : List (ClassId × FieldType)} {A : Nat → Prop} {cells slots : Nat} {ws w' : va_W} {lv : List (Nat × Value)} {pc : Nat} {st As : List Value} {o : Option Value} {b : Nat} {fs : List Value} (C : gw_C p s m args meth c cc nL R_Mo D gw_cl tys A) (hM : gw_M l y_Mo_term w_Mo_term rm_Mo_term D gw_cl tys (.ref b :: As) ws w' o) (hR : rm_Mo_term.frames + 1 ≤ R.frames ∧ 8 + (5 + 11) + rm_Mo_term.locals ≤ R.locals) (hf : cells + 0 ≤ R.cells ∧ slots + 0 ≤ R.slots) (q0 : Nat) (he : ws[q0]? = some (b, .inr (7, fs))) (hn : As.length = 4) (hW : (st.map fun v => v.category).sum ≤ 8) (hdg : decode cc pc = .ok (.invokevirtual 98, 3)) (kk : gw_W p l e R s m args below meth c D gw_cl A Q cells slots nL w' lv (pc + 3) (o.toList ++ st)) : gw_W p l e R s m args below meth c D gw_cl A Q cells slots nL ws lv pc (As.reverse ++ .ref b :: st) :=
  gw_callV (T := T_Mo) (N := 48) C hM (gw_good tb_1032) tb_1029 tb_1031 sl_Mo_term tb_8 (by decide +kernel) hR hf rfl rfl rfl he hn hW hdg kk
theorem fc_Mo_102 {p : Program} {l : Launch} {e : Env} {R : Room} {s : State} {m : MethodId} {args : Array Value} {below : List Frame} {meth : Method} {c : Code} {Q : State → Prop} {cc : ByteArray} {nL : Nat} {D : va_G} {tys : List (ClassId × FieldType)} {A : Nat → Prop} {cells slots : Nat} {ws w' : va_W} {lv : List (Nat × Value)} {pc : Nat} {st As : List Value} {o : Option Value} {b : Nat} {fs : List Value} (C : gw_C p s m args meth c cc nL R_Mo D gw_cl tys A) (hM : gw_M l y_Mo_isTerm w_Mo_isTerm rm_Mo_isTerm D gw_cl tys (.ref b :: As) ws w' o) (hR : rm_Mo_isTerm.frames + 1 ≤ R.frames ∧ 8 + (2 + 11) + rm_Mo_isTerm.locals ≤ R.locals) (hf : cells + 0 ≤ R.cells ∧ slots + 0 ≤ R.slots) (q0 : Nat) (he : ws[q0]? = some (b, .inr (7, fs))) (hn : As.length = 1) (hW : (st.map fun v => v.category).sum ≤ 8) (hdg : decode cc pc = .ok (.invokevirtual 102, 3)) (kk : gw_W p l e R s m args below meth c D gw_cl A Q cells slots nL w' lv (pc + 3) (o.toList ++ st)) : gw_W p l e R s m args below meth c D gw_cl A Q cells slots nL ws lv pc (As.reverse ++ .ref b :: st) :=
  gw_callV (T := T_Mo) (N := 48) C hM (gw_good tb_1044) tb_1041 tb_1043 sl_Mo_isTerm tb_8 (by decide +kernel) hR hf rfl rfl rfl he hn hW hdg kk
theorem fc_Mo_106 {p : Program} {l : Launch} {e : Env} {R : Room} {s : State} {m : MethodId} {args : Array Value} {below : List Frame} {meth : Method} {c : Code} {Q : State → Prop} {cc : ByteArray} {nL : Nat} {D : va_G} {tys : List (ClassId × FieldType)} {A : Nat → Prop} {cells slots : Nat} {ws w' : va_W} {lv : List (Nat × Value)} {pc : Nat} {st As : List Value} {o : Option Value} {b : Nat} {fs : List Value} (C : gw_C p s m args meth c cc nL R_Mo D gw_cl tys A) (hM : gw_M l y_Mo_lessOne w_Mo_lessOne rm_Mo_lessOne D gw_cl tys As ws w' o) (hR : rm_Mo_lessOne.frames + 1 ≤ R.frames ∧ 8 + (1 + 11) + rm_Mo_lessOne.locals ≤ R.locals) (hf : cells + 0 ≤ R.cells ∧ slots + 0 ≤ R.slots) (hn : As.length = 1) (hW : (st.map fun v => v.category).sum ≤ 8) (hdg : decode cc pc = .ok (.invokestatic 106, 3)) (kk : gw_W p l e R s m args below meth c D gw_cl A Q cells slots nL w' lv (pc + 3) (o.toList ++ st)) : gw_W p l e R s m args below meth c D gw_cl A Q cells slots nL ws lv pc (As.reverse ++ st) :=
  gw_callS C hM (gw_good tb_1047) tb_1045 tb_1046 tb_8 (by decide +kernel) hR hf rfl rfl hn hW hdg kk
theorem fc_Mo_109 {p : Program} {l : Launch} {e : Env} {R : Room} {s : State} {m : MethodId} {args : Array Value} {below : List Frame} {meth : Method} {c : Code} {Q : State → Prop} {cc : ByteArray} {nL : Nat} {D : va_G} {tys : List (ClassId × FieldType)} {A : Nat → Prop} {cells slots : Nat} {ws w' : va_W} {lv : List (Nat × Value)} {pc : Nat} {st As : List Value} {o : Option Value} {b : Nat} {fs : List Value} (C : gw_C p s m args meth c cc nL R_Mo D gw_cl tys A) (hM : gw_M l y_Mo_more w_Mo_more rm_Mo_more D gw_cl tys As ws w' o) (hR : rm_Mo_more.frames + 1 ≤ R.frames ∧ 8 + (2 + 11) + rm_Mo_more.locals ≤ R.locals) (hf : cells + 0 ≤ R.cells ∧ slots + 0 ≤ R.slots) (hn : As.length = 2) (hW : (st.map fun v => v.category).sum ≤ 8) (hdg : decode cc pc = .ok (.invokestatic 109, 3)) (kk : gw_W p l e R s m args below meth c D gw_cl A Q cells slots nL w' lv (pc + 3) (o.toList ++ st)) : gw_W p l e R s m args below meth c D gw_cl A Q cells slots nL ws lv pc (As.reverse ++ st) :=
  gw_callS C hM (gw_good tb_1054) tb_1052 tb_1053 tb_8 (by decide +kernel) hR hf rfl rfl hn hW hdg kk
theorem fc_Mo_144 {p : Program} {l : Launch} {e : Env} {R : Room} {s : State} {m : MethodId} {args : Array Value} {below : List Frame} {meth : Method} {c : Code} {Q : State → Prop} {cc : ByteArray} {nL : Nat} {D : va_G} {tys : List (ClassId × FieldType)} {A : Nat → Prop} {cells slots : Nat} {ws w' : va_W} {lv : List (Nat × Value)} {pc : Nat} {st As : List Value} {o : Option Value} {b : Nat} {fs : List Value} (C : gw_C p s m args meth c cc nL R_Mo D gw_cl tys A) (hM : gw_M l y_Mo_atHand w_Mo_atHand rm_Mo_atHand D gw_cl tys (.ref b :: As) ws w' o) (hR : rm_Mo_atHand.frames + 1 ≤ R.frames ∧ 8 + (3 + 11) + rm_Mo_atHand.locals ≤ R.locals) (hf : cells + 0 ≤ R.cells ∧ slots + 0 ≤ R.slots) (q0 : Nat) (he : ws[q0]? = some (b, .inr (7, fs))) (hn : As.length = 2) (hW : (st.map fun v => v.category).sum ≤ 8) (hdg : decode cc pc = .ok (.invokevirtual 144, 3)) (kk : gw_W p l e R s m args below meth c D gw_cl A Q cells slots nL w' lv (pc + 3) (o.toList ++ st)) : gw_W p l e R s m args below meth c D gw_cl A Q cells slots nL ws lv pc (As.reverse ++ .ref b :: st) :=
  gw_callV (T := T_Mo) (N := 48) C hM (gw_good tb_1070) tb_1067 tb_1069 sl_Mo_atHand tb_8 (by decide +kernel) hR hf rfl rfl rfl he hn hW hdg kk
theorem fc_Mo_173 {p : Program} {l : Launch} {e : Env} {R : Room} {s : State} {m : MethodId} {args : Array Value} {below : List Frame} {meth : Method} {c : Code} {Q : State → Prop} {cc : ByteArray} {nL : Nat} {D : va_G} {tys : List (ClassId × FieldType)} {A : Nat → Prop} {cells slots : Nat} {ws w' : va_W} {lv : List (Nat × Value)} {pc : Nat} {st As : List Value} {o : Option Value} {b : Nat} {fs : List Value} (C : gw_C p s m args meth c cc nL R_Mo D gw_cl tys A) (hM : gw_M l y_Mo_sweep w_Mo_sweep rm_Mo_sweep D gw_cl tys (.ref b :: As) ws w' o) (hR : rm_Mo_sweep.frames + 1 ≤ R.frames ∧ 8 + (3 + 11) + rm_Mo_sweep.locals ≤ R.locals) (hf : cells + 0 ≤ R.cells ∧ slots + 0 ≤ R.slots) (q0 : Nat) (he : ws[q0]? = some (b, .inr (7, fs))) (hn : As.length = 0) (hW : (st.map fun v => v.category).sum ≤ 8) (hdg : decode cc pc = .ok (.invokevirtual 173, 3)) (kk : gw_W p l e R s m args below meth c D gw_cl A Q cells slots nL w' lv (pc + 3) (o.toList ++ st)) : gw_W p l e R s m args below meth c D gw_cl A Q cells slots nL ws lv pc (As.reverse ++ .ref b :: st) :=
  gw_callV (T := T_Mo) (N := 48) C hM (gw_good tb_1078) tb_1075 tb_1077 sl_Mo_sweep tb_8 (by decide +kernel) hR hf rfl rfl rfl he hn hW hdg kk
theorem fc_Mo_177 {p : Program} {l : Launch} {e : Env} {R : Room} {s : State} {m : MethodId} {args : Array Value} {below : List Frame} {meth : Method} {c : Code} {Q : State → Prop} {cc : ByteArray} {nL : Nat} {D : va_G} {tys : List (ClassId × FieldType)} {A : Nat → Prop} {cells slots : Nat} {ws w' : va_W} {lv : List (Nat × Value)} {pc : Nat} {st As : List Value} {o : Option Value} {b : Nat} {fs : List Value} (C : gw_C p s m args meth c cc nL R_Mo D gw_cl tys A) (hM : gw_M l y_Mo_step w_Mo_step rm_Mo_step D gw_cl tys (.ref b :: As) ws w' o) (hR : rm_Mo_step.frames + 1 ≤ R.frames ∧ 8 + (1 + 11) + rm_Mo_step.locals ≤ R.locals) (hf : cells + 0 ≤ R.cells ∧ slots + 0 ≤ R.slots) (q0 : Nat) (he : ws[q0]? = some (b, .inr (7, fs))) (hn : As.length = 0) (hW : (st.map fun v => v.category).sum ≤ 8) (hdg : decode cc pc = .ok (.invokevirtual 177, 3)) (kk : gw_W p l e R s m args below meth c D gw_cl A Q cells slots nL w' lv (pc + 3) (o.toList ++ st)) : gw_W p l e R s m args below meth c D gw_cl A Q cells slots nL ws lv pc (As.reverse ++ .ref b :: st) :=
  gw_callV (T := T_Mo) (N := 48) C hM (gw_good tb_1098) tb_1095 tb_1097 sl_Mo_step tb_8 (by decide +kernel) hR hf rfl rfl rfl he hn hW hdg kk
theorem fc_Mo_183 {p : Program} {l : Launch} {e : Env} {R : Room} {s : State} {m : MethodId} {args : Array Value} {below : List Frame} {meth : Method} {c : Code} {Q : State → Prop} {cc : ByteArray} {nL : Nat} {D : va_G} {tys : List (ClassId × FieldType)} {A : Nat → Prop} {cells slots : Nat} {ws w' : va_W} {lv : List (Nat × Value)} {pc : Nat} {st As : List Value} {o : Option Value} {b : Nat} {fs : List Value} (C : gw_C p s m args meth c cc nL R_Mo D gw_cl tys A) (hM : gw_M l y_Mo_need w_Mo_need rm_Mo_need D gw_cl tys (.ref b :: As) ws w' o) (hR : rm_Mo_need.frames + 1 ≤ R.frames ∧ 8 + (4 + 11) + rm_Mo_need.locals ≤ R.locals) (hf : cells + 0 ≤ R.cells ∧ slots + 0 ≤ R.slots) (q0 : Nat) (he : ws[q0]? = some (b, .inr (7, fs))) (hn : As.length = 2) (hW : (st.map fun v => v.category).sum ≤ 8) (hdg : decode cc pc = .ok (.invokevirtual 183, 3)) (kk : gw_W p l e R s m args below meth c D gw_cl A Q cells slots nL w' lv (pc + 3) (o.toList ++ st)) : gw_W p l e R s m args below meth c D gw_cl A Q cells slots nL ws lv pc (As.reverse ++ .ref b :: st) :=
  gw_callV (T := T_Mo) (N := 48) C hM (gw_good tb_1102) tb_1099 tb_1101 sl_Mo_need tb_8 (by decide +kernel) hR hf rfl rfl rfl he hn hW hdg kk
theorem fc_Mo_187 {p : Program} {l : Launch} {e : Env} {R : Room} {s : State} {m : MethodId} {args : Array Value} {below : List Frame} {meth : Method} {c : Code} {Q : State → Prop} {cc : ByteArray} {nL : Nat} {D : va_G} {tys : List (ClassId × FieldType)} {A : Nat → Prop} {cells slots : Nat} {ws w' : va_W} {lv : List (Nat × Value)} {pc : Nat} {st As : List Value} {o : Option Value} {b : Nat} {fs : List Value} (C : gw_C p s m args meth c cc nL R_Mo D gw_cl tys A) (hM : gw_M l y_Mo_goOnWithTerm w_Mo_goOnWithTerm rm_Mo_goOnWithTerm D gw_cl tys (.ref b :: As) ws w' o) (hR : rm_Mo_goOnWithTerm.frames + 1 ≤ R.frames ∧ 8 + (5 + 11) + rm_Mo_goOnWithTerm.locals ≤ R.locals) (hf : cells + 0 ≤ R.cells ∧ slots + 0 ≤ R.slots) (q0 : Nat) (he : ws[q0]? = some (b, .inr (7, fs))) (hn : As.length = 0) (hW : (st.map fun v => v.category).sum ≤ 8) (hdg : decode cc pc = .ok (.invokevirtual 187, 3)) (kk : gw_W p l e R s m args below meth c D gw_cl A Q cells slots nL w' lv (pc + 3) (o.toList ++ st)) : gw_W p l e R s m args below meth c D gw_cl A Q cells slots nL ws lv pc (As.reverse ++ .ref b :: st) :=
  gw_callV (T := T_Mo) (N := 48) C hM (gw_good tb_1118) tb_1115 tb_1117 sl_Mo_goOnWithTerm tb_8 (by decide +kernel) hR hf rfl rfl rfl he hn hW hdg kk
theorem fc_Mo_190 {p : Program} {l : Launch} {e : Env} {R : Room} {s : State} {m : MethodId} {args : Array Value} {below : List Frame} {meth : Method} {c : Code} {Q : State → Prop} {cc : ByteArray} {nL : Nat} {D : va_G} {tys : List (ClassId × FieldType)} {A : Nat → Prop} {cells slots : Nat} {ws w' : va_W} {lv : List (Nat × Value)} {pc : Nat} {st As : List Value} {o : Option Value} {b : Nat} {fs : List Value} (C : gw_C p s m args meth c cc nL R_Mo D gw_cl tys A) (hM : gw_M l y_Mo_goOnWithValue w_Mo_goOnWithValue rm_Mo_goOnWithValue D gw_cl tys (.ref b :: As) ws w' o) (hR : rm_Mo_goOnWithValue.frames + 1 ≤ R.frames ∧ 8 + (4 + 11) + rm_Mo_goOnWithValue.locals ≤ R.locals) (hf : cells + 0 ≤ R.cells ∧ slots + 0 ≤ R.slots) (q0 : Nat) (he : ws[q0]? = some (b, .inr (7, fs))) (hn : As.length = 0) (hW : (st.map fun v => v.category).sum ≤ 8) (hdg : decode cc pc = .ok (.invokevirtual 190, 3)) (kk : gw_W p l e R s m args below meth c D gw_cl A Q cells slots nL w' lv (pc + 3) (o.toList ++ st)) : gw_W p l e R s m args below meth c D gw_cl A Q cells slots nL ws lv pc (As.reverse ++ .ref b :: st) :=
  gw_callV (T := T_Mo) (N := 48) C hM (gw_good tb_1146) tb_1143 tb_1145 sl_Mo_goOnWithValue tb_8 (by decide +kernel) hR hf rfl rfl rfl he hn hW hdg kk
theorem fc_Mo_196 {p : Program} {l : Launch} {e : Env} {R : Room} {s : State} {m : MethodId} {args : Array Value} {below : List Frame} {meth : Method} {c : Code} {Q : State → Prop} {cc : ByteArray} {nL : Nat} {D : va_G} {tys : List (ClassId × FieldType)} {A : Nat → Prop} {cells slots : Nat} {ws w' : va_W} {lv : List (Nat × Value)} {pc : Nat} {st As : List Value} {o : Option Value} {b : Nat} {fs : List Value} (C : gw_C p s m args meth c cc nL R_Mo D gw_cl tys A) (hM : gw_M l y_Mo_valueAtHand w_Mo_valueAtHand rm_Mo_valueAtHand D gw_cl tys (.ref b :: As) ws w' o) (hR : rm_Mo_valueAtHand.frames + 1 ≤ R.frames ∧ 8 + (6 + 11) + rm_Mo_valueAtHand.locals ≤ R.locals) (hf : cells + 0 ≤ R.cells ∧ slots + 0 ≤ R.slots) (q0 : Nat) (he : ws[q0]? = some (b, .inr (7, fs))) (hn : As.length = 4) (hW : (st.map fun v => v.category).sum ≤ 8) (hdg : decode cc pc = .ok (.invokevirtual 196, 3)) (kk : gw_W p l e R s m args below meth c D gw_cl A Q cells slots nL w' lv (pc + 3) (o.toList ++ st)) : gw_W p l e R s m args below meth c D gw_cl A Q cells slots nL ws lv pc (As.reverse ++ .ref b :: st) :=
  gw_callV (T := T_Mo) (N := 48) C hM (gw_good tb_1106) tb_1103 tb_1105 sl_Mo_valueAtHand tb_8 (by decide +kernel) hR hf rfl rfl rfl he hn hW hdg kk
theorem fc_Mo_200 {p : Program} {l : Launch} {e : Env} {R : Room} {s : State} {m : MethodId} {args : Array Value} {below : List Frame} {meth : Method} {c : Code} {Q : State → Prop} {cc : ByteArray} {nL : Nat} {D : va_G} {tys : List (ClassId × FieldType)} {A : Nat → Prop} {cells slots : Nat} {ws w' : va_W} {lv : List (Nat × Value)} {pc : Nat} {st As : List Value} {o : Option Value} {b : Nat} {fs : List Value} (C : gw_C p s m args meth c cc nL R_Mo D gw_cl tys A) (hM : gw_M l y_Mo_latestInWork w_Mo_latestInWork rm_Mo_latestInWork D gw_cl tys (.ref b :: As) ws w' o) (hR : rm_Mo_latestInWork.frames + 1 ≤ R.frames ∧ 8 + (2 + 11) + rm_Mo_latestInWork.locals ≤ R.locals) (hf : cells + 0 ≤ R.cells ∧ slots + 0 ≤ R.slots) (q0 : Nat) (he : ws[q0]? = some (b, .inr (7, fs))) (hn : As.length = 0) (hW : (st.map fun v => v.category).sum ≤ 8) (hdg : decode cc pc = .ok (.invokevirtual 200, 3)) (kk : gw_W p l e R s m args below meth c D gw_cl A Q cells slots nL w' lv (pc + 3) (o.toList ++ st)) : gw_W p l e R s m args below meth c D gw_cl A Q cells slots nL ws lv pc (As.reverse ++ .ref b :: st) :=
  gw_callV (T := T_Mo) (N := 48) C hM (gw_good tb_1110) tb_1107 tb_1109 sl_Mo_latestInWork tb_8 (by decide +kernel) hR hf rfl rfl rfl he hn hW hdg kk
theorem fc_Mo_203 {p : Program} {l : Launch} {e : Env} {R : Room} {s : State} {m : MethodId} {args : Array Value} {below : List Frame} {meth : Method} {c : Code} {Q : State → Prop} {cc : ByteArray} {nL : Nat} {D : va_G} {tys : List (ClassId × FieldType)} {A : Nat → Prop} {cells slots : Nat} {ws w' : va_W} {lv : List (Nat × Value)} {pc : Nat} {st As : List Value} {o : Option Value} {b : Nat} {fs : List Value} (C : gw_C p s m args meth c cc nL R_Mo D gw_cl tys A) (hM : gw_M l y_Mo_push w_Mo_push rm_Mo_push D gw_cl tys (.ref b :: As) ws w' o) (hR : rm_Mo_push.frames + 1 ≤ R.frames ∧ 8 + (6 + 11) + rm_Mo_push.locals ≤ R.locals) (hf : cells + 0 ≤ R.cells ∧ slots + 0 ≤ R.slots) (q0 : Nat) (he : ws[q0]? = some (b, .inr (7, fs))) (hn : As.length = 4) (hW : (st.map fun v => v.category).sum ≤ 8) (hdg : decode cc pc = .ok (.invokevirtual 203, 3)) (kk : gw_W p l e R s m args below meth c D gw_cl A Q cells slots nL w' lv (pc + 3) (o.toList ++ st)) : gw_W p l e R s m args below meth c D gw_cl A Q cells slots nL ws lv pc (As.reverse ++ .ref b :: st) :=
  gw_callV (T := T_Mo) (N := 48) C hM (gw_good tb_1114) tb_1111 tb_1113 sl_Mo_push tb_8 (by decide +kernel) hR hf rfl rfl rfl he hn hW hdg kk
theorem fc_Mo_207 {p : Program} {l : Launch} {e : Env} {R : Room} {s : State} {m : MethodId} {args : Array Value} {below : List Frame} {meth : Method} {c : Code} {Q : State → Prop} {cc : ByteArray} {nL : Nat} {D : va_G} {tys : List (ClassId × FieldType)} {A : Nat → Prop} {cells slots : Nat} {ws w' : va_W} {lv : List (Nat × Value)} {pc : Nat} {st As : List Value} {o : Option Value} {b : Nat} {fs : List Value} (C : gw_C p s m args meth c cc nL R_Mo D gw_cl tys A) (hM : gw_M l y_Mo_isNew w_Mo_isNew rm_Mo_isNew D gw_cl tys (.ref b :: As) ws w' o) (hR : rm_Mo_isNew.frames + 1 ≤ R.frames ∧ 8 + (2 + 11) + rm_Mo_isNew.locals ≤ R.locals) (hf : cells + 0 ≤ R.cells ∧ slots + 0 ≤ R.slots) (q0 : Nat) (he : ws[q0]? = some (b, .inr (7, fs))) (hn : As.length = 1) (hW : (st.map fun v => v.category).sum ≤ 8) (hdg : decode cc pc = .ok (.invokevirtual 207, 3)) (kk : gw_W p l e R s m args below meth c D gw_cl A Q cells slots nL w' lv (pc + 3) (o.toList ++ st)) : gw_W p l e R s m args below meth c D gw_cl A Q cells slots nL ws lv pc (As.reverse ++ .ref b :: st) :=
  gw_callV (T := T_Mo) (N := 48) C hM (gw_good tb_1126) tb_1123 tb_1125 sl_Mo_isNew tb_8 (by decide +kernel) hR hf rfl rfl rfl he hn hW hdg kk
theorem fc_Mo_210 {p : Program} {l : Launch} {e : Env} {R : Room} {s : State} {m : MethodId} {args : Array Value} {below : List Frame} {meth : Method} {c : Code} {Q : State → Prop} {cc : ByteArray} {nL : Nat} {D : va_G} {tys : List (ClassId × FieldType)} {A : Nat → Prop} {cells slots : Nat} {ws w' : va_W} {lv : List (Nat × Value)} {pc : Nat} {st As : List Value} {o : Option Value} {b : Nat} {fs : List Value} (C : gw_C p s m args meth c cc nL R_Mo D gw_cl tys A) (hM : gw_M l y_Mo_newThing w_Mo_newThing rm_Mo_newThing D gw_cl tys (.ref b :: As) ws w' o) (hR : rm_Mo_newThing.frames + 1 ≤ R.frames ∧ 8 + (3 + 11) + rm_Mo_newThing.locals ≤ R.locals) (hf : cells + 0 ≤ R.cells ∧ slots + 0 ≤ R.slots) (q0 : Nat) (he : ws[q0]? = some (b, .inr (7, fs))) (hn : As.length = 2) (hW : (st.map fun v => v.category).sum ≤ 8) (hdg : decode cc pc = .ok (.invokevirtual 210, 3)) (kk : gw_W p l e R s m args below meth c D gw_cl A Q cells slots nL w' lv (pc + 3) (o.toList ++ st)) : gw_W p l e R s m args below meth c D gw_cl A Q cells slots nL ws lv pc (As.reverse ++ .ref b :: st) :=
  gw_callV (T := T_Mo) (N := 48) C hM (gw_good tb_1138) tb_1135 tb_1137 sl_Mo_newThing tb_8 (by decide +kernel) hR hf rfl rfl rfl he hn hW hdg kk
theorem fc_Mo_213 {p : Program} {l : Launch} {e : Env} {R : Room} {s : State} {m : MethodId} {args : Array Value} {below : List Frame} {meth : Method} {c : Code} {Q : State → Prop} {cc : ByteArray} {nL : Nat} {D : va_G} {tys : List (ClassId × FieldType)} {A : Nat → Prop} {cells slots : Nat} {ws w' : va_W} {lv : List (Nat × Value)} {pc : Nat} {st As : List Value} {o : Option Value} {b : Nat} {fs : List Value} (C : gw_C p s m args meth c cc nL R_Mo D gw_cl tys A) (hM : gw_M l y_Mo_thingOfPlace w_Mo_thingOfPlace rm_Mo_thingOfPlace D gw_cl tys (.ref b :: As) ws w' o) (hR : rm_Mo_thingOfPlace.frames + 1 ≤ R.frames ∧ 8 + (5 + 11) + rm_Mo_thingOfPlace.locals ≤ R.locals) (hf : cells + 0 ≤ R.cells ∧ slots + 0 ≤ R.slots) (q0 : Nat) (he : ws[q0]? = some (b, .inr (7, fs))) (hn : As.length = 2) (hW : (st.map fun v => v.category).sum ≤ 8) (hdg : decode cc pc = .ok (.invokevirtual 213, 3)) (kk : gw_W p l e R s m args below meth c D gw_cl A Q cells slots nL w' lv (pc + 3) (o.toList ++ st)) : gw_W p l e R s m args below meth c D gw_cl A Q cells slots nL ws lv pc (As.reverse ++ .ref b :: st) :=
  gw_callV (T := T_Mo) (N := 48) C hM (gw_good tb_1122) tb_1119 tb_1121 sl_Mo_thingOfPlace tb_8 (by decide +kernel) hR hf rfl rfl rfl he hn hW hdg kk
theorem fc_Mo_216 {p : Program} {l : Launch} {e : Env} {R : Room} {s : State} {m : MethodId} {args : Array Value} {below : List Frame} {meth : Method} {c : Code} {Q : State → Prop} {cc : ByteArray} {nL : Nat} {D : va_G} {tys : List (ClassId × FieldType)} {A : Nat → Prop} {cells slots : Nat} {ws w' : va_W} {lv : List (Nat × Value)} {pc : Nat} {st As : List Value} {o : Option Value} {b : Nat} {fs : List Value} (C : gw_C p s m args meth c cc nL R_Mo D gw_cl tys A) (hM : gw_M l y_Mo_hasRoom w_Mo_hasRoom rm_Mo_hasRoom D gw_cl tys (.ref b :: As) ws w' o) (hR : rm_Mo_hasRoom.frames + 1 ≤ R.frames ∧ 8 + (5 + 11) + rm_Mo_hasRoom.locals ≤ R.locals) (hf : cells + 0 ≤ R.cells ∧ slots + 0 ≤ R.slots) (q0 : Nat) (he : ws[q0]? = some (b, .inr (7, fs))) (hn : As.length = 3) (hW : (st.map fun v => v.category).sum ≤ 8) (hdg : decode cc pc = .ok (.invokevirtual 216, 3)) (kk : gw_W p l e R s m args below meth c D gw_cl A Q cells slots nL w' lv (pc + 3) (o.toList ++ st)) : gw_W p l e R s m args below meth c D gw_cl A Q cells slots nL ws lv pc (As.reverse ++ .ref b :: st) :=
  gw_callV (T := T_Mo) (N := 48) C hM (gw_good tb_1130) tb_1127 tb_1129 sl_Mo_hasRoom tb_8 (by decide +kernel) hR hf rfl rfl rfl he hn hW hdg kk
theorem fc_Mo_220 {p : Program} {l : Launch} {e : Env} {R : Room} {s : State} {m : MethodId} {args : Array Value} {below : List Frame} {meth : Method} {c : Code} {Q : State → Prop} {cc : ByteArray} {nL : Nat} {D : va_G} {tys : List (ClassId × FieldType)} {A : Nat → Prop} {cells slots : Nat} {ws w' : va_W} {lv : List (Nat × Value)} {pc : Nat} {st As : List Value} {o : Option Value} {b : Nat} {fs : List Value} (C : gw_C p s m args meth c cc nL R_Mo D gw_cl tys A) (hM : gw_M l y_Mo_thingOf w_Mo_thingOf rm_Mo_thingOf D gw_cl tys (.ref b :: As) ws w' o) (hR : rm_Mo_thingOf.frames + 1 ≤ R.frames ∧ 8 + (2 + 11) + rm_Mo_thingOf.locals ≤ R.locals) (hf : cells + 0 ≤ R.cells ∧ slots + 0 ≤ R.slots) (q0 : Nat) (he : ws[q0]? = some (b, .inr (7, fs))) (hn : As.length = 1) (hW : (st.map fun v => v.category).sum ≤ 8) (hdg : decode cc pc = .ok (.invokevirtual 220, 3)) (kk : gw_W p l e R s m args below meth c D gw_cl A Q cells slots nL w' lv (pc + 3) (o.toList ++ st)) : gw_W p l e R s m args below meth c D gw_cl A Q cells slots nL ws lv pc (As.reverse ++ .ref b :: st) :=
  gw_callV (T := T_Mo) (N := 48) C hM (gw_good tb_1134) tb_1131 tb_1133 sl_Mo_thingOf tb_8 (by decide +kernel) hR hf rfl rfl rfl he hn hW hdg kk
theorem fc_Mo_223 {p : Program} {l : Launch} {e : Env} {R : Room} {s : State} {m : MethodId} {args : Array Value} {below : List Frame} {meth : Method} {c : Code} {Q : State → Prop} {cc : ByteArray} {nL : Nat} {D : va_G} {tys : List (ClassId × FieldType)} {A : Nat → Prop} {cells slots : Nat} {ws w' : va_W} {lv : List (Nat × Value)} {pc : Nat} {st As : List Value} {o : Option Value} {b : Nat} {fs : List Value} (C : gw_C p s m args meth c cc nL R_Mo D gw_cl tys A) (hM : gw_M l y_Mo_newPlace w_Mo_newPlace rm_Mo_newPlace D gw_cl tys (.ref b :: As) ws w' o) (hR : rm_Mo_newPlace.frames + 1 ≤ R.frames ∧ 8 + (3 + 11) + rm_Mo_newPlace.locals ≤ R.locals) (hf : cells + 0 ≤ R.cells ∧ slots + 0 ≤ R.slots) (q0 : Nat) (he : ws[q0]? = some (b, .inr (7, fs))) (hn : As.length = 2) (hW : (st.map fun v => v.category).sum ≤ 8) (hdg : decode cc pc = .ok (.invokevirtual 223, 3)) (kk : gw_W p l e R s m args below meth c D gw_cl A Q cells slots nL w' lv (pc + 3) (o.toList ++ st)) : gw_W p l e R s m args below meth c D gw_cl A Q cells slots nL ws lv pc (As.reverse ++ .ref b :: st) :=
  gw_callV (T := T_Mo) (N := 48) C hM (gw_good tb_1142) tb_1139 tb_1141 sl_Mo_newPlace tb_8 (by decide +kernel) hR hf rfl rfl rfl he hn hW hdg kk
theorem fc_Mo_226 {p : Program} {l : Launch} {e : Env} {R : Room} {s : State} {m : MethodId} {args : Array Value} {below : List Frame} {meth : Method} {c : Code} {Q : State → Prop} {cc : ByteArray} {nL : Nat} {D : va_G} {tys : List (ClassId × FieldType)} {A : Nat → Prop} {cells slots : Nat} {ws w' : va_W} {lv : List (Nat × Value)} {pc : Nat} {st As : List Value} {o : Option Value} {b : Nat} {fs : List Value} (C : gw_C p s m args meth c cc nL R_Mo D gw_cl tys A) (hM : gw_M l y_Mo_act w_Mo_act rm_Mo_act D gw_cl tys (.ref b :: As) ws w' o) (hR : rm_Mo_act.frames + 1 ≤ R.frames ∧ 8 + (8 + 11) + rm_Mo_act.locals ≤ R.locals) (hf : cells + 0 ≤ R.cells ∧ slots + 0 ≤ R.slots) (q0 : Nat) (he : ws[q0]? = some (b, .inr (7, fs))) (hn : As.length = 3) (hW : (st.map fun v => v.category).sum ≤ 8) (hdg : decode cc pc = .ok (.invokevirtual 226, 3)) (kk : gw_W p l e R s m args below meth c D gw_cl A Q cells slots nL w' lv (pc + 3) (o.toList ++ st)) : gw_W p l e R s m args below meth c D gw_cl A Q cells slots nL ws lv pc (As.reverse ++ .ref b :: st) :=
  gw_callV (T := T_Mo) (N := 48) C hM (gw_good tb_1150) tb_1147 tb_1149 sl_Mo_act tb_8 (by decide +kernel) hR hf rfl rfl rfl he hn hW hdg kk
theorem fc_Mo_230 {p : Program} {l : Launch} {e : Env} {R : Room} {s : State} {m : MethodId} {args : Array Value} {below : List Frame} {meth : Method} {c : Code} {Q : State → Prop} {cc : ByteArray} {nL : Nat} {D : va_G} {tys : List (ClassId × FieldType)} {A : Nat → Prop} {cells slots : Nat} {ws w' : va_W} {lv : List (Nat × Value)} {pc : Nat} {st As : List Value} {o : Option Value} {b : Nat} {fs : List Value} (C : gw_C p s m args meth c cc nL R_Mo D gw_cl tys A) (hM : gw_M l y_Mo_isThing w_Mo_isThing rm_Mo_isThing D gw_cl tys (.ref b :: As) ws w' o) (hR : rm_Mo_isThing.frames + 1 ≤ R.frames ∧ 8 + (2 + 11) + rm_Mo_isThing.locals ≤ R.locals) (hf : cells + 0 ≤ R.cells ∧ slots + 0 ≤ R.slots) (q0 : Nat) (he : ws[q0]? = some (b, .inr (7, fs))) (hn : As.length = 1) (hW : (st.map fun v => v.category).sum ≤ 8) (hdg : decode cc pc = .ok (.invokevirtual 230, 3)) (kk : gw_W p l e R s m args below meth c D gw_cl A Q cells slots nL w' lv (pc + 3) (o.toList ++ st)) : gw_W p l e R s m args below meth c D gw_cl A Q cells slots nL ws lv pc (As.reverse ++ .ref b :: st) :=
  gw_callV (T := T_Mo) (N := 48) C hM (gw_good tb_1178) tb_1175 tb_1177 sl_Mo_isThing tb_8 (by decide +kernel) hR hf rfl rfl rfl he hn hW hdg kk
theorem fc_Mo_236 {p : Program} {l : Launch} {e : Env} {R : Room} {s : State} {m : MethodId} {args : Array Value} {below : List Frame} {meth : Method} {c : Code} {Q : State → Prop} {cc : ByteArray} {nL : Nat} {D : va_G} {tys : List (ClassId × FieldType)} {A : Nat → Prop} {cells slots : Nat} {ws w' : va_W} {lv : List (Nat × Value)} {pc : Nat} {st As : List Value} {o : Option Value} {b : Nat} {fs : List Value} (C : gw_C p s m args meth c cc nL R_Mo D gw_cl tys A) (hM : gw_M l y_Mo_reach w_Mo_reach rm_Mo_reach D gw_cl tys (.ref b :: As) ws w' o) (hR : rm_Mo_reach.frames + 1 ≤ R.frames ∧ 8 + (2 + 11) + rm_Mo_reach.locals ≤ R.locals) (hf : cells + 0 ≤ R.cells ∧ slots + 0 ≤ R.slots) (q0 : Nat) (he : ws[q0]? = some (b, .inr (7, fs))) (hn : As.length = 1) (hW : (st.map fun v => v.category).sum ≤ 8) (hdg : decode cc pc = .ok (.invokevirtual 236, 3)) (kk : gw_W p l e R s m args below meth c D gw_cl A Q cells slots nL w' lv (pc + 3) (o.toList ++ st)) : gw_W p l e R s m args below meth c D gw_cl A Q cells slots nL ws lv pc (As.reverse ++ .ref b :: st) :=
  gw_callV (T := T_Mo) (N := 48) C hM (gw_good tb_1090) tb_1087 tb_1089 sl_Mo_reach tb_8 (by decide +kernel) hR hf rfl rfl rfl he hn hW hdg kk
theorem fc_Mo_240 {p : Program} {l : Launch} {e : Env} {R : Room} {s : State} {m : MethodId} {args : Array Value} {below : List Frame} {meth : Method} {c : Code} {Q : State → Prop} {cc : ByteArray} {nL : Nat} {D : va_G} {tys : List (ClassId × FieldType)} {A : Nat → Prop} {cells slots : Nat} {ws w' : va_W} {lv : List (Nat × Value)} {pc : Nat} {st As : List Value} {o : Option Value} {b : Nat} {fs : List Value} (C : gw_C p s m args meth c cc nL R_Mo D gw_cl tys A) (hM : gw_M l y_Mo_reachPlaces w_Mo_reachPlaces rm_Mo_reachPlaces D gw_cl tys (.ref b :: As) ws w' o) (hR : rm_Mo_reachPlaces.frames + 1 ≤ R.frames ∧ 8 + (3 + 11) + rm_Mo_reachPlaces.locals ≤ R.locals) (hf : cells + 0 ≤ R.cells ∧ slots + 0 ≤ R.slots) (q0 : Nat) (he : ws[q0]? = some (b, .inr (7, fs))) (hn : As.length = 1) (hW : (st.map fun v => v.category).sum ≤ 8) (hdg : decode cc pc = .ok (.invokevirtual 240, 3)) (kk : gw_W p l e R s m args below meth c D gw_cl A Q cells slots nL w' lv (pc + 3) (o.toList ++ st)) : gw_W p l e R s m args below meth c D gw_cl A Q cells slots nL ws lv pc (As.reverse ++ .ref b :: st) :=
  gw_callV (T := T_Mo) (N := 48) C hM (gw_good tb_1086) tb_1083 tb_1085 sl_Mo_reachPlaces tb_8 (by decide +kernel) hR hf rfl rfl rfl he hn hW hdg kk
theorem fc_Mo_243 {p : Program} {l : Launch} {e : Env} {R : Room} {s : State} {m : MethodId} {args : Array Value} {below : List Frame} {meth : Method} {c : Code} {Q : State → Prop} {cc : ByteArray} {nL : Nat} {D : va_G} {tys : List (ClassId × FieldType)} {A : Nat → Prop} {cells slots : Nat} {ws w' : va_W} {lv : List (Nat × Value)} {pc : Nat} {st As : List Value} {o : Option Value} {b : Nat} {fs : List Value} (C : gw_C p s m args meth c cc nL R_Mo D gw_cl tys A) (hM : gw_M l y_Mo_reachValue w_Mo_reachValue rm_Mo_reachValue D gw_cl tys (.ref b :: As) ws w' o) (hR : rm_Mo_reachValue.frames + 1 ≤ R.frames ∧ 8 + (4 + 11) + rm_Mo_reachValue.locals ≤ R.locals) (hf : cells + 0 ≤ R.cells ∧ slots + 0 ≤ R.slots) (q0 : Nat) (he : ws[q0]? = some (b, .inr (7, fs))) (hn : As.length = 3) (hW : (st.map fun v => v.category).sum ≤ 8) (hdg : decode cc pc = .ok (.invokevirtual 243, 3)) (kk : gw_W p l e R s m args below meth c D gw_cl A Q cells slots nL w' lv (pc + 3) (o.toList ++ st)) : gw_W p l e R s m args below meth c D gw_cl A Q cells slots nL ws lv pc (As.reverse ++ .ref b :: st) :=
  gw_callV (T := T_Mo) (N := 48) C hM (gw_good tb_1094) tb_1091 tb_1093 sl_Mo_reachValue tb_8 (by decide +kernel) hR hf rfl rfl rfl he hn hW hdg kk
theorem fc_Mo_247 {p : Program} {l : Launch} {e : Env} {R : Room} {s : State} {m : MethodId} {args : Array Value} {below : List Frame} {meth : Method} {c : Code} {Q : State → Prop} {cc : ByteArray} {nL : Nat} {D : va_G} {tys : List (ClassId × FieldType)} {A : Nat → Prop} {cells slots : Nat} {ws w' : va_W} {lv : List (Nat × Value)} {pc : Nat} {st As : List Value} {o : Option Value} {b : Nat} {fs : List Value} (C : gw_C p s m args meth c cc nL R_Mo D gw_cl tys A) (hM : gw_M l y_Mo_reachHand w_Mo_reachHand rm_Mo_reachHand D gw_cl tys (.ref b :: As) ws w' o) (hR : rm_Mo_reachHand.frames + 1 ≤ R.frames ∧ 8 + (2 + 11) + rm_Mo_reachHand.locals ≤ R.locals) (hf : cells + 0 ≤ R.cells ∧ slots + 0 ≤ R.slots) (q0 : Nat) (he : ws[q0]? = some (b, .inr (7, fs))) (hn : As.length = 0) (hW : (st.map fun v => v.category).sum ≤ 8) (hdg : decode cc pc = .ok (.invokevirtual 247, 3)) (kk : gw_W p l e R s m args below meth c D gw_cl A Q cells slots nL w' lv (pc + 3) (o.toList ++ st)) : gw_W p l e R s m args below meth c D gw_cl A Q cells slots nL ws lv pc (As.reverse ++ .ref b :: st) :=
  gw_callV (T := T_Mo) (N := 48) C hM (gw_good tb_1082) tb_1079 tb_1081 sl_Mo_reachHand tb_8 (by decide +kernel) hR hf rfl rfl rfl he hn hW hdg kk
theorem gw_out3 {x : Int32} (h0 : ¬ x = 0) (h1 : ¬ x = 1) (h2 : ¬ x = 2) : x.toInt < 0 ∨ 2 < x.toInt := by
  have e : ∀ k : Int32, ¬ x = k → ¬ x.toInt = k.toInt := fun k h q => h (Int32.toInt_inj.mp q)
  have g0 : ¬ x.toInt = 0 := e 0 h0
  have g1 : ¬ x.toInt = 1 := e 1 h1
  have g2 : ¬ x.toInt = 2 := e 2 h2
  omega
theorem gw_out5 {x : Int32} (h0 : ¬ x = 0) (h1 : ¬ x = 1) (h2 : ¬ x = 2) (h3 : ¬ x = 3) (h4 : ¬ x = 4) : x.toInt < 0 ∨ 4 < x.toInt := by
  have e : ∀ k : Int32, ¬ x = k → ¬ x.toInt = k.toInt := fun k h q => h (Int32.toInt_inj.mp q)
  have g0 : ¬ x.toInt = 0 := e 0 h0
  have g1 : ¬ x.toInt = 1 := e 1 h1
  have g2 : ¬ x.toInt = 2 := e 2 h2
  have g3 : ¬ x.toInt = 3 := e 3 h3
  have g4 : ¬ x.toInt = 4 := e 4 h4
  omega
theorem gw_out7 {x : Int32} (h0 : ¬ x = 0) (h1 : ¬ x = 1) (h2 : ¬ x = 2) (h3 : ¬ x = 3) (h4 : ¬ x = 4) (h5 : ¬ x = 5) (h6 : ¬ x = 6) : x.toInt < 0 ∨ 6 < x.toInt := by
  have e : ∀ k : Int32, ¬ x = k → ¬ x.toInt = k.toInt := fun k h q => h (Int32.toInt_inj.mp q)
  have g0 : ¬ x.toInt = 0 := e 0 h0
  have g1 : ¬ x.toInt = 1 := e 1 h1
  have g2 : ¬ x.toInt = 2 := e 2 h2
  have g3 : ¬ x.toInt = 3 := e 3 h3
  have g4 : ¬ x.toInt = 4 := e 4 h4
  have g5 : ¬ x.toInt = 5 := e 5 h5
  have g6 : ¬ x.toInt = 6 := e 6 h6
  omega
theorem gw_out10 {x : Int32} (h0 : ¬ x = 0) (h1 : ¬ x = 1) (h2 : ¬ x = 2) (h3 : ¬ x = 3) (h4 : ¬ x = 4) (h5 : ¬ x = 5) (h6 : ¬ x = 6) (h7 : ¬ x = 7) (h8 : ¬ x = 8) (h9 : ¬ x = 9) : x.toInt < 0 ∨ 9 < x.toInt := by
  have e : ∀ k : Int32, ¬ x = k → ¬ x.toInt = k.toInt := fun k h q => h (Int32.toInt_inj.mp q)
  have g0 : ¬ x.toInt = 0 := e 0 h0
  have g1 : ¬ x.toInt = 1 := e 1 h1
  have g2 : ¬ x.toInt = 2 := e 2 h2
  have g3 : ¬ x.toInt = 3 := e 3 h3
  have g4 : ¬ x.toInt = 4 := e 4 h4
  have g5 : ¬ x.toInt = 5 := e 5 h5
  have g6 : ¬ x.toInt = 6 := e 6 h6
  have g7 : ¬ x.toInt = 7 := e 7 h7
  have g8 : ¬ x.toInt = 8 := e 8 h8
  have g9 : ¬ x.toInt = 9 := e 9 h9
  omega
end
section
theorem d_Pl_clear_0 : decode b_Pl_clear 0 = .ok (.aload_n 0, 1) := by decide +kernel
theorem d_Pl_clear_1 : decode b_Pl_clear 1 = .ok (.iconst 0, 1) := by decide +kernel
theorem d_Pl_clear_2 : decode b_Pl_clear 2 = .ok (.putfield 21, 3) := by decide +kernel
theorem d_Pl_clear_5 : decode b_Pl_clear 5 = .ok (.return_, 1) := by decide +kernel
theorem d_Th_clear_0 : decode b_Th_clear 0 = .ok (.aload_n 0, 1) := by decide +kernel
theorem d_Th_clear_1 : decode b_Th_clear 1 = .ok (.iconst 0, 1) := by decide +kernel
theorem d_Th_clear_2 : decode b_Th_clear 2 = .ok (.putfield 49, 3) := by decide +kernel
theorem d_Th_clear_5 : decode b_Th_clear 5 = .ok (.aload_n 0, 1) := by decide +kernel
theorem d_Th_clear_6 : decode b_Th_clear 6 = .ok (.iconst 0, 1) := by decide +kernel
theorem d_Th_clear_7 : decode b_Th_clear 7 = .ok (.putfield 53, 3) := by decide +kernel
theorem d_Th_clear_10 : decode b_Th_clear 10 = .ok (.aload_n 0, 1) := by decide +kernel
theorem d_Th_clear_11 : decode b_Th_clear 11 = .ok (.iconst 0, 1) := by decide +kernel
theorem d_Th_clear_12 : decode b_Th_clear 12 = .ok (.putfield 56, 3) := by decide +kernel
theorem d_Th_clear_15 : decode b_Th_clear 15 = .ok (.return_, 1) := by decide +kernel
theorem d_Ro_clear_0 : decode b_Ro_clear 0 = .ok (.aload_n 0, 1) := by decide +kernel
theorem d_Ro_clear_1 : decode b_Ro_clear 1 = .ok (.iconst 0, 1) := by decide +kernel
theorem d_Ro_clear_2 : decode b_Ro_clear 2 = .ok (.putfield 25, 3) := by decide +kernel
theorem d_Ro_clear_5 : decode b_Ro_clear 5 = .ok (.aload_n 0, 1) := by decide +kernel
theorem d_Ro_clear_6 : decode b_Ro_clear 6 = .ok (.iconst 0, 1) := by decide +kernel
theorem d_Ro_clear_7 : decode b_Ro_clear 7 = .ok (.putfield 29, 3) := by decide +kernel
theorem d_Ro_clear_10 : decode b_Ro_clear 10 = .ok (.return_, 1) := by decide +kernel
theorem d_Va_be_0 : decode b_Va_be 0 = .ok (.aload_n 0, 1) := by decide +kernel
theorem d_Va_be_1 : decode b_Va_be 1 = .ok (.iload_n 1, 1) := by decide +kernel
theorem d_Va_be_2 : decode b_Va_be 2 = .ok (.putfield 9, 3) := by decide +kernel
theorem d_Va_be_5 : decode b_Va_be 5 = .ok (.aload_n 0, 1) := by decide +kernel
theorem d_Va_be_6 : decode b_Va_be 6 = .ok (.lload_n 2, 1) := by decide +kernel
theorem d_Va_be_7 : decode b_Va_be 7 = .ok (.putfield 15, 3) := by decide +kernel
theorem d_Va_be_10 : decode b_Va_be 10 = .ok (.aload_n 0, 1) := by decide +kernel
theorem d_Va_be_11 : decode b_Va_be 11 = .ok (.iload 4, 2) := by decide +kernel
theorem d_Va_be_13 : decode b_Va_be 13 = .ok (.putfield 19, 3) := by decide +kernel
theorem d_Va_be_16 : decode b_Va_be 16 = .ok (.aload_n 0, 1) := by decide +kernel
theorem d_Va_be_17 : decode b_Va_be 17 = .ok (.iload 5, 2) := by decide +kernel
theorem d_Va_be_19 : decode b_Va_be 19 = .ok (.putfield 22, 3) := by decide +kernel
theorem d_Va_be_22 : decode b_Va_be 22 = .ok (.return_, 1) := by decide +kernel
theorem d_Va_beNumber_0 : decode b_Va_beNumber 0 = .ok (.aload_n 0, 1) := by decide +kernel
theorem d_Va_beNumber_1 : decode b_Va_beNumber 1 = .ok (.iconst 0, 1) := by decide +kernel
theorem d_Va_beNumber_2 : decode b_Va_beNumber 2 = .ok (.lload_n 1, 1) := by decide +kernel
theorem d_Va_beNumber_3 : decode b_Va_beNumber 3 = .ok (.iconst (-1), 1) := by decide +kernel
theorem d_Va_beNumber_4 : decode b_Va_beNumber 4 = .ok (.iconst (-1), 1) := by decide +kernel
theorem d_Va_beNumber_5 : decode b_Va_beNumber 5 = .ok (.invokevirtual 25, 3) := by decide +kernel
theorem d_Va_beNumber_8 : decode b_Va_beNumber 8 = .ok (.return_, 1) := by decide +kernel
theorem d_Wa_takeTerm_0 : decode b_Wa_takeTerm 0 = .ok (.aload_n 0, 1) := by decide +kernel
theorem d_Wa_takeTerm_1 : decode b_Wa_takeTerm 1 = .ok (.iconst 0, 1) := by decide +kernel
theorem d_Wa_takeTerm_2 : decode b_Wa_takeTerm 2 = .ok (.putfield 54, 3) := by decide +kernel
theorem d_Wa_takeTerm_5 : decode b_Wa_takeTerm 5 = .ok (.aload_n 0, 1) := by decide +kernel
theorem d_Wa_takeTerm_6 : decode b_Wa_takeTerm 6 = .ok (.iload_n 1, 1) := by decide +kernel
theorem d_Wa_takeTerm_7 : decode b_Wa_takeTerm 7 = .ok (.putfield 57, 3) := by decide +kernel
theorem d_Wa_takeTerm_10 : decode b_Wa_takeTerm 10 = .ok (.aload_n 0, 1) := by decide +kernel
theorem d_Wa_takeTerm_11 : decode b_Wa_takeTerm 11 = .ok (.iload_n 2, 1) := by decide +kernel
theorem d_Wa_takeTerm_12 : decode b_Wa_takeTerm 12 = .ok (.putfield 60, 3) := by decide +kernel
theorem d_Wa_takeTerm_15 : decode b_Wa_takeTerm 15 = .ok (.return_, 1) := by decide +kernel
theorem d_Wa_start_0 : decode b_Wa_start 0 = .ok (.aload_n 0, 1) := by decide +kernel
theorem d_Wa_start_1 : decode b_Wa_start 1 = .ok (.getfield 21, 3) := by decide +kernel
theorem d_Wa_start_4 : decode b_Wa_start 4 = .ok (.invokevirtual 84, 3) := by decide +kernel
theorem d_Wa_start_7 : decode b_Wa_start 7 = .ok (.aload_n 0, 1) := by decide +kernel
theorem d_Wa_start_8 : decode b_Wa_start 8 = .ok (.getfield 28, 3) := by decide +kernel
theorem d_Wa_start_11 : decode b_Wa_start 11 = .ok (.invokevirtual 87, 3) := by decide +kernel
theorem d_Wa_start_14 : decode b_Wa_start 14 = .ok (.aload_n 0, 1) := by decide +kernel
theorem d_Wa_start_15 : decode b_Wa_start 15 = .ok (.getfield 35, 3) := by decide +kernel
theorem d_Wa_start_18 : decode b_Wa_start 18 = .ok (.invokevirtual 88, 3) := by decide +kernel
theorem d_Wa_start_21 : decode b_Wa_start 21 = .ok (.aload_n 0, 1) := by decide +kernel
theorem d_Wa_start_22 : decode b_Wa_start 22 = .ok (.getfield 42, 3) := by decide +kernel
theorem d_Wa_start_25 : decode b_Wa_start 25 = .ok (.lconst 0, 1) := by decide +kernel
theorem d_Wa_start_26 : decode b_Wa_start 26 = .ok (.invokevirtual 89, 3) := by decide +kernel
theorem d_Wa_start_29 : decode b_Wa_start 29 = .ok (.aload_n 0, 1) := by decide +kernel
theorem d_Wa_start_30 : decode b_Wa_start 30 = .ok (.iconst 1, 1) := by decide +kernel
theorem d_Wa_start_31 : decode b_Wa_start 31 = .ok (.putfield 46, 3) := by decide +kernel
theorem d_Wa_start_34 : decode b_Wa_start 34 = .ok (.aload_n 0, 1) := by decide +kernel
theorem d_Wa_start_35 : decode b_Wa_start 35 = .ok (.iload_n 2, 1) := by decide +kernel
theorem d_Wa_start_36 : decode b_Wa_start 36 = .ok (.putfield 50, 3) := by decide +kernel
theorem d_Wa_start_39 : decode b_Wa_start 39 = .ok (.aload_n 0, 1) := by decide +kernel
theorem d_Wa_start_40 : decode b_Wa_start 40 = .ok (.iload_n 1, 1) := by decide +kernel
theorem d_Wa_start_41 : decode b_Wa_start 41 = .ok (.iconst (-1), 1) := by decide +kernel
theorem d_Wa_start_42 : decode b_Wa_start 42 = .ok (.invokevirtual 93, 3) := by decide +kernel
theorem d_Wa_start_45 : decode b_Wa_start 45 = .ok (.aload_n 0, 1) := by decide +kernel
theorem d_Wa_start_46 : decode b_Wa_start 46 = .ok (.iconst (-1), 1) := by decide +kernel
theorem d_Wa_start_47 : decode b_Wa_start 47 = .ok (.putfield 63, 3) := by decide +kernel
theorem d_Wa_start_50 : decode b_Wa_start 50 = .ok (.aload_n 0, 1) := by decide +kernel
theorem d_Wa_start_51 : decode b_Wa_start 51 = .ok (.iconst 0, 1) := by decide +kernel
theorem d_Wa_start_52 : decode b_Wa_start 52 = .ok (.putfield 66, 3) := by decide +kernel
theorem d_Wa_start_55 : decode b_Wa_start 55 = .ok (.aload_n 0, 1) := by decide +kernel
theorem d_Wa_start_56 : decode b_Wa_start 56 = .ok (.iconst 0, 1) := by decide +kernel
theorem d_Wa_start_57 : decode b_Wa_start 57 = .ok (.putfield 69, 3) := by decide +kernel
theorem d_Wa_start_60 : decode b_Wa_start 60 = .ok (.aload_n 0, 1) := by decide +kernel
theorem d_Wa_start_61 : decode b_Wa_start 61 = .ok (.iconst 0, 1) := by decide +kernel
theorem d_Wa_start_62 : decode b_Wa_start 62 = .ok (.putfield 72, 3) := by decide +kernel
theorem d_Wa_start_65 : decode b_Wa_start 65 = .ok (.aload_n 0, 1) := by decide +kernel
theorem d_Wa_start_66 : decode b_Wa_start 66 = .ok (.iconst (-1), 1) := by decide +kernel
theorem d_Wa_start_67 : decode b_Wa_start 67 = .ok (.putfield 75, 3) := by decide +kernel
theorem d_Wa_start_70 : decode b_Wa_start 70 = .ok (.return_, 1) := by decide +kernel
theorem d_Wa_turnTo_0 : decode b_Wa_turnTo 0 = .ok (.aload_n 0, 1) := by decide +kernel
theorem d_Wa_turnTo_1 : decode b_Wa_turnTo 1 = .ok (.iconst 2, 1) := by decide +kernel
theorem d_Wa_turnTo_2 : decode b_Wa_turnTo 2 = .ok (.putfield 54, 3) := by decide +kernel
theorem d_Wa_turnTo_5 : decode b_Wa_turnTo 5 = .ok (.aload_n 0, 1) := by decide +kernel
theorem d_Wa_turnTo_6 : decode b_Wa_turnTo 6 = .ok (.iload_n 1, 1) := by decide +kernel
theorem d_Wa_turnTo_7 : decode b_Wa_turnTo 7 = .ok (.putfield 63, 3) := by decide +kernel
theorem d_Wa_turnTo_10 : decode b_Wa_turnTo 10 = .ok (.aload_n 0, 1) := by decide +kernel
theorem d_Wa_turnTo_11 : decode b_Wa_turnTo 11 = .ok (.iconst 1, 1) := by decide +kernel
theorem d_Wa_turnTo_12 : decode b_Wa_turnTo 12 = .ok (.putfield 46, 3) := by decide +kernel
theorem d_Wa_turnTo_15 : decode b_Wa_turnTo 15 = .ok (.return_, 1) := by decide +kernel
theorem d_Th_forgetReached_0 : decode b_Th_forgetReached 0 = .ok (.aload_n 0, 1) := by decide +kernel
theorem d_Th_forgetReached_1 : decode b_Th_forgetReached 1 = .ok (.iconst 0, 1) := by decide +kernel
theorem d_Th_forgetReached_2 : decode b_Th_forgetReached 2 = .ok (.putfield 56, 3) := by decide +kernel
theorem d_Th_forgetReached_5 : decode b_Th_forgetReached 5 = .ok (.return_, 1) := by decide +kernel
theorem d_Pl_mark_0 : decode b_Pl_mark 0 = .ok (.iload_n 1, 1) := by decide +kernel
theorem d_Pl_mark_1 : decode b_Pl_mark 1 = .ok (.ifCond .lt 20, 3) := by decide +kernel
theorem d_Pl_mark_4 : decode b_Pl_mark 4 = .ok (.iload_n 1, 1) := by decide +kernel
theorem d_Pl_mark_5 : decode b_Pl_mark 5 = .ok (.sipush 1000, 3) := by decide +kernel
theorem d_Pl_mark_8 : decode b_Pl_mark 8 = .ok (.if_icmp .ge 13, 3) := by decide +kernel
theorem d_Pl_mark_11 : decode b_Pl_mark 11 = .ok (.aload_n 0, 1) := by decide +kernel
theorem d_Pl_mark_12 : decode b_Pl_mark 12 = .ok (.getfield 18, 3) := by decide +kernel
theorem d_Pl_mark_15 : decode b_Pl_mark 15 = .ok (.iload_n 1, 1) := by decide +kernel
theorem d_Pl_mark_16 : decode b_Pl_mark 16 = .ok (.iaload, 1) := by decide +kernel
theorem d_Pl_mark_17 : decode b_Pl_mark 17 = .ok (.iload_n 2, 1) := by decide +kernel
theorem d_Pl_mark_18 : decode b_Pl_mark 18 = .ok (.if_icmp .ne 5, 3) := by decide +kernel
theorem d_Pl_mark_21 : decode b_Pl_mark 21 = .ok (.iconst 0, 1) := by decide +kernel
theorem d_Pl_mark_22 : decode b_Pl_mark 22 = .ok (.ireturn, 1) := by decide +kernel
theorem d_Pl_mark_23 : decode b_Pl_mark 23 = .ok (.aload_n 0, 1) := by decide +kernel
theorem d_Pl_mark_24 : decode b_Pl_mark 24 = .ok (.getfield 18, 3) := by decide +kernel
theorem d_Pl_mark_27 : decode b_Pl_mark 27 = .ok (.iload_n 1, 1) := by decide +kernel
theorem d_Pl_mark_28 : decode b_Pl_mark 28 = .ok (.iload_n 2, 1) := by decide +kernel
theorem d_Pl_mark_29 : decode b_Pl_mark 29 = .ok (.iastore, 1) := by decide +kernel
theorem d_Pl_mark_30 : decode b_Pl_mark 30 = .ok (.iconst 1, 1) := by decide +kernel
theorem d_Pl_mark_31 : decode b_Pl_mark 31 = .ok (.ireturn, 1) := by decide +kernel
theorem d_Pl_has_0 : decode b_Pl_has 0 = .ok (.iload_n 1, 1) := by decide +kernel
theorem d_Pl_has_1 : decode b_Pl_has 1 = .ok (.ifCond .lt 22, 3) := by decide +kernel
theorem d_Pl_has_4 : decode b_Pl_has 4 = .ok (.iload_n 1, 1) := by decide +kernel
theorem d_Pl_has_5 : decode b_Pl_has 5 = .ok (.aload_n 0, 1) := by decide +kernel
theorem d_Pl_has_6 : decode b_Pl_has 6 = .ok (.getfield 21, 3) := by decide +kernel
theorem d_Pl_has_9 : decode b_Pl_has 9 = .ok (.if_icmp .ge 14, 3) := by decide +kernel
theorem d_Pl_has_12 : decode b_Pl_has 12 = .ok (.iload_n 1, 1) := by decide +kernel
theorem d_Pl_has_13 : decode b_Pl_has 13 = .ok (.sipush 1000, 3) := by decide +kernel
theorem d_Pl_has_16 : decode b_Pl_has 16 = .ok (.if_icmp .ge 7, 3) := by decide +kernel
theorem d_Pl_has_19 : decode b_Pl_has 19 = .ok (.iconst 1, 1) := by decide +kernel
theorem d_Pl_has_20 : decode b_Pl_has 20 = .ok (.goto 4, 3) := by decide +kernel
theorem d_Pl_has_23 : decode b_Pl_has 23 = .ok (.iconst 0, 1) := by decide +kernel
theorem d_Pl_has_24 : decode b_Pl_has 24 = .ok (.ireturn, 1) := by decide +kernel
theorem d_Pl_heldBy_0 : decode b_Pl_heldBy 0 = .ok (.aload_n 0, 1) := by decide +kernel
theorem d_Pl_heldBy_1 : decode b_Pl_heldBy 1 = .ok (.iload_n 1, 1) := by decide +kernel
theorem d_Pl_heldBy_2 : decode b_Pl_heldBy 2 = .ok (.invokevirtual 25, 3) := by decide +kernel
theorem d_Pl_heldBy_5 : decode b_Pl_heldBy 5 = .ok (.ifCond .eq 12, 3) := by decide +kernel
theorem d_Pl_heldBy_8 : decode b_Pl_heldBy 8 = .ok (.aload_n 0, 1) := by decide +kernel
theorem d_Pl_heldBy_9 : decode b_Pl_heldBy 9 = .ok (.getfield 9, 3) := by decide +kernel
theorem d_Pl_heldBy_12 : decode b_Pl_heldBy 12 = .ok (.iload_n 1, 1) := by decide +kernel
theorem d_Pl_heldBy_13 : decode b_Pl_heldBy 13 = .ok (.iaload, 1) := by decide +kernel
theorem d_Pl_heldBy_14 : decode b_Pl_heldBy 14 = .ok (.goto 4, 3) := by decide +kernel
theorem d_Pl_heldBy_17 : decode b_Pl_heldBy 17 = .ok (.iconst (-1), 1) := by decide +kernel
theorem d_Pl_heldBy_18 : decode b_Pl_heldBy 18 = .ok (.ireturn, 1) := by decide +kernel
theorem d_Th_reach_0 : decode b_Th_reach 0 = .ok (.aload_n 0, 1) := by decide +kernel
theorem d_Th_reach_1 : decode b_Th_reach 1 = .ok (.getfield 56, 3) := by decide +kernel
theorem d_Th_reach_4 : decode b_Th_reach 4 = .ok (.istore_n 3, 1) := by decide +kernel
theorem d_Th_reach_5 : decode b_Th_reach 5 = .ok (.iload_n 1, 1) := by decide +kernel
theorem d_Th_reach_6 : decode b_Th_reach 6 = .ok (.ifCond .lt 31, 3) := by decide +kernel
theorem d_Th_reach_9 : decode b_Th_reach 9 = .ok (.iload_n 1, 1) := by decide +kernel
theorem d_Th_reach_10 : decode b_Th_reach 10 = .ok (.sipush 1000, 3) := by decide +kernel
theorem d_Th_reach_13 : decode b_Th_reach 13 = .ok (.if_icmp .ge 24, 3) := by decide +kernel
theorem d_Th_reach_16 : decode b_Th_reach 16 = .ok (.iload_n 3, 1) := by decide +kernel
theorem d_Th_reach_17 : decode b_Th_reach 17 = .ok (.ifCond .lt 20, 3) := by decide +kernel
theorem d_Th_reach_20 : decode b_Th_reach 20 = .ok (.iload_n 3, 1) := by decide +kernel
theorem d_Th_reach_21 : decode b_Th_reach 21 = .ok (.sipush 300, 3) := by decide +kernel
theorem d_Th_reach_24 : decode b_Th_reach 24 = .ok (.if_icmp .ge 13, 3) := by decide +kernel
theorem d_Th_reach_27 : decode b_Th_reach 27 = .ok (.aload_n 0, 1) := by decide +kernel
theorem d_Th_reach_28 : decode b_Th_reach 28 = .ok (.getfield 40, 3) := by decide +kernel
theorem d_Th_reach_31 : decode b_Th_reach 31 = .ok (.iload_n 1, 1) := by decide +kernel
theorem d_Th_reach_32 : decode b_Th_reach 32 = .ok (.iaload, 1) := by decide +kernel
theorem d_Th_reach_33 : decode b_Th_reach 33 = .ok (.iload_n 2, 1) := by decide +kernel
theorem d_Th_reach_34 : decode b_Th_reach 34 = .ok (.if_icmp .ne 4, 3) := by decide +kernel
theorem d_Th_reach_37 : decode b_Th_reach 37 = .ok (.return_, 1) := by decide +kernel
theorem d_Th_reach_38 : decode b_Th_reach 38 = .ok (.aload_n 0, 1) := by decide +kernel
theorem d_Th_reach_39 : decode b_Th_reach 39 = .ok (.getfield 40, 3) := by decide +kernel
theorem d_Th_reach_42 : decode b_Th_reach 42 = .ok (.iload_n 1, 1) := by decide +kernel
theorem d_Th_reach_43 : decode b_Th_reach 43 = .ok (.iload_n 2, 1) := by decide +kernel
theorem d_Th_reach_44 : decode b_Th_reach 44 = .ok (.iastore, 1) := by decide +kernel
theorem d_Th_reach_45 : decode b_Th_reach 45 = .ok (.aload_n 0, 1) := by decide +kernel
theorem d_Th_reach_46 : decode b_Th_reach 46 = .ok (.getfield 46, 3) := by decide +kernel
theorem d_Th_reach_49 : decode b_Th_reach 49 = .ok (.iload_n 3, 1) := by decide +kernel
theorem d_Th_reach_50 : decode b_Th_reach 50 = .ok (.iload_n 1, 1) := by decide +kernel
theorem d_Th_reach_51 : decode b_Th_reach 51 = .ok (.iastore, 1) := by decide +kernel
theorem d_Th_reach_52 : decode b_Th_reach 52 = .ok (.aload_n 0, 1) := by decide +kernel
theorem d_Th_reach_53 : decode b_Th_reach 53 = .ok (.iload_n 3, 1) := by decide +kernel
theorem d_Th_reach_54 : decode b_Th_reach 54 = .ok (.iconst 1, 1) := by decide +kernel
theorem d_Th_reach_55 : decode b_Th_reach 55 = .ok (.iadd, 1) := by decide +kernel
theorem d_Th_reach_56 : decode b_Th_reach 56 = .ok (.putfield 56, 3) := by decide +kernel
theorem d_Th_reach_59 : decode b_Th_reach 59 = .ok (.return_, 1) := by decide +kernel
theorem d_Pl_outerOf_0 : decode b_Pl_outerOf 0 = .ok (.aload_n 0, 1) := by decide +kernel
theorem d_Pl_outerOf_1 : decode b_Pl_outerOf 1 = .ok (.iload_n 1, 1) := by decide +kernel
theorem d_Pl_outerOf_2 : decode b_Pl_outerOf 2 = .ok (.invokevirtual 25, 3) := by decide +kernel
theorem d_Pl_outerOf_5 : decode b_Pl_outerOf 5 = .ok (.ifCond .eq 12, 3) := by decide +kernel
theorem d_Pl_outerOf_8 : decode b_Pl_outerOf 8 = .ok (.aload_n 0, 1) := by decide +kernel
theorem d_Pl_outerOf_9 : decode b_Pl_outerOf 9 = .ok (.getfield 15, 3) := by decide +kernel
theorem d_Pl_outerOf_12 : decode b_Pl_outerOf 12 = .ok (.iload_n 1, 1) := by decide +kernel
theorem d_Pl_outerOf_13 : decode b_Pl_outerOf 13 = .ok (.iaload, 1) := by decide +kernel
theorem d_Pl_outerOf_14 : decode b_Pl_outerOf 14 = .ok (.goto 4, 3) := by decide +kernel
theorem d_Pl_outerOf_17 : decode b_Pl_outerOf 17 = .ok (.iconst (-1), 1) := by decide +kernel
theorem d_Pl_outerOf_18 : decode b_Pl_outerOf 18 = .ok (.ireturn, 1) := by decide +kernel
theorem d_Wa_reachPlaces_0 : decode b_Wa_reachPlaces 0 = .ok (.iload_n 1, 1) := by decide +kernel
theorem d_Wa_reachPlaces_1 : decode b_Wa_reachPlaces 1 = .ok (.istore_n 2, 1) := by decide +kernel
theorem d_Wa_reachPlaces_2 : decode b_Wa_reachPlaces 2 = .ok (.iconst 0, 1) := by decide +kernel
theorem d_Wa_reachPlaces_3 : decode b_Wa_reachPlaces 3 = .ok (.istore_n 3, 1) := by decide +kernel
theorem d_Wa_reachPlaces_4 : decode b_Wa_reachPlaces 4 = .ok (.iload_n 3, 1) := by decide +kernel
theorem d_Wa_reachPlaces_5 : decode b_Wa_reachPlaces 5 = .ok (.sipush 1000, 3) := by decide +kernel
theorem d_Wa_reachPlaces_8 : decode b_Wa_reachPlaces 8 = .ok (.if_icmp .ge 52, 3) := by decide +kernel
theorem d_Wa_reachPlaces_11 : decode b_Wa_reachPlaces 11 = .ok (.aload_n 0, 1) := by decide +kernel
theorem d_Wa_reachPlaces_12 : decode b_Wa_reachPlaces 12 = .ok (.getfield 21, 3) := by decide +kernel
theorem d_Wa_reachPlaces_15 : decode b_Wa_reachPlaces 15 = .ok (.iload_n 2, 1) := by decide +kernel
theorem d_Wa_reachPlaces_16 : decode b_Wa_reachPlaces 16 = .ok (.aload_n 0, 1) := by decide +kernel
theorem d_Wa_reachPlaces_17 : decode b_Wa_reachPlaces 17 = .ok (.getfield 81, 3) := by decide +kernel
theorem d_Wa_reachPlaces_20 : decode b_Wa_reachPlaces 20 = .ok (.invokevirtual 299, 3) := by decide +kernel
theorem d_Wa_reachPlaces_23 : decode b_Wa_reachPlaces 23 = .ok (.ifCond .eq 37, 3) := by decide +kernel
theorem d_Wa_reachPlaces_26 : decode b_Wa_reachPlaces 26 = .ok (.aload_n 0, 1) := by decide +kernel
theorem d_Wa_reachPlaces_27 : decode b_Wa_reachPlaces 27 = .ok (.getfield 28, 3) := by decide +kernel
theorem d_Wa_reachPlaces_30 : decode b_Wa_reachPlaces 30 = .ok (.aload_n 0, 1) := by decide +kernel
theorem d_Wa_reachPlaces_31 : decode b_Wa_reachPlaces 31 = .ok (.getfield 21, 3) := by decide +kernel
theorem d_Wa_reachPlaces_34 : decode b_Wa_reachPlaces 34 = .ok (.iload_n 2, 1) := by decide +kernel
theorem d_Wa_reachPlaces_35 : decode b_Wa_reachPlaces 35 = .ok (.invokevirtual 303, 3) := by decide +kernel
theorem d_Wa_reachPlaces_38 : decode b_Wa_reachPlaces 38 = .ok (.aload_n 0, 1) := by decide +kernel
theorem d_Wa_reachPlaces_39 : decode b_Wa_reachPlaces 39 = .ok (.getfield 81, 3) := by decide +kernel
theorem d_Wa_reachPlaces_42 : decode b_Wa_reachPlaces 42 = .ok (.invokevirtual 287, 3) := by decide +kernel
theorem d_Wa_reachPlaces_45 : decode b_Wa_reachPlaces 45 = .ok (.aload_n 0, 1) := by decide +kernel
theorem d_Wa_reachPlaces_46 : decode b_Wa_reachPlaces 46 = .ok (.getfield 21, 3) := by decide +kernel
theorem d_Wa_reachPlaces_49 : decode b_Wa_reachPlaces 49 = .ok (.iload_n 2, 1) := by decide +kernel
theorem d_Wa_reachPlaces_50 : decode b_Wa_reachPlaces 50 = .ok (.invokevirtual 306, 3) := by decide +kernel
theorem d_Wa_reachPlaces_53 : decode b_Wa_reachPlaces 53 = .ok (.istore_n 2, 1) := by decide +kernel
theorem d_Wa_reachPlaces_54 : decode b_Wa_reachPlaces 54 = .ok (.iinc 3 1, 3) := by decide +kernel
theorem d_Wa_reachPlaces_57 : decode b_Wa_reachPlaces 57 = .ok (.goto (-53), 3) := by decide +kernel
theorem d_Wa_reachPlaces_60 : decode b_Wa_reachPlaces 60 = .ok (.return_, 1) := by decide +kernel
theorem d_Wa_reachOfValue_0 : decode b_Wa_reachOfValue 0 = .ok (.iload_n 1, 1) := by decide +kernel
theorem d_Wa_reachOfValue_1 : decode b_Wa_reachOfValue 1 = .ok (.iconst 1, 1) := by decide +kernel
theorem d_Wa_reachOfValue_2 : decode b_Wa_reachOfValue 2 = .ok (.if_icmp .ne 11, 3) := by decide +kernel
theorem d_Wa_reachOfValue_5 : decode b_Wa_reachOfValue 5 = .ok (.aload_n 0, 1) := by decide +kernel
theorem d_Wa_reachOfValue_6 : decode b_Wa_reachOfValue 6 = .ok (.iload_n 3, 1) := by decide +kernel
theorem d_Wa_reachOfValue_7 : decode b_Wa_reachOfValue 7 = .ok (.invokevirtual 280, 3) := by decide +kernel
theorem d_Wa_reachOfValue_10 : decode b_Wa_reachOfValue 10 = .ok (.goto 32, 3) := by decide +kernel
theorem d_Wa_reachOfValue_13 : decode b_Wa_reachOfValue 13 = .ok (.iload_n 1, 1) := by decide +kernel
theorem d_Wa_reachOfValue_14 : decode b_Wa_reachOfValue 14 = .ok (.iconst 2, 1) := by decide +kernel
theorem d_Wa_reachOfValue_15 : decode b_Wa_reachOfValue 15 = .ok (.if_icmp .ne 27, 3) := by decide +kernel
theorem d_Wa_reachOfValue_18 : decode b_Wa_reachOfValue 18 = .ok (.aload_n 0, 1) := by decide +kernel
theorem d_Wa_reachOfValue_19 : decode b_Wa_reachOfValue 19 = .ok (.getfield 28, 3) := by decide +kernel
theorem d_Wa_reachOfValue_22 : decode b_Wa_reachOfValue 22 = .ok (.iload_n 2, 1) := by decide +kernel
theorem d_Wa_reachOfValue_23 : decode b_Wa_reachOfValue 23 = .ok (.aload_n 0, 1) := by decide +kernel
theorem d_Wa_reachOfValue_24 : decode b_Wa_reachOfValue 24 = .ok (.getfield 81, 3) := by decide +kernel
theorem d_Wa_reachOfValue_27 : decode b_Wa_reachOfValue 27 = .ok (.invokevirtual 287, 3) := by decide +kernel
theorem d_Wa_reachOfValue_30 : decode b_Wa_reachOfValue 30 = .ok (.aload_n 0, 1) := by decide +kernel
theorem d_Wa_reachOfValue_31 : decode b_Wa_reachOfValue 31 = .ok (.getfield 28, 3) := by decide +kernel
theorem d_Wa_reachOfValue_34 : decode b_Wa_reachOfValue 34 = .ok (.iload_n 3, 1) := by decide +kernel
theorem d_Wa_reachOfValue_35 : decode b_Wa_reachOfValue 35 = .ok (.aload_n 0, 1) := by decide +kernel
theorem d_Wa_reachOfValue_36 : decode b_Wa_reachOfValue 36 = .ok (.getfield 81, 3) := by decide +kernel
theorem d_Wa_reachOfValue_39 : decode b_Wa_reachOfValue 39 = .ok (.invokevirtual 287, 3) := by decide +kernel
theorem d_Wa_reachOfValue_42 : decode b_Wa_reachOfValue 42 = .ok (.return_, 1) := by decide +kernel
theorem d_Wa_reachFromHand_0 : decode b_Wa_reachFromHand 0 = .ok (.aload_n 0, 1) := by decide +kernel
theorem d_Wa_reachFromHand_1 : decode b_Wa_reachFromHand 1 = .ok (.getfield 54, 3) := by decide +kernel
theorem d_Wa_reachFromHand_4 : decode b_Wa_reachFromHand 4 = .ok (.ifCond .ne 14, 3) := by decide +kernel
theorem d_Wa_reachFromHand_7 : decode b_Wa_reachFromHand 7 = .ok (.aload_n 0, 1) := by decide +kernel
theorem d_Wa_reachFromHand_8 : decode b_Wa_reachFromHand 8 = .ok (.aload_n 0, 1) := by decide +kernel
theorem d_Wa_reachFromHand_9 : decode b_Wa_reachFromHand 9 = .ok (.getfield 60, 3) := by decide +kernel
theorem d_Wa_reachFromHand_12 : decode b_Wa_reachFromHand 12 = .ok (.invokevirtual 280, 3) := by decide +kernel
theorem d_Wa_reachFromHand_15 : decode b_Wa_reachFromHand 15 = .ok (.goto 54, 3) := by decide +kernel
theorem d_Wa_reachFromHand_18 : decode b_Wa_reachFromHand 18 = .ok (.aload_n 0, 1) := by decide +kernel
theorem d_Wa_reachFromHand_19 : decode b_Wa_reachFromHand 19 = .ok (.getfield 54, 3) := by decide +kernel
theorem d_Wa_reachFromHand_22 : decode b_Wa_reachFromHand 22 = .ok (.iconst 1, 1) := by decide +kernel
theorem d_Wa_reachFromHand_23 : decode b_Wa_reachFromHand 23 = .ok (.if_icmp .ne 31, 3) := by decide +kernel
theorem d_Wa_reachFromHand_26 : decode b_Wa_reachFromHand 26 = .ok (.aload_n 0, 1) := by decide +kernel
theorem d_Wa_reachFromHand_27 : decode b_Wa_reachFromHand 27 = .ok (.aload_n 0, 1) := by decide +kernel
theorem d_Wa_reachFromHand_28 : decode b_Wa_reachFromHand 28 = .ok (.getfield 42, 3) := by decide +kernel
theorem d_Wa_reachFromHand_31 : decode b_Wa_reachFromHand 31 = .ok (.getfield 248, 3) := by decide +kernel
theorem d_Wa_reachFromHand_34 : decode b_Wa_reachFromHand 34 = .ok (.aload_n 0, 1) := by decide +kernel
theorem d_Wa_reachFromHand_35 : decode b_Wa_reachFromHand 35 = .ok (.getfield 42, 3) := by decide +kernel
theorem d_Wa_reachFromHand_38 : decode b_Wa_reachFromHand 38 = .ok (.getfield 239, 3) := by decide +kernel
theorem d_Wa_reachFromHand_41 : decode b_Wa_reachFromHand 41 = .ok (.aload_n 0, 1) := by decide +kernel
theorem d_Wa_reachFromHand_42 : decode b_Wa_reachFromHand 42 = .ok (.getfield 42, 3) := by decide +kernel
theorem d_Wa_reachFromHand_45 : decode b_Wa_reachFromHand 45 = .ok (.getfield 245, 3) := by decide +kernel
theorem d_Wa_reachFromHand_48 : decode b_Wa_reachFromHand 48 = .ok (.invokevirtual 283, 3) := by decide +kernel
theorem d_Wa_reachFromHand_51 : decode b_Wa_reachFromHand 51 = .ok (.goto 18, 3) := by decide +kernel
theorem d_Wa_reachFromHand_54 : decode b_Wa_reachFromHand 54 = .ok (.aload_n 0, 1) := by decide +kernel
theorem d_Wa_reachFromHand_55 : decode b_Wa_reachFromHand 55 = .ok (.getfield 28, 3) := by decide +kernel
theorem d_Wa_reachFromHand_58 : decode b_Wa_reachFromHand 58 = .ok (.aload_n 0, 1) := by decide +kernel
theorem d_Wa_reachFromHand_59 : decode b_Wa_reachFromHand 59 = .ok (.getfield 63, 3) := by decide +kernel
theorem d_Wa_reachFromHand_62 : decode b_Wa_reachFromHand 62 = .ok (.aload_n 0, 1) := by decide +kernel
theorem d_Wa_reachFromHand_63 : decode b_Wa_reachFromHand 63 = .ok (.getfield 81, 3) := by decide +kernel
theorem d_Wa_reachFromHand_66 : decode b_Wa_reachFromHand 66 = .ok (.invokevirtual 287, 3) := by decide +kernel
theorem d_Wa_reachFromHand_69 : decode b_Wa_reachFromHand 69 = .ok (.return_, 1) := by decide +kernel
theorem d_Ro_has_0 : decode b_Ro_has 0 = .ok (.iload_n 1, 1) := by decide +kernel
theorem d_Ro_has_1 : decode b_Ro_has 1 = .ok (.ifCond .lt 22, 3) := by decide +kernel
theorem d_Ro_has_4 : decode b_Ro_has 4 = .ok (.iload_n 1, 1) := by decide +kernel
theorem d_Ro_has_5 : decode b_Ro_has 5 = .ok (.aload_n 0, 1) := by decide +kernel
theorem d_Ro_has_6 : decode b_Ro_has 6 = .ok (.getfield 25, 3) := by decide +kernel
theorem d_Ro_has_9 : decode b_Ro_has 9 = .ok (.if_icmp .ge 14, 3) := by decide +kernel
theorem d_Ro_has_12 : decode b_Ro_has 12 = .ok (.iload_n 1, 1) := by decide +kernel
theorem d_Ro_has_13 : decode b_Ro_has 13 = .ok (.sipush 300, 3) := by decide +kernel
theorem d_Ro_has_16 : decode b_Ro_has 16 = .ok (.if_icmp .ge 7, 3) := by decide +kernel
theorem d_Ro_has_19 : decode b_Ro_has 19 = .ok (.iconst 1, 1) := by decide +kernel
theorem d_Ro_has_20 : decode b_Ro_has 20 = .ok (.goto 4, 3) := by decide +kernel
theorem d_Ro_has_23 : decode b_Ro_has 23 = .ok (.iconst 0, 1) := by decide +kernel
theorem d_Ro_has_24 : decode b_Ro_has 24 = .ok (.ireturn, 1) := by decide +kernel
theorem d_Ro_kindOf_0 : decode b_Ro_kindOf 0 = .ok (.aload_n 0, 1) := by decide +kernel
theorem d_Ro_kindOf_1 : decode b_Ro_kindOf 1 = .ok (.iload_n 1, 1) := by decide +kernel
theorem d_Ro_kindOf_2 : decode b_Ro_kindOf 2 = .ok (.invokevirtual 32, 3) := by decide +kernel
theorem d_Ro_kindOf_5 : decode b_Ro_kindOf 5 = .ok (.ifCond .eq 12, 3) := by decide +kernel
theorem d_Ro_kindOf_8 : decode b_Ro_kindOf 8 = .ok (.aload_n 0, 1) := by decide +kernel
theorem d_Ro_kindOf_9 : decode b_Ro_kindOf 9 = .ok (.getfield 9, 3) := by decide +kernel
theorem d_Ro_kindOf_12 : decode b_Ro_kindOf 12 = .ok (.iload_n 1, 1) := by decide +kernel
theorem d_Ro_kindOf_13 : decode b_Ro_kindOf 13 = .ok (.iaload, 1) := by decide +kernel
theorem d_Ro_kindOf_14 : decode b_Ro_kindOf 14 = .ok (.goto 4, 3) := by decide +kernel
theorem d_Ro_kindOf_17 : decode b_Ro_kindOf 17 = .ok (.iconst (-1), 1) := by decide +kernel
theorem d_Ro_kindOf_18 : decode b_Ro_kindOf 18 = .ok (.ireturn, 1) := by decide +kernel
theorem d_Ro_firstOf_0 : decode b_Ro_firstOf 0 = .ok (.aload_n 0, 1) := by decide +kernel
theorem d_Ro_firstOf_1 : decode b_Ro_firstOf 1 = .ok (.iload_n 1, 1) := by decide +kernel
theorem d_Ro_firstOf_2 : decode b_Ro_firstOf 2 = .ok (.invokevirtual 32, 3) := by decide +kernel
theorem d_Ro_firstOf_5 : decode b_Ro_firstOf 5 = .ok (.ifCond .eq 12, 3) := by decide +kernel
theorem d_Ro_firstOf_8 : decode b_Ro_firstOf 8 = .ok (.aload_n 0, 1) := by decide +kernel
theorem d_Ro_firstOf_9 : decode b_Ro_firstOf 9 = .ok (.getfield 15, 3) := by decide +kernel
theorem d_Ro_firstOf_12 : decode b_Ro_firstOf 12 = .ok (.iload_n 1, 1) := by decide +kernel
theorem d_Ro_firstOf_13 : decode b_Ro_firstOf 13 = .ok (.iaload, 1) := by decide +kernel
theorem d_Ro_firstOf_14 : decode b_Ro_firstOf 14 = .ok (.goto 4, 3) := by decide +kernel
theorem d_Ro_firstOf_17 : decode b_Ro_firstOf 17 = .ok (.iconst (-1), 1) := by decide +kernel
theorem d_Ro_firstOf_18 : decode b_Ro_firstOf 18 = .ok (.ireturn, 1) := by decide +kernel
theorem d_Ro_secondOf_0 : decode b_Ro_secondOf 0 = .ok (.aload_n 0, 1) := by decide +kernel
theorem d_Ro_secondOf_1 : decode b_Ro_secondOf 1 = .ok (.iload_n 1, 1) := by decide +kernel
theorem d_Ro_secondOf_2 : decode b_Ro_secondOf 2 = .ok (.invokevirtual 32, 3) := by decide +kernel
theorem d_Ro_secondOf_5 : decode b_Ro_secondOf 5 = .ok (.ifCond .eq 12, 3) := by decide +kernel
theorem d_Ro_secondOf_8 : decode b_Ro_secondOf 8 = .ok (.aload_n 0, 1) := by decide +kernel
theorem d_Ro_secondOf_9 : decode b_Ro_secondOf 9 = .ok (.getfield 18, 3) := by decide +kernel
theorem d_Ro_secondOf_12 : decode b_Ro_secondOf 12 = .ok (.iload_n 1, 1) := by decide +kernel
theorem d_Ro_secondOf_13 : decode b_Ro_secondOf 13 = .ok (.iaload, 1) := by decide +kernel
theorem d_Ro_secondOf_14 : decode b_Ro_secondOf 14 = .ok (.goto 4, 3) := by decide +kernel
theorem d_Ro_secondOf_17 : decode b_Ro_secondOf 17 = .ok (.iconst (-1), 1) := by decide +kernel
theorem d_Ro_secondOf_18 : decode b_Ro_secondOf 18 = .ok (.ireturn, 1) := by decide +kernel
theorem d_Wa_reachFromRow_0 : decode b_Wa_reachFromRow 0 = .ok (.iconst 0, 1) := by decide +kernel
theorem d_Wa_reachFromRow_1 : decode b_Wa_reachFromRow 1 = .ok (.istore_n 1, 1) := by decide +kernel
theorem d_Wa_reachFromRow_2 : decode b_Wa_reachFromRow 2 = .ok (.iload_n 1, 1) := by decide +kernel
theorem d_Wa_reachFromRow_3 : decode b_Wa_reachFromRow 3 = .ok (.aload_n 0, 1) := by decide +kernel
theorem d_Wa_reachFromRow_4 : decode b_Wa_reachFromRow 4 = .ok (.getfield 35, 3) := by decide +kernel
theorem d_Wa_reachFromRow_7 : decode b_Wa_reachFromRow 7 = .ok (.getfield 111, 3) := by decide +kernel
theorem d_Wa_reachFromRow_10 : decode b_Wa_reachFromRow 10 = .ok (.if_icmp .ge 89, 3) := by decide +kernel
theorem d_Wa_reachFromRow_13 : decode b_Wa_reachFromRow 13 = .ok (.aload_n 0, 1) := by decide +kernel
theorem d_Wa_reachFromRow_14 : decode b_Wa_reachFromRow 14 = .ok (.getfield 35, 3) := by decide +kernel
theorem d_Wa_reachFromRow_17 : decode b_Wa_reachFromRow 17 = .ok (.iload_n 1, 1) := by decide +kernel
theorem d_Wa_reachFromRow_18 : decode b_Wa_reachFromRow 18 = .ok (.invokevirtual 124, 3) := by decide +kernel
theorem d_Wa_reachFromRow_21 : decode b_Wa_reachFromRow 21 = .ok (.tableswitch 72 0 4 #[35, 35, 57, 72, 57], 35) := by decide +kernel
theorem d_Wa_reachFromRow_56 : decode b_Wa_reachFromRow 56 = .ok (.aload_n 0, 1) := by decide +kernel
theorem d_Wa_reachFromRow_57 : decode b_Wa_reachFromRow 57 = .ok (.getfield 28, 3) := by decide +kernel
theorem d_Wa_reachFromRow_60 : decode b_Wa_reachFromRow 60 = .ok (.aload_n 0, 1) := by decide +kernel
theorem d_Wa_reachFromRow_61 : decode b_Wa_reachFromRow 61 = .ok (.getfield 35, 3) := by decide +kernel
theorem d_Wa_reachFromRow_64 : decode b_Wa_reachFromRow 64 = .ok (.iload_n 1, 1) := by decide +kernel
theorem d_Wa_reachFromRow_65 : decode b_Wa_reachFromRow 65 = .ok (.invokevirtual 128, 3) := by decide +kernel
theorem d_Wa_reachFromRow_68 : decode b_Wa_reachFromRow 68 = .ok (.aload_n 0, 1) := by decide +kernel
theorem d_Wa_reachFromRow_69 : decode b_Wa_reachFromRow 69 = .ok (.getfield 81, 3) := by decide +kernel
theorem d_Wa_reachFromRow_72 : decode b_Wa_reachFromRow 72 = .ok (.invokevirtual 287, 3) := by decide +kernel
theorem d_Wa_reachFromRow_75 : decode b_Wa_reachFromRow 75 = .ok (.goto 18, 3) := by decide +kernel
theorem d_Wa_reachFromRow_78 : decode b_Wa_reachFromRow 78 = .ok (.aload_n 0, 1) := by decide +kernel
theorem d_Wa_reachFromRow_79 : decode b_Wa_reachFromRow 79 = .ok (.aload_n 0, 1) := by decide +kernel
theorem d_Wa_reachFromRow_80 : decode b_Wa_reachFromRow 80 = .ok (.getfield 35, 3) := by decide +kernel
theorem d_Wa_reachFromRow_83 : decode b_Wa_reachFromRow 83 = .ok (.iload_n 1, 1) := by decide +kernel
theorem d_Wa_reachFromRow_84 : decode b_Wa_reachFromRow 84 = .ok (.invokevirtual 224, 3) := by decide +kernel
theorem d_Wa_reachFromRow_87 : decode b_Wa_reachFromRow 87 = .ok (.invokevirtual 280, 3) := by decide +kernel
theorem d_Wa_reachFromRow_90 : decode b_Wa_reachFromRow 90 = .ok (.goto 3, 3) := by decide +kernel
theorem d_Wa_reachFromRow_93 : decode b_Wa_reachFromRow 93 = .ok (.iinc 1 1, 3) := by decide +kernel
theorem d_Wa_reachFromRow_96 : decode b_Wa_reachFromRow 96 = .ok (.goto (-94), 3) := by decide +kernel
theorem d_Wa_reachFromRow_99 : decode b_Wa_reachFromRow 99 = .ok (.return_, 1) := by decide +kernel
theorem d_Th_reachedAt_0 : decode b_Th_reachedAt 0 = .ok (.iload_n 1, 1) := by decide +kernel
theorem d_Th_reachedAt_1 : decode b_Th_reachedAt 1 = .ok (.ifCond .lt 27, 3) := by decide +kernel
theorem d_Th_reachedAt_4 : decode b_Th_reachedAt 4 = .ok (.iload_n 1, 1) := by decide +kernel
theorem d_Th_reachedAt_5 : decode b_Th_reachedAt 5 = .ok (.aload_n 0, 1) := by decide +kernel
theorem d_Th_reachedAt_6 : decode b_Th_reachedAt 6 = .ok (.getfield 56, 3) := by decide +kernel
theorem d_Th_reachedAt_9 : decode b_Th_reachedAt 9 = .ok (.if_icmp .ge 19, 3) := by decide +kernel
theorem d_Th_reachedAt_12 : decode b_Th_reachedAt 12 = .ok (.iload_n 1, 1) := by decide +kernel
theorem d_Th_reachedAt_13 : decode b_Th_reachedAt 13 = .ok (.sipush 300, 3) := by decide +kernel
theorem d_Th_reachedAt_16 : decode b_Th_reachedAt 16 = .ok (.if_icmp .ge 12, 3) := by decide +kernel
theorem d_Th_reachedAt_19 : decode b_Th_reachedAt 19 = .ok (.aload_n 0, 1) := by decide +kernel
theorem d_Th_reachedAt_20 : decode b_Th_reachedAt 20 = .ok (.getfield 46, 3) := by decide +kernel
theorem d_Th_reachedAt_23 : decode b_Th_reachedAt 23 = .ok (.iload_n 1, 1) := by decide +kernel
theorem d_Th_reachedAt_24 : decode b_Th_reachedAt 24 = .ok (.iaload, 1) := by decide +kernel
theorem d_Th_reachedAt_25 : decode b_Th_reachedAt 25 = .ok (.goto 4, 3) := by decide +kernel
theorem d_Th_reachedAt_28 : decode b_Th_reachedAt 28 = .ok (.iconst (-1), 1) := by decide +kernel
theorem d_Th_reachedAt_29 : decode b_Th_reachedAt 29 = .ok (.ireturn, 1) := by decide +kernel
theorem d_Th_has_0 : decode b_Th_has 0 = .ok (.iload_n 1, 1) := by decide +kernel
theorem d_Th_has_1 : decode b_Th_has 1 = .ok (.ifCond .lt 22, 3) := by decide +kernel
theorem d_Th_has_4 : decode b_Th_has 4 = .ok (.iload_n 1, 1) := by decide +kernel
theorem d_Th_has_5 : decode b_Th_has 5 = .ok (.aload_n 0, 1) := by decide +kernel
theorem d_Th_has_6 : decode b_Th_has 6 = .ok (.getfield 49, 3) := by decide +kernel
theorem d_Th_has_9 : decode b_Th_has 9 = .ok (.if_icmp .ge 14, 3) := by decide +kernel
theorem d_Th_has_12 : decode b_Th_has 12 = .ok (.iload_n 1, 1) := by decide +kernel
theorem d_Th_has_13 : decode b_Th_has 13 = .ok (.sipush 1000, 3) := by decide +kernel
theorem d_Th_has_16 : decode b_Th_has 16 = .ok (.if_icmp .ge 7, 3) := by decide +kernel
theorem d_Th_has_19 : decode b_Th_has 19 = .ok (.iconst 1, 1) := by decide +kernel
theorem d_Th_has_20 : decode b_Th_has 20 = .ok (.goto 4, 3) := by decide +kernel
theorem d_Th_has_23 : decode b_Th_has 23 = .ok (.iconst 0, 1) := by decide +kernel
theorem d_Th_has_24 : decode b_Th_has 24 = .ok (.ireturn, 1) := by decide +kernel
theorem d_Th_stateOf_0 : decode b_Th_stateOf 0 = .ok (.aload_n 0, 1) := by decide +kernel
theorem d_Th_stateOf_1 : decode b_Th_stateOf 1 = .ok (.iload_n 1, 1) := by decide +kernel
theorem d_Th_stateOf_2 : decode b_Th_stateOf 2 = .ok (.invokevirtual 59, 3) := by decide +kernel
theorem d_Th_stateOf_5 : decode b_Th_stateOf 5 = .ok (.ifCond .eq 12, 3) := by decide +kernel
theorem d_Th_stateOf_8 : decode b_Th_stateOf 8 = .ok (.aload_n 0, 1) := by decide +kernel
theorem d_Th_stateOf_9 : decode b_Th_stateOf 9 = .ok (.getfield 9, 3) := by decide +kernel
theorem d_Th_stateOf_12 : decode b_Th_stateOf 12 = .ok (.iload_n 1, 1) := by decide +kernel
theorem d_Th_stateOf_13 : decode b_Th_stateOf 13 = .ok (.iaload, 1) := by decide +kernel
theorem d_Th_stateOf_14 : decode b_Th_stateOf 14 = .ok (.goto 4, 3) := by decide +kernel
theorem d_Th_stateOf_17 : decode b_Th_stateOf 17 = .ok (.iconst 3, 1) := by decide +kernel
theorem d_Th_stateOf_18 : decode b_Th_stateOf 18 = .ok (.ireturn, 1) := by decide +kernel
theorem d_Th_placesOf_0 : decode b_Th_placesOf 0 = .ok (.aload_n 0, 1) := by decide +kernel
theorem d_Th_placesOf_1 : decode b_Th_placesOf 1 = .ok (.iload_n 1, 1) := by decide +kernel
theorem d_Th_placesOf_2 : decode b_Th_placesOf 2 = .ok (.invokevirtual 59, 3) := by decide +kernel
theorem d_Th_placesOf_5 : decode b_Th_placesOf 5 = .ok (.ifCond .eq 12, 3) := by decide +kernel
theorem d_Th_placesOf_8 : decode b_Th_placesOf 8 = .ok (.aload_n 0, 1) := by decide +kernel
theorem d_Th_placesOf_9 : decode b_Th_placesOf 9 = .ok (.getfield 18, 3) := by decide +kernel
theorem d_Th_placesOf_12 : decode b_Th_placesOf 12 = .ok (.iload_n 1, 1) := by decide +kernel
theorem d_Th_placesOf_13 : decode b_Th_placesOf 13 = .ok (.iaload, 1) := by decide +kernel
theorem d_Th_placesOf_14 : decode b_Th_placesOf 14 = .ok (.goto 4, 3) := by decide +kernel
theorem d_Th_placesOf_17 : decode b_Th_placesOf 17 = .ok (.iconst (-1), 1) := by decide +kernel
theorem d_Th_placesOf_18 : decode b_Th_placesOf 18 = .ok (.ireturn, 1) := by decide +kernel
theorem d_Th_valueSortOf_0 : decode b_Th_valueSortOf 0 = .ok (.aload_n 0, 1) := by decide +kernel
theorem d_Th_valueSortOf_1 : decode b_Th_valueSortOf 1 = .ok (.iload_n 1, 1) := by decide +kernel
theorem d_Th_valueSortOf_2 : decode b_Th_valueSortOf 2 = .ok (.invokevirtual 59, 3) := by decide +kernel
theorem d_Th_valueSortOf_5 : decode b_Th_valueSortOf 5 = .ok (.ifCond .eq 12, 3) := by decide +kernel
theorem d_Th_valueSortOf_8 : decode b_Th_valueSortOf 8 = .ok (.aload_n 0, 1) := by decide +kernel
theorem d_Th_valueSortOf_9 : decode b_Th_valueSortOf 9 = .ok (.getfield 27, 3) := by decide +kernel
theorem d_Th_valueSortOf_12 : decode b_Th_valueSortOf 12 = .ok (.iload_n 1, 1) := by decide +kernel
theorem d_Th_valueSortOf_13 : decode b_Th_valueSortOf 13 = .ok (.iaload, 1) := by decide +kernel
theorem d_Th_valueSortOf_14 : decode b_Th_valueSortOf 14 = .ok (.goto 4, 3) := by decide +kernel
theorem d_Th_valueSortOf_17 : decode b_Th_valueSortOf 17 = .ok (.iconst (-1), 1) := by decide +kernel
theorem d_Th_valueSortOf_18 : decode b_Th_valueSortOf 18 = .ok (.ireturn, 1) := by decide +kernel
theorem d_Th_valueFirstOf_0 : decode b_Th_valueFirstOf 0 = .ok (.aload_n 0, 1) := by decide +kernel
theorem d_Th_valueFirstOf_1 : decode b_Th_valueFirstOf 1 = .ok (.iload_n 1, 1) := by decide +kernel
theorem d_Th_valueFirstOf_2 : decode b_Th_valueFirstOf 2 = .ok (.invokevirtual 59, 3) := by decide +kernel
theorem d_Th_valueFirstOf_5 : decode b_Th_valueFirstOf 5 = .ok (.ifCond .eq 12, 3) := by decide +kernel
theorem d_Th_valueFirstOf_8 : decode b_Th_valueFirstOf 8 = .ok (.aload_n 0, 1) := by decide +kernel
theorem d_Th_valueFirstOf_9 : decode b_Th_valueFirstOf 9 = .ok (.getfield 34, 3) := by decide +kernel
theorem d_Th_valueFirstOf_12 : decode b_Th_valueFirstOf 12 = .ok (.iload_n 1, 1) := by decide +kernel
theorem d_Th_valueFirstOf_13 : decode b_Th_valueFirstOf 13 = .ok (.iaload, 1) := by decide +kernel
theorem d_Th_valueFirstOf_14 : decode b_Th_valueFirstOf 14 = .ok (.goto 4, 3) := by decide +kernel
theorem d_Th_valueFirstOf_17 : decode b_Th_valueFirstOf 17 = .ok (.iconst (-1), 1) := by decide +kernel
theorem d_Th_valueFirstOf_18 : decode b_Th_valueFirstOf 18 = .ok (.ireturn, 1) := by decide +kernel
theorem d_Th_valueSecondOf_0 : decode b_Th_valueSecondOf 0 = .ok (.aload_n 0, 1) := by decide +kernel
theorem d_Th_valueSecondOf_1 : decode b_Th_valueSecondOf 1 = .ok (.iload_n 1, 1) := by decide +kernel
theorem d_Th_valueSecondOf_2 : decode b_Th_valueSecondOf 2 = .ok (.invokevirtual 59, 3) := by decide +kernel
theorem d_Th_valueSecondOf_5 : decode b_Th_valueSecondOf 5 = .ok (.ifCond .eq 12, 3) := by decide +kernel
theorem d_Th_valueSecondOf_8 : decode b_Th_valueSecondOf 8 = .ok (.aload_n 0, 1) := by decide +kernel
theorem d_Th_valueSecondOf_9 : decode b_Th_valueSecondOf 9 = .ok (.getfield 37, 3) := by decide +kernel
theorem d_Th_valueSecondOf_12 : decode b_Th_valueSecondOf 12 = .ok (.iload_n 1, 1) := by decide +kernel
theorem d_Th_valueSecondOf_13 : decode b_Th_valueSecondOf 13 = .ok (.iaload, 1) := by decide +kernel
theorem d_Th_valueSecondOf_14 : decode b_Th_valueSecondOf 14 = .ok (.goto 4, 3) := by decide +kernel
theorem d_Th_valueSecondOf_17 : decode b_Th_valueSecondOf 17 = .ok (.iconst (-1), 1) := by decide +kernel
theorem d_Th_valueSecondOf_18 : decode b_Th_valueSecondOf 18 = .ok (.ireturn, 1) := by decide +kernel
theorem d_Wa_reachFromThing_0 : decode b_Wa_reachFromThing 0 = .ok (.aload_n 0, 1) := by decide +kernel
theorem d_Wa_reachFromThing_1 : decode b_Wa_reachFromThing 1 = .ok (.getfield 28, 3) := by decide +kernel
theorem d_Wa_reachFromThing_4 : decode b_Wa_reachFromThing 4 = .ok (.iload_n 1, 1) := by decide +kernel
theorem d_Wa_reachFromThing_5 : decode b_Wa_reachFromThing 5 = .ok (.invokevirtual 187, 3) := by decide +kernel
theorem d_Wa_reachFromThing_8 : decode b_Wa_reachFromThing 8 = .ok (.istore_n 2, 1) := by decide +kernel
theorem d_Wa_reachFromThing_9 : decode b_Wa_reachFromThing 9 = .ok (.iload_n 2, 1) := by decide +kernel
theorem d_Wa_reachFromThing_10 : decode b_Wa_reachFromThing 10 = .ok (.ifCond .ne 18, 3) := by decide +kernel
theorem d_Wa_reachFromThing_13 : decode b_Wa_reachFromThing 13 = .ok (.aload_n 0, 1) := by decide +kernel
theorem d_Wa_reachFromThing_14 : decode b_Wa_reachFromThing 14 = .ok (.aload_n 0, 1) := by decide +kernel
theorem d_Wa_reachFromThing_15 : decode b_Wa_reachFromThing 15 = .ok (.getfield 28, 3) := by decide +kernel
theorem d_Wa_reachFromThing_18 : decode b_Wa_reachFromThing 18 = .ok (.iload_n 1, 1) := by decide +kernel
theorem d_Wa_reachFromThing_19 : decode b_Wa_reachFromThing 19 = .ok (.invokevirtual 212, 3) := by decide +kernel
theorem d_Wa_reachFromThing_22 : decode b_Wa_reachFromThing 22 = .ok (.invokevirtual 280, 3) := by decide +kernel
theorem d_Wa_reachFromThing_25 : decode b_Wa_reachFromThing 25 = .ok (.goto 36, 3) := by decide +kernel
theorem d_Wa_reachFromThing_28 : decode b_Wa_reachFromThing 28 = .ok (.iload_n 2, 1) := by decide +kernel
theorem d_Wa_reachFromThing_29 : decode b_Wa_reachFromThing 29 = .ok (.iconst 2, 1) := by decide +kernel
theorem d_Wa_reachFromThing_30 : decode b_Wa_reachFromThing 30 = .ok (.if_icmp .ne 31, 3) := by decide +kernel
theorem d_Wa_reachFromThing_33 : decode b_Wa_reachFromThing 33 = .ok (.aload_n 0, 1) := by decide +kernel
theorem d_Wa_reachFromThing_34 : decode b_Wa_reachFromThing 34 = .ok (.aload_n 0, 1) := by decide +kernel
theorem d_Wa_reachFromThing_35 : decode b_Wa_reachFromThing 35 = .ok (.getfield 28, 3) := by decide +kernel
theorem d_Wa_reachFromThing_38 : decode b_Wa_reachFromThing 38 = .ok (.iload_n 1, 1) := by decide +kernel
theorem d_Wa_reachFromThing_39 : decode b_Wa_reachFromThing 39 = .ok (.invokevirtual 290, 3) := by decide +kernel
theorem d_Wa_reachFromThing_42 : decode b_Wa_reachFromThing 42 = .ok (.aload_n 0, 1) := by decide +kernel
theorem d_Wa_reachFromThing_43 : decode b_Wa_reachFromThing 43 = .ok (.getfield 28, 3) := by decide +kernel
theorem d_Wa_reachFromThing_46 : decode b_Wa_reachFromThing 46 = .ok (.iload_n 1, 1) := by decide +kernel
theorem d_Wa_reachFromThing_47 : decode b_Wa_reachFromThing 47 = .ok (.invokevirtual 293, 3) := by decide +kernel
theorem d_Wa_reachFromThing_50 : decode b_Wa_reachFromThing 50 = .ok (.aload_n 0, 1) := by decide +kernel
theorem d_Wa_reachFromThing_51 : decode b_Wa_reachFromThing 51 = .ok (.getfield 28, 3) := by decide +kernel
theorem d_Wa_reachFromThing_54 : decode b_Wa_reachFromThing 54 = .ok (.iload_n 1, 1) := by decide +kernel
theorem d_Wa_reachFromThing_55 : decode b_Wa_reachFromThing 55 = .ok (.invokevirtual 296, 3) := by decide +kernel
theorem d_Wa_reachFromThing_58 : decode b_Wa_reachFromThing 58 = .ok (.invokevirtual 283, 3) := by decide +kernel
theorem d_Wa_reachFromThing_61 : decode b_Wa_reachFromThing 61 = .ok (.return_, 1) := by decide +kernel
theorem d_Th_keepReached_0 : decode b_Th_keepReached 0 = .ok (.iconst 0, 1) := by decide +kernel
theorem d_Th_keepReached_1 : decode b_Th_keepReached 1 = .ok (.istore_n 2, 1) := by decide +kernel
theorem d_Th_keepReached_2 : decode b_Th_keepReached 2 = .ok (.aload_n 0, 1) := by decide +kernel
theorem d_Th_keepReached_3 : decode b_Th_keepReached 3 = .ok (.getfield 53, 3) := by decide +kernel
theorem d_Th_keepReached_6 : decode b_Th_keepReached 6 = .ok (.istore_n 3, 1) := by decide +kernel
theorem d_Th_keepReached_7 : decode b_Th_keepReached 7 = .ok (.iconst 0, 1) := by decide +kernel
theorem d_Th_keepReached_8 : decode b_Th_keepReached 8 = .ok (.istore 4, 2) := by decide +kernel
theorem d_Th_keepReached_10 : decode b_Th_keepReached 10 = .ok (.iload 4, 2) := by decide +kernel
theorem d_Th_keepReached_12 : decode b_Th_keepReached 12 = .ok (.iload_n 3, 1) := by decide +kernel
theorem d_Th_keepReached_13 : decode b_Th_keepReached 13 = .ok (.if_icmp .ge 71, 3) := by decide +kernel
theorem d_Th_keepReached_16 : decode b_Th_keepReached 16 = .ok (.iload 4, 2) := by decide +kernel
theorem d_Th_keepReached_18 : decode b_Th_keepReached 18 = .ok (.sipush 300, 3) := by decide +kernel
theorem d_Th_keepReached_21 : decode b_Th_keepReached 21 = .ok (.if_icmp .ge 63, 3) := by decide +kernel
theorem d_Th_keepReached_24 : decode b_Th_keepReached 24 = .ok (.aload_n 0, 1) := by decide +kernel
theorem d_Th_keepReached_25 : decode b_Th_keepReached 25 = .ok (.getfield 43, 3) := by decide +kernel
theorem d_Th_keepReached_28 : decode b_Th_keepReached 28 = .ok (.iload 4, 2) := by decide +kernel
theorem d_Th_keepReached_30 : decode b_Th_keepReached 30 = .ok (.iaload, 1) := by decide +kernel
theorem d_Th_keepReached_31 : decode b_Th_keepReached 31 = .ok (.istore 5, 2) := by decide +kernel
theorem d_Th_keepReached_33 : decode b_Th_keepReached 33 = .ok (.aload_n 0, 1) := by decide +kernel
theorem d_Th_keepReached_34 : decode b_Th_keepReached 34 = .ok (.iload 5, 2) := by decide +kernel
theorem d_Th_keepReached_36 : decode b_Th_keepReached 36 = .ok (.invokevirtual 59, 3) := by decide +kernel
theorem d_Th_keepReached_39 : decode b_Th_keepReached 39 = .ok (.ifCond .ne 6, 3) := by decide +kernel
theorem d_Th_keepReached_42 : decode b_Th_keepReached 42 = .ok (.goto 36, 3) := by decide +kernel
theorem d_Th_keepReached_45 : decode b_Th_keepReached 45 = .ok (.aload_n 0, 1) := by decide +kernel
theorem d_Th_keepReached_46 : decode b_Th_keepReached 46 = .ok (.getfield 40, 3) := by decide +kernel
theorem d_Th_keepReached_49 : decode b_Th_keepReached 49 = .ok (.iload 5, 2) := by decide +kernel
theorem d_Th_keepReached_51 : decode b_Th_keepReached 51 = .ok (.iaload, 1) := by decide +kernel
theorem d_Th_keepReached_52 : decode b_Th_keepReached 52 = .ok (.iload_n 1, 1) := by decide +kernel
theorem d_Th_keepReached_53 : decode b_Th_keepReached 53 = .ok (.if_icmp .ne 17, 3) := by decide +kernel
theorem d_Th_keepReached_56 : decode b_Th_keepReached 56 = .ok (.aload_n 0, 1) := by decide +kernel
theorem d_Th_keepReached_57 : decode b_Th_keepReached 57 = .ok (.getfield 43, 3) := by decide +kernel
theorem d_Th_keepReached_60 : decode b_Th_keepReached 60 = .ok (.iload_n 2, 1) := by decide +kernel
theorem d_Th_keepReached_61 : decode b_Th_keepReached 61 = .ok (.iload 5, 2) := by decide +kernel
theorem d_Th_keepReached_63 : decode b_Th_keepReached 63 = .ok (.iastore, 1) := by decide +kernel
theorem d_Th_keepReached_64 : decode b_Th_keepReached 64 = .ok (.iinc 2 1, 3) := by decide +kernel
theorem d_Th_keepReached_67 : decode b_Th_keepReached 67 = .ok (.goto 11, 3) := by decide +kernel
theorem d_Th_keepReached_70 : decode b_Th_keepReached 70 = .ok (.aload_n 0, 1) := by decide +kernel
theorem d_Th_keepReached_71 : decode b_Th_keepReached 71 = .ok (.getfield 9, 3) := by decide +kernel
theorem d_Th_keepReached_74 : decode b_Th_keepReached 74 = .ok (.iload 5, 2) := by decide +kernel
theorem d_Th_keepReached_76 : decode b_Th_keepReached 76 = .ok (.iconst 3, 1) := by decide +kernel
theorem d_Th_keepReached_77 : decode b_Th_keepReached 77 = .ok (.iastore, 1) := by decide +kernel
theorem d_Th_keepReached_78 : decode b_Th_keepReached 78 = .ok (.iinc 4 1, 3) := by decide +kernel
theorem d_Th_keepReached_81 : decode b_Th_keepReached 81 = .ok (.goto (-71), 3) := by decide +kernel
theorem d_Th_keepReached_84 : decode b_Th_keepReached 84 = .ok (.aload_n 0, 1) := by decide +kernel
theorem d_Th_keepReached_85 : decode b_Th_keepReached 85 = .ok (.iload_n 2, 1) := by decide +kernel
theorem d_Th_keepReached_86 : decode b_Th_keepReached 86 = .ok (.putfield 53, 3) := by decide +kernel
theorem d_Th_keepReached_89 : decode b_Th_keepReached 89 = .ok (.iload_n 3, 1) := by decide +kernel
theorem d_Th_keepReached_90 : decode b_Th_keepReached 90 = .ok (.iload_n 2, 1) := by decide +kernel
theorem d_Th_keepReached_91 : decode b_Th_keepReached 91 = .ok (.isub, 1) := by decide +kernel
theorem d_Th_keepReached_92 : decode b_Th_keepReached 92 = .ok (.ireturn, 1) := by decide +kernel
theorem d_Wa_sweepUnreached_0 : decode b_Wa_sweepUnreached 0 = .ok (.aload_n 0, 1) := by decide +kernel
theorem d_Wa_sweepUnreached_1 : decode b_Wa_sweepUnreached 1 = .ok (.dup, 1) := by decide +kernel
theorem d_Wa_sweepUnreached_2 : decode b_Wa_sweepUnreached 2 = .ok (.getfield 81, 3) := by decide +kernel
theorem d_Wa_sweepUnreached_5 : decode b_Wa_sweepUnreached 5 = .ok (.iconst 1, 1) := by decide +kernel
theorem d_Wa_sweepUnreached_6 : decode b_Wa_sweepUnreached 6 = .ok (.iadd, 1) := by decide +kernel
theorem d_Wa_sweepUnreached_7 : decode b_Wa_sweepUnreached 7 = .ok (.putfield 81, 3) := by decide +kernel
theorem d_Wa_sweepUnreached_10 : decode b_Wa_sweepUnreached 10 = .ok (.aload_n 0, 1) := by decide +kernel
theorem d_Wa_sweepUnreached_11 : decode b_Wa_sweepUnreached 11 = .ok (.getfield 28, 3) := by decide +kernel
theorem d_Wa_sweepUnreached_14 : decode b_Wa_sweepUnreached 14 = .ok (.invokevirtual 259, 3) := by decide +kernel
theorem d_Wa_sweepUnreached_17 : decode b_Wa_sweepUnreached 17 = .ok (.aload_n 0, 1) := by decide +kernel
theorem d_Wa_sweepUnreached_18 : decode b_Wa_sweepUnreached 18 = .ok (.invokevirtual 262, 3) := by decide +kernel
theorem d_Wa_sweepUnreached_21 : decode b_Wa_sweepUnreached 21 = .ok (.aload_n 0, 1) := by decide +kernel
theorem d_Wa_sweepUnreached_22 : decode b_Wa_sweepUnreached 22 = .ok (.invokevirtual 265, 3) := by decide +kernel
theorem d_Wa_sweepUnreached_25 : decode b_Wa_sweepUnreached 25 = .ok (.iconst 0, 1) := by decide +kernel
theorem d_Wa_sweepUnreached_26 : decode b_Wa_sweepUnreached 26 = .ok (.istore_n 1, 1) := by decide +kernel
theorem d_Wa_sweepUnreached_27 : decode b_Wa_sweepUnreached 27 = .ok (.iload_n 1, 1) := by decide +kernel
theorem d_Wa_sweepUnreached_28 : decode b_Wa_sweepUnreached 28 = .ok (.sipush 300, 3) := by decide +kernel
theorem d_Wa_sweepUnreached_31 : decode b_Wa_sweepUnreached 31 = .ok (.if_icmp .ge 32, 3) := by decide +kernel
theorem d_Wa_sweepUnreached_34 : decode b_Wa_sweepUnreached 34 = .ok (.iload_n 1, 1) := by decide +kernel
theorem d_Wa_sweepUnreached_35 : decode b_Wa_sweepUnreached 35 = .ok (.aload_n 0, 1) := by decide +kernel
theorem d_Wa_sweepUnreached_36 : decode b_Wa_sweepUnreached 36 = .ok (.getfield 28, 3) := by decide +kernel
theorem d_Wa_sweepUnreached_39 : decode b_Wa_sweepUnreached 39 = .ok (.getfield 268, 3) := by decide +kernel
theorem d_Wa_sweepUnreached_42 : decode b_Wa_sweepUnreached 42 = .ok (.if_icmp .ge 21, 3) := by decide +kernel
theorem d_Wa_sweepUnreached_45 : decode b_Wa_sweepUnreached 45 = .ok (.aload_n 0, 1) := by decide +kernel
theorem d_Wa_sweepUnreached_46 : decode b_Wa_sweepUnreached 46 = .ok (.aload_n 0, 1) := by decide +kernel
theorem d_Wa_sweepUnreached_47 : decode b_Wa_sweepUnreached 47 = .ok (.getfield 28, 3) := by decide +kernel
theorem d_Wa_sweepUnreached_50 : decode b_Wa_sweepUnreached 50 = .ok (.iload_n 1, 1) := by decide +kernel
theorem d_Wa_sweepUnreached_51 : decode b_Wa_sweepUnreached 51 = .ok (.invokevirtual 271, 3) := by decide +kernel
theorem d_Wa_sweepUnreached_54 : decode b_Wa_sweepUnreached 54 = .ok (.invokevirtual 274, 3) := by decide +kernel
theorem d_Wa_sweepUnreached_57 : decode b_Wa_sweepUnreached 57 = .ok (.iinc 1 1, 3) := by decide +kernel
theorem d_Wa_sweepUnreached_60 : decode b_Wa_sweepUnreached 60 = .ok (.goto (-33), 3) := by decide +kernel
theorem d_Wa_sweepUnreached_63 : decode b_Wa_sweepUnreached 63 = .ok (.aload_n 0, 1) := by decide +kernel
theorem d_Wa_sweepUnreached_64 : decode b_Wa_sweepUnreached 64 = .ok (.getfield 28, 3) := by decide +kernel
theorem d_Wa_sweepUnreached_67 : decode b_Wa_sweepUnreached 67 = .ok (.aload_n 0, 1) := by decide +kernel
theorem d_Wa_sweepUnreached_68 : decode b_Wa_sweepUnreached 68 = .ok (.getfield 81, 3) := by decide +kernel
theorem d_Wa_sweepUnreached_71 : decode b_Wa_sweepUnreached 71 = .ok (.invokevirtual 277, 3) := by decide +kernel
theorem d_Wa_sweepUnreached_74 : decode b_Wa_sweepUnreached 74 = .ok (.ireturn, 1) := by decide +kernel
theorem d_Te_has_0 : decode b_Te_has 0 = .ok (.iload_n 1, 1) := by decide +kernel
theorem d_Te_has_1 : decode b_Te_has 1 = .ok (.ifCond .lt 22, 3) := by decide +kernel
theorem d_Te_has_4 : decode b_Te_has 4 = .ok (.iload_n 1, 1) := by decide +kernel
theorem d_Te_has_5 : decode b_Te_has 5 = .ok (.aload_n 0, 1) := by decide +kernel
theorem d_Te_has_6 : decode b_Te_has 6 = .ok (.getfield 31, 3) := by decide +kernel
theorem d_Te_has_9 : decode b_Te_has 9 = .ok (.if_icmp .ge 14, 3) := by decide +kernel
theorem d_Te_has_12 : decode b_Te_has 12 = .ok (.iload_n 1, 1) := by decide +kernel
theorem d_Te_has_13 : decode b_Te_has 13 = .ok (.sipush 200, 3) := by decide +kernel
theorem d_Te_has_16 : decode b_Te_has 16 = .ok (.if_icmp .ge 7, 3) := by decide +kernel
theorem d_Te_has_19 : decode b_Te_has 19 = .ok (.iconst 1, 1) := by decide +kernel
theorem d_Te_has_20 : decode b_Te_has 20 = .ok (.goto 4, 3) := by decide +kernel
theorem d_Te_has_23 : decode b_Te_has 23 = .ok (.iconst 0, 1) := by decide +kernel
theorem d_Te_has_24 : decode b_Te_has 24 = .ok (.ireturn, 1) := by decide +kernel
theorem d_Te_sortOf_0 : decode b_Te_sortOf 0 = .ok (.aload_n 0, 1) := by decide +kernel
theorem d_Te_sortOf_1 : decode b_Te_sortOf 1 = .ok (.iload_n 1, 1) := by decide +kernel
theorem d_Te_sortOf_2 : decode b_Te_sortOf 2 = .ok (.invokevirtual 52, 3) := by decide +kernel
theorem d_Te_sortOf_5 : decode b_Te_sortOf 5 = .ok (.ifCond .eq 12, 3) := by decide +kernel
theorem d_Te_sortOf_8 : decode b_Te_sortOf 8 = .ok (.aload_n 0, 1) := by decide +kernel
theorem d_Te_sortOf_9 : decode b_Te_sortOf 9 = .ok (.getfield 9, 3) := by decide +kernel
theorem d_Te_sortOf_12 : decode b_Te_sortOf 12 = .ok (.iload_n 1, 1) := by decide +kernel
theorem d_Te_sortOf_13 : decode b_Te_sortOf 13 = .ok (.iaload, 1) := by decide +kernel
theorem d_Te_sortOf_14 : decode b_Te_sortOf 14 = .ok (.goto 4, 3) := by decide +kernel
theorem d_Te_sortOf_17 : decode b_Te_sortOf 17 = .ok (.iconst (-1), 1) := by decide +kernel
theorem d_Te_sortOf_18 : decode b_Te_sortOf 18 = .ok (.ireturn, 1) := by decide +kernel
theorem d_Te_numberOf_0 : decode b_Te_numberOf 0 = .ok (.aload_n 0, 1) := by decide +kernel
theorem d_Te_numberOf_1 : decode b_Te_numberOf 1 = .ok (.iload_n 1, 1) := by decide +kernel
theorem d_Te_numberOf_2 : decode b_Te_numberOf 2 = .ok (.invokevirtual 52, 3) := by decide +kernel
theorem d_Te_numberOf_5 : decode b_Te_numberOf 5 = .ok (.ifCond .eq 12, 3) := by decide +kernel
theorem d_Te_numberOf_8 : decode b_Te_numberOf 8 = .ok (.aload_n 0, 1) := by decide +kernel
theorem d_Te_numberOf_9 : decode b_Te_numberOf 9 = .ok (.getfield 24, 3) := by decide +kernel
theorem d_Te_numberOf_12 : decode b_Te_numberOf 12 = .ok (.iload_n 1, 1) := by decide +kernel
theorem d_Te_numberOf_13 : decode b_Te_numberOf 13 = .ok (.laload, 1) := by decide +kernel
theorem d_Te_numberOf_14 : decode b_Te_numberOf 14 = .ok (.goto 4, 3) := by decide +kernel
theorem d_Te_numberOf_17 : decode b_Te_numberOf 17 = .ok (.lconst 0, 1) := by decide +kernel
theorem d_Te_numberOf_18 : decode b_Te_numberOf 18 = .ok (.lreturn, 1) := by decide +kernel
theorem d_Va_beLambda_0 : decode b_Va_beLambda 0 = .ok (.aload_n 0, 1) := by decide +kernel
theorem d_Va_beLambda_1 : decode b_Va_beLambda 1 = .ok (.iconst 1, 1) := by decide +kernel
theorem d_Va_beLambda_2 : decode b_Va_beLambda 2 = .ok (.lconst 0, 1) := by decide +kernel
theorem d_Va_beLambda_3 : decode b_Va_beLambda 3 = .ok (.iload_n 1, 1) := by decide +kernel
theorem d_Va_beLambda_4 : decode b_Va_beLambda 4 = .ok (.iload_n 2, 1) := by decide +kernel
theorem d_Va_beLambda_5 : decode b_Va_beLambda 5 = .ok (.invokevirtual 25, 3) := by decide +kernel
theorem d_Va_beLambda_8 : decode b_Va_beLambda 8 = .ok (.return_, 1) := by decide +kernel
theorem d_Te_firstOf_0 : decode b_Te_firstOf 0 = .ok (.aload_n 0, 1) := by decide +kernel
theorem d_Te_firstOf_1 : decode b_Te_firstOf 1 = .ok (.iload_n 1, 1) := by decide +kernel
theorem d_Te_firstOf_2 : decode b_Te_firstOf 2 = .ok (.invokevirtual 52, 3) := by decide +kernel
theorem d_Te_firstOf_5 : decode b_Te_firstOf 5 = .ok (.ifCond .eq 12, 3) := by decide +kernel
theorem d_Te_firstOf_8 : decode b_Te_firstOf 8 = .ok (.aload_n 0, 1) := by decide +kernel
theorem d_Te_firstOf_9 : decode b_Te_firstOf 9 = .ok (.getfield 15, 3) := by decide +kernel
theorem d_Te_firstOf_12 : decode b_Te_firstOf 12 = .ok (.iload_n 1, 1) := by decide +kernel
theorem d_Te_firstOf_13 : decode b_Te_firstOf 13 = .ok (.iaload, 1) := by decide +kernel
theorem d_Te_firstOf_14 : decode b_Te_firstOf 14 = .ok (.goto 4, 3) := by decide +kernel
theorem d_Te_firstOf_17 : decode b_Te_firstOf 17 = .ok (.iconst (-1), 1) := by decide +kernel
theorem d_Te_firstOf_18 : decode b_Te_firstOf 18 = .ok (.ireturn, 1) := by decide +kernel
theorem d_Pl_thingAt_0 : decode b_Pl_thingAt 0 = .ok (.iload_n 1, 1) := by decide +kernel
theorem d_Pl_thingAt_1 : decode b_Pl_thingAt 1 = .ok (.istore_n 3, 1) := by decide +kernel
theorem d_Pl_thingAt_2 : decode b_Pl_thingAt 2 = .ok (.iconst 0, 1) := by decide +kernel
theorem d_Pl_thingAt_3 : decode b_Pl_thingAt 3 = .ok (.istore 4, 2) := by decide +kernel
theorem d_Pl_thingAt_5 : decode b_Pl_thingAt 5 = .ok (.iload 4, 2) := by decide +kernel
theorem d_Pl_thingAt_7 : decode b_Pl_thingAt 7 = .ok (.iload_n 2, 1) := by decide +kernel
theorem d_Pl_thingAt_8 : decode b_Pl_thingAt 8 = .ok (.if_icmp .ge 24, 3) := by decide +kernel
theorem d_Pl_thingAt_11 : decode b_Pl_thingAt 11 = .ok (.aload_n 0, 1) := by decide +kernel
theorem d_Pl_thingAt_12 : decode b_Pl_thingAt 12 = .ok (.iload_n 3, 1) := by decide +kernel
theorem d_Pl_thingAt_13 : decode b_Pl_thingAt 13 = .ok (.invokevirtual 25, 3) := by decide +kernel
theorem d_Pl_thingAt_16 : decode b_Pl_thingAt 16 = .ok (.ifCond .eq 16, 3) := by decide +kernel
theorem d_Pl_thingAt_19 : decode b_Pl_thingAt 19 = .ok (.aload_n 0, 1) := by decide +kernel
theorem d_Pl_thingAt_20 : decode b_Pl_thingAt 20 = .ok (.getfield 15, 3) := by decide +kernel
theorem d_Pl_thingAt_23 : decode b_Pl_thingAt 23 = .ok (.iload_n 3, 1) := by decide +kernel
theorem d_Pl_thingAt_24 : decode b_Pl_thingAt 24 = .ok (.iaload, 1) := by decide +kernel
theorem d_Pl_thingAt_25 : decode b_Pl_thingAt 25 = .ok (.istore_n 3, 1) := by decide +kernel
theorem d_Pl_thingAt_26 : decode b_Pl_thingAt 26 = .ok (.iinc 4 1, 3) := by decide +kernel
theorem d_Pl_thingAt_29 : decode b_Pl_thingAt 29 = .ok (.goto (-24), 3) := by decide +kernel
theorem d_Pl_thingAt_32 : decode b_Pl_thingAt 32 = .ok (.aload_n 0, 1) := by decide +kernel
theorem d_Pl_thingAt_33 : decode b_Pl_thingAt 33 = .ok (.iload_n 3, 1) := by decide +kernel
theorem d_Pl_thingAt_34 : decode b_Pl_thingAt 34 = .ok (.invokevirtual 25, 3) := by decide +kernel
theorem d_Pl_thingAt_37 : decode b_Pl_thingAt 37 = .ok (.ifCond .eq 12, 3) := by decide +kernel
theorem d_Pl_thingAt_40 : decode b_Pl_thingAt 40 = .ok (.aload_n 0, 1) := by decide +kernel
theorem d_Pl_thingAt_41 : decode b_Pl_thingAt 41 = .ok (.getfield 9, 3) := by decide +kernel
theorem d_Pl_thingAt_44 : decode b_Pl_thingAt 44 = .ok (.iload_n 3, 1) := by decide +kernel
theorem d_Pl_thingAt_45 : decode b_Pl_thingAt 45 = .ok (.iaload, 1) := by decide +kernel
theorem d_Pl_thingAt_46 : decode b_Pl_thingAt 46 = .ok (.goto 4, 3) := by decide +kernel
theorem d_Pl_thingAt_49 : decode b_Pl_thingAt 49 = .ok (.iconst (-1), 1) := by decide +kernel
theorem d_Pl_thingAt_50 : decode b_Pl_thingAt 50 = .ok (.ireturn, 1) := by decide +kernel
theorem d_Ro_drop_0 : decode b_Ro_drop 0 = .ok (.aload_n 0, 1) := by decide +kernel
theorem d_Ro_drop_1 : decode b_Ro_drop 1 = .ok (.getfield 25, 3) := by decide +kernel
theorem d_Ro_drop_4 : decode b_Ro_drop 4 = .ok (.ifCond .le 13, 3) := by decide +kernel
theorem d_Ro_drop_7 : decode b_Ro_drop 7 = .ok (.aload_n 0, 1) := by decide +kernel
theorem d_Ro_drop_8 : decode b_Ro_drop 8 = .ok (.dup, 1) := by decide +kernel
theorem d_Ro_drop_9 : decode b_Ro_drop 9 = .ok (.getfield 25, 3) := by decide +kernel
theorem d_Ro_drop_12 : decode b_Ro_drop 12 = .ok (.iconst 1, 1) := by decide +kernel
theorem d_Ro_drop_13 : decode b_Ro_drop 13 = .ok (.isub, 1) := by decide +kernel
theorem d_Ro_drop_14 : decode b_Ro_drop 14 = .ok (.putfield 25, 3) := by decide +kernel
theorem d_Ro_drop_17 : decode b_Ro_drop 17 = .ok (.return_, 1) := by decide +kernel
theorem d_Th_copyValue_0 : decode b_Th_copyValue 0 = .ok (.aload_n 0, 1) := by decide +kernel
theorem d_Th_copyValue_1 : decode b_Th_copyValue 1 = .ok (.iload_n 1, 1) := by decide +kernel
theorem d_Th_copyValue_2 : decode b_Th_copyValue 2 = .ok (.invokevirtual 59, 3) := by decide +kernel
theorem d_Th_copyValue_5 : decode b_Th_copyValue 5 = .ok (.ifCond .eq 35, 3) := by decide +kernel
theorem d_Th_copyValue_8 : decode b_Th_copyValue 8 = .ok (.aload_n 2, 1) := by decide +kernel
theorem d_Th_copyValue_9 : decode b_Th_copyValue 9 = .ok (.ifnull 31, 3) := by decide +kernel
theorem d_Th_copyValue_12 : decode b_Th_copyValue 12 = .ok (.aload_n 2, 1) := by decide +kernel
theorem d_Th_copyValue_13 : decode b_Th_copyValue 13 = .ok (.aload_n 0, 1) := by decide +kernel
theorem d_Th_copyValue_14 : decode b_Th_copyValue 14 = .ok (.getfield 27, 3) := by decide +kernel
theorem d_Th_copyValue_17 : decode b_Th_copyValue 17 = .ok (.iload_n 1, 1) := by decide +kernel
theorem d_Th_copyValue_18 : decode b_Th_copyValue 18 = .ok (.iaload, 1) := by decide +kernel
theorem d_Th_copyValue_19 : decode b_Th_copyValue 19 = .ok (.aload_n 0, 1) := by decide +kernel
theorem d_Th_copyValue_20 : decode b_Th_copyValue 20 = .ok (.getfield 30, 3) := by decide +kernel
theorem d_Th_copyValue_23 : decode b_Th_copyValue 23 = .ok (.iload_n 1, 1) := by decide +kernel
theorem d_Th_copyValue_24 : decode b_Th_copyValue 24 = .ok (.laload, 1) := by decide +kernel
theorem d_Th_copyValue_25 : decode b_Th_copyValue 25 = .ok (.aload_n 0, 1) := by decide +kernel
theorem d_Th_copyValue_26 : decode b_Th_copyValue 26 = .ok (.getfield 34, 3) := by decide +kernel
theorem d_Th_copyValue_29 : decode b_Th_copyValue 29 = .ok (.iload_n 1, 1) := by decide +kernel
theorem d_Th_copyValue_30 : decode b_Th_copyValue 30 = .ok (.iaload, 1) := by decide +kernel
theorem d_Th_copyValue_31 : decode b_Th_copyValue 31 = .ok (.aload_n 0, 1) := by decide +kernel
theorem d_Th_copyValue_32 : decode b_Th_copyValue 32 = .ok (.getfield 37, 3) := by decide +kernel
theorem d_Th_copyValue_35 : decode b_Th_copyValue 35 = .ok (.iload_n 1, 1) := by decide +kernel
theorem d_Th_copyValue_36 : decode b_Th_copyValue 36 = .ok (.iaload, 1) := by decide +kernel
theorem d_Th_copyValue_37 : decode b_Th_copyValue 37 = .ok (.invokevirtual 78, 3) := by decide +kernel
theorem d_Th_copyValue_40 : decode b_Th_copyValue 40 = .ok (.return_, 1) := by decide +kernel
theorem d_Ro_isFull_0 : decode b_Ro_isFull 0 = .ok (.aload_n 0, 1) := by decide +kernel
theorem d_Ro_isFull_1 : decode b_Ro_isFull 1 = .ok (.getfield 25, 3) := by decide +kernel
theorem d_Ro_isFull_4 : decode b_Ro_isFull 4 = .ok (.sipush 300, 3) := by decide +kernel
theorem d_Ro_isFull_7 : decode b_Ro_isFull 7 = .ok (.if_icmp .lt 7, 3) := by decide +kernel
theorem d_Ro_isFull_10 : decode b_Ro_isFull 10 = .ok (.iconst 1, 1) := by decide +kernel
theorem d_Ro_isFull_11 : decode b_Ro_isFull 11 = .ok (.goto 4, 3) := by decide +kernel
theorem d_Ro_isFull_14 : decode b_Ro_isFull 14 = .ok (.iconst 0, 1) := by decide +kernel
theorem d_Ro_isFull_15 : decode b_Ro_isFull 15 = .ok (.ireturn, 1) := by decide +kernel
theorem d_Th_countWork_0 : decode b_Th_countWork 0 = .ok (.aload_n 0, 1) := by decide +kernel
theorem d_Th_countWork_1 : decode b_Th_countWork 1 = .ok (.iload_n 1, 1) := by decide +kernel
theorem d_Th_countWork_2 : decode b_Th_countWork 2 = .ok (.invokevirtual 59, 3) := by decide +kernel
theorem d_Th_countWork_5 : decode b_Th_countWork 5 = .ok (.ifCond .eq 13, 3) := by decide +kernel
theorem d_Th_countWork_8 : decode b_Th_countWork 8 = .ok (.aload_n 0, 1) := by decide +kernel
theorem d_Th_countWork_9 : decode b_Th_countWork 9 = .ok (.getfield 21, 3) := by decide +kernel
theorem d_Th_countWork_12 : decode b_Th_countWork 12 = .ok (.iload_n 1, 1) := by decide +kernel
theorem d_Th_countWork_13 : decode b_Th_countWork 13 = .ok (.dup2, 1) := by decide +kernel
theorem d_Th_countWork_14 : decode b_Th_countWork 14 = .ok (.iaload, 1) := by decide +kernel
theorem d_Th_countWork_15 : decode b_Th_countWork 15 = .ok (.iconst 1, 1) := by decide +kernel
theorem d_Th_countWork_16 : decode b_Th_countWork 16 = .ok (.iadd, 1) := by decide +kernel
theorem d_Th_countWork_17 : decode b_Th_countWork 17 = .ok (.iastore, 1) := by decide +kernel
theorem d_Th_countWork_18 : decode b_Th_countWork 18 = .ok (.return_, 1) := by decide +kernel
theorem d_Ro_newestInWork_0 : decode b_Ro_newestInWork 0 = .ok (.aload_n 0, 1) := by decide +kernel
theorem d_Ro_newestInWork_1 : decode b_Ro_newestInWork 1 = .ok (.getfield 25, 3) := by decide +kernel
theorem d_Ro_newestInWork_4 : decode b_Ro_newestInWork 4 = .ok (.iconst 1, 1) := by decide +kernel
theorem d_Ro_newestInWork_5 : decode b_Ro_newestInWork 5 = .ok (.isub, 1) := by decide +kernel
theorem d_Ro_newestInWork_6 : decode b_Ro_newestInWork 6 = .ok (.istore_n 1, 1) := by decide +kernel
theorem d_Ro_newestInWork_7 : decode b_Ro_newestInWork 7 = .ok (.iload_n 1, 1) := by decide +kernel
theorem d_Ro_newestInWork_8 : decode b_Ro_newestInWork 8 = .ok (.ifCond .lt 32, 3) := by decide +kernel
theorem d_Ro_newestInWork_11 : decode b_Ro_newestInWork 11 = .ok (.iload_n 1, 1) := by decide +kernel
theorem d_Ro_newestInWork_12 : decode b_Ro_newestInWork 12 = .ok (.sipush 300, 3) := by decide +kernel
theorem d_Ro_newestInWork_15 : decode b_Ro_newestInWork 15 = .ok (.if_icmp .ge 19, 3) := by decide +kernel
theorem d_Ro_newestInWork_18 : decode b_Ro_newestInWork 18 = .ok (.aload_n 0, 1) := by decide +kernel
theorem d_Ro_newestInWork_19 : decode b_Ro_newestInWork 19 = .ok (.getfield 9, 3) := by decide +kernel
theorem d_Ro_newestInWork_22 : decode b_Ro_newestInWork 22 = .ok (.iload_n 1, 1) := by decide +kernel
theorem d_Ro_newestInWork_23 : decode b_Ro_newestInWork 23 = .ok (.iaload, 1) := by decide +kernel
theorem d_Ro_newestInWork_24 : decode b_Ro_newestInWork 24 = .ok (.ifCond .ne 10, 3) := by decide +kernel
theorem d_Ro_newestInWork_27 : decode b_Ro_newestInWork 27 = .ok (.aload_n 0, 1) := by decide +kernel
theorem d_Ro_newestInWork_28 : decode b_Ro_newestInWork 28 = .ok (.getfield 15, 3) := by decide +kernel
theorem d_Ro_newestInWork_31 : decode b_Ro_newestInWork 31 = .ok (.iload_n 1, 1) := by decide +kernel
theorem d_Ro_newestInWork_32 : decode b_Ro_newestInWork 32 = .ok (.iaload, 1) := by decide +kernel
theorem d_Ro_newestInWork_33 : decode b_Ro_newestInWork 33 = .ok (.ireturn, 1) := by decide +kernel
theorem d_Ro_newestInWork_34 : decode b_Ro_newestInWork 34 = .ok (.iinc 1 (-1), 3) := by decide +kernel
theorem d_Ro_newestInWork_37 : decode b_Ro_newestInWork 37 = .ok (.goto (-30), 3) := by decide +kernel
theorem d_Ro_newestInWork_40 : decode b_Ro_newestInWork 40 = .ok (.iconst (-1), 1) := by decide +kernel
theorem d_Ro_newestInWork_41 : decode b_Ro_newestInWork 41 = .ok (.ireturn, 1) := by decide +kernel
theorem d_Th_putInWork_0 : decode b_Th_putInWork 0 = .ok (.aload_n 0, 1) := by decide +kernel
theorem d_Th_putInWork_1 : decode b_Th_putInWork 1 = .ok (.iload_n 1, 1) := by decide +kernel
theorem d_Th_putInWork_2 : decode b_Th_putInWork 2 = .ok (.invokevirtual 59, 3) := by decide +kernel
theorem d_Th_putInWork_5 : decode b_Th_putInWork 5 = .ok (.ifCond .eq 17, 3) := by decide +kernel
theorem d_Th_putInWork_8 : decode b_Th_putInWork 8 = .ok (.aload_n 0, 1) := by decide +kernel
theorem d_Th_putInWork_9 : decode b_Th_putInWork 9 = .ok (.getfield 9, 3) := by decide +kernel
theorem d_Th_putInWork_12 : decode b_Th_putInWork 12 = .ok (.iload_n 1, 1) := by decide +kernel
theorem d_Th_putInWork_13 : decode b_Th_putInWork 13 = .ok (.iconst 1, 1) := by decide +kernel
theorem d_Th_putInWork_14 : decode b_Th_putInWork 14 = .ok (.iastore, 1) := by decide +kernel
theorem d_Th_putInWork_15 : decode b_Th_putInWork 15 = .ok (.aload_n 0, 1) := by decide +kernel
theorem d_Th_putInWork_16 : decode b_Th_putInWork 16 = .ok (.getfield 24, 3) := by decide +kernel
theorem d_Th_putInWork_19 : decode b_Th_putInWork 19 = .ok (.iload_n 1, 1) := by decide +kernel
theorem d_Th_putInWork_20 : decode b_Th_putInWork 20 = .ok (.iload_n 2, 1) := by decide +kernel
theorem d_Th_putInWork_21 : decode b_Th_putInWork 21 = .ok (.iastore, 1) := by decide +kernel
theorem d_Th_putInWork_22 : decode b_Th_putInWork 22 = .ok (.return_, 1) := by decide +kernel
theorem d_Ro_add_0 : decode b_Ro_add 0 = .ok (.aload_n 0, 1) := by decide +kernel
theorem d_Ro_add_1 : decode b_Ro_add 1 = .ok (.getfield 25, 3) := by decide +kernel
theorem d_Ro_add_4 : decode b_Ro_add 4 = .ok (.istore 6, 2) := by decide +kernel
theorem d_Ro_add_6 : decode b_Ro_add 6 = .ok (.iload 6, 2) := by decide +kernel
theorem d_Ro_add_8 : decode b_Ro_add 8 = .ok (.ifCond .lt 11, 3) := by decide +kernel
theorem d_Ro_add_11 : decode b_Ro_add 11 = .ok (.iload 6, 2) := by decide +kernel
theorem d_Ro_add_13 : decode b_Ro_add 13 = .ok (.sipush 300, 3) := by decide +kernel
theorem d_Ro_add_16 : decode b_Ro_add 16 = .ok (.if_icmp .lt 4, 3) := by decide +kernel
theorem d_Ro_add_19 : decode b_Ro_add 19 = .ok (.return_, 1) := by decide +kernel
theorem d_Ro_add_20 : decode b_Ro_add 20 = .ok (.aload_n 0, 1) := by decide +kernel
theorem d_Ro_add_21 : decode b_Ro_add 21 = .ok (.getfield 9, 3) := by decide +kernel
theorem d_Ro_add_24 : decode b_Ro_add 24 = .ok (.iload 6, 2) := by decide +kernel
theorem d_Ro_add_26 : decode b_Ro_add 26 = .ok (.iload_n 1, 1) := by decide +kernel
theorem d_Ro_add_27 : decode b_Ro_add 27 = .ok (.iastore, 1) := by decide +kernel
theorem d_Ro_add_28 : decode b_Ro_add 28 = .ok (.aload_n 0, 1) := by decide +kernel
theorem d_Ro_add_29 : decode b_Ro_add 29 = .ok (.getfield 15, 3) := by decide +kernel
theorem d_Ro_add_32 : decode b_Ro_add 32 = .ok (.iload 6, 2) := by decide +kernel
theorem d_Ro_add_34 : decode b_Ro_add 34 = .ok (.iload_n 2, 1) := by decide +kernel
theorem d_Ro_add_35 : decode b_Ro_add 35 = .ok (.iastore, 1) := by decide +kernel
theorem d_Ro_add_36 : decode b_Ro_add 36 = .ok (.aload_n 0, 1) := by decide +kernel
theorem d_Ro_add_37 : decode b_Ro_add 37 = .ok (.getfield 18, 3) := by decide +kernel
theorem d_Ro_add_40 : decode b_Ro_add 40 = .ok (.iload 6, 2) := by decide +kernel
theorem d_Ro_add_42 : decode b_Ro_add 42 = .ok (.iload_n 3, 1) := by decide +kernel
theorem d_Ro_add_43 : decode b_Ro_add 43 = .ok (.iastore, 1) := by decide +kernel
theorem d_Ro_add_44 : decode b_Ro_add 44 = .ok (.aload_n 0, 1) := by decide +kernel
theorem d_Ro_add_45 : decode b_Ro_add 45 = .ok (.getfield 21, 3) := by decide +kernel
theorem d_Ro_add_48 : decode b_Ro_add 48 = .ok (.iload 6, 2) := by decide +kernel
theorem d_Ro_add_50 : decode b_Ro_add 50 = .ok (.lload 4, 2) := by decide +kernel
theorem d_Ro_add_52 : decode b_Ro_add 52 = .ok (.lastore, 1) := by decide +kernel
theorem d_Ro_add_53 : decode b_Ro_add 53 = .ok (.aload_n 0, 1) := by decide +kernel
theorem d_Ro_add_54 : decode b_Ro_add 54 = .ok (.iload 6, 2) := by decide +kernel
theorem d_Ro_add_56 : decode b_Ro_add 56 = .ok (.iconst 1, 1) := by decide +kernel
theorem d_Ro_add_57 : decode b_Ro_add 57 = .ok (.iadd, 1) := by decide +kernel
theorem d_Ro_add_58 : decode b_Ro_add 58 = .ok (.putfield 25, 3) := by decide +kernel
theorem d_Ro_add_61 : decode b_Ro_add 61 = .ok (.aload_n 0, 1) := by decide +kernel
theorem d_Ro_add_62 : decode b_Ro_add 62 = .ok (.getfield 25, 3) := by decide +kernel
theorem d_Ro_add_65 : decode b_Ro_add 65 = .ok (.aload_n 0, 1) := by decide +kernel
theorem d_Ro_add_66 : decode b_Ro_add 66 = .ok (.getfield 29, 3) := by decide +kernel
theorem d_Ro_add_69 : decode b_Ro_add 69 = .ok (.if_icmp .le 11, 3) := by decide +kernel
theorem d_Ro_add_72 : decode b_Ro_add 72 = .ok (.aload_n 0, 1) := by decide +kernel
theorem d_Ro_add_73 : decode b_Ro_add 73 = .ok (.aload_n 0, 1) := by decide +kernel
theorem d_Ro_add_74 : decode b_Ro_add 74 = .ok (.getfield 25, 3) := by decide +kernel
theorem d_Ro_add_77 : decode b_Ro_add 77 = .ok (.putfield 29, 3) := by decide +kernel
theorem d_Ro_add_80 : decode b_Ro_add 80 = .ok (.return_, 1) := by decide +kernel
theorem d_Th_termOf_0 : decode b_Th_termOf 0 = .ok (.aload_n 0, 1) := by decide +kernel
theorem d_Th_termOf_1 : decode b_Th_termOf 1 = .ok (.iload_n 1, 1) := by decide +kernel
theorem d_Th_termOf_2 : decode b_Th_termOf 2 = .ok (.invokevirtual 59, 3) := by decide +kernel
theorem d_Th_termOf_5 : decode b_Th_termOf 5 = .ok (.ifCond .eq 12, 3) := by decide +kernel
theorem d_Th_termOf_8 : decode b_Th_termOf 8 = .ok (.aload_n 0, 1) := by decide +kernel
theorem d_Th_termOf_9 : decode b_Th_termOf 9 = .ok (.getfield 15, 3) := by decide +kernel
theorem d_Th_termOf_12 : decode b_Th_termOf 12 = .ok (.iload_n 1, 1) := by decide +kernel
theorem d_Th_termOf_13 : decode b_Th_termOf 13 = .ok (.iaload, 1) := by decide +kernel
theorem d_Th_termOf_14 : decode b_Th_termOf 14 = .ok (.goto 4, 3) := by decide +kernel
theorem d_Th_termOf_17 : decode b_Th_termOf 17 = .ok (.iconst (-1), 1) := by decide +kernel
theorem d_Th_termOf_18 : decode b_Th_termOf 18 = .ok (.ireturn, 1) := by decide +kernel
theorem d_Wa_needWaiting_0 : decode b_Wa_needWaiting 0 = .ok (.aload_n 0, 1) := by decide +kernel
theorem d_Wa_needWaiting_1 : decode b_Wa_needWaiting 1 = .ok (.getfield 50, 3) := by decide +kernel
theorem d_Wa_needWaiting_4 : decode b_Wa_needWaiting 4 = .ok (.ifCond .eq 23, 3) := by decide +kernel
theorem d_Wa_needWaiting_7 : decode b_Wa_needWaiting 7 = .ok (.iload_n 2, 1) := by decide +kernel
theorem d_Wa_needWaiting_8 : decode b_Wa_needWaiting 8 = .ok (.ifCond .ne 19, 3) := by decide +kernel
theorem d_Wa_needWaiting_11 : decode b_Wa_needWaiting 11 = .ok (.aload_n 0, 1) := by decide +kernel
theorem d_Wa_needWaiting_12 : decode b_Wa_needWaiting 12 = .ok (.getfield 35, 3) := by decide +kernel
theorem d_Wa_needWaiting_15 : decode b_Wa_needWaiting 15 = .ok (.invokevirtual 178, 3) := by decide +kernel
theorem d_Wa_needWaiting_18 : decode b_Wa_needWaiting 18 = .ok (.ifCond .eq 9, 3) := by decide +kernel
theorem d_Wa_needWaiting_21 : decode b_Wa_needWaiting 21 = .ok (.aload_n 0, 1) := by decide +kernel
theorem d_Wa_needWaiting_22 : decode b_Wa_needWaiting 22 = .ok (.iconst 5, 1) := by decide +kernel
theorem d_Wa_needWaiting_23 : decode b_Wa_needWaiting 23 = .ok (.putfield 46, 3) := by decide +kernel
theorem d_Wa_needWaiting_26 : decode b_Wa_needWaiting 26 = .ok (.return_, 1) := by decide +kernel
theorem d_Wa_needWaiting_27 : decode b_Wa_needWaiting 27 = .ok (.iload_n 2, 1) := by decide +kernel
theorem d_Wa_needWaiting_28 : decode b_Wa_needWaiting 28 = .ok (.ifCond .eq 10, 3) := by decide +kernel
theorem d_Wa_needWaiting_31 : decode b_Wa_needWaiting 31 = .ok (.aload_n 0, 1) := by decide +kernel
theorem d_Wa_needWaiting_32 : decode b_Wa_needWaiting 32 = .ok (.getfield 35, 3) := by decide +kernel
theorem d_Wa_needWaiting_35 : decode b_Wa_needWaiting 35 = .ok (.invokevirtual 190, 3) := by decide +kernel
theorem d_Wa_needWaiting_38 : decode b_Wa_needWaiting 38 = .ok (.aload_n 0, 1) := by decide +kernel
theorem d_Wa_needWaiting_39 : decode b_Wa_needWaiting 39 = .ok (.dup, 1) := by decide +kernel
theorem d_Wa_needWaiting_40 : decode b_Wa_needWaiting 40 = .ok (.getfield 72, 3) := by decide +kernel
theorem d_Wa_needWaiting_43 : decode b_Wa_needWaiting 43 = .ok (.iconst 1, 1) := by decide +kernel
theorem d_Wa_needWaiting_44 : decode b_Wa_needWaiting 44 = .ok (.iadd, 1) := by decide +kernel
theorem d_Wa_needWaiting_45 : decode b_Wa_needWaiting 45 = .ok (.putfield 72, 3) := by decide +kernel
theorem d_Wa_needWaiting_48 : decode b_Wa_needWaiting 48 = .ok (.aload_n 0, 1) := by decide +kernel
theorem d_Wa_needWaiting_49 : decode b_Wa_needWaiting 49 = .ok (.getfield 28, 3) := by decide +kernel
theorem d_Wa_needWaiting_52 : decode b_Wa_needWaiting 52 = .ok (.iload_n 1, 1) := by decide +kernel
theorem d_Wa_needWaiting_53 : decode b_Wa_needWaiting 53 = .ok (.invokevirtual 200, 3) := by decide +kernel
theorem d_Wa_needWaiting_56 : decode b_Wa_needWaiting 56 = .ok (.aload_n 0, 1) := by decide +kernel
theorem d_Wa_needWaiting_57 : decode b_Wa_needWaiting 57 = .ok (.getfield 50, 3) := by decide +kernel
theorem d_Wa_needWaiting_60 : decode b_Wa_needWaiting 60 = .ok (.ifCond .eq 29, 3) := by decide +kernel
theorem d_Wa_needWaiting_63 : decode b_Wa_needWaiting 63 = .ok (.aload_n 0, 1) := by decide +kernel
theorem d_Wa_needWaiting_64 : decode b_Wa_needWaiting 64 = .ok (.getfield 28, 3) := by decide +kernel
theorem d_Wa_needWaiting_67 : decode b_Wa_needWaiting 67 = .ok (.iload_n 1, 1) := by decide +kernel
theorem d_Wa_needWaiting_68 : decode b_Wa_needWaiting 68 = .ok (.aload_n 0, 1) := by decide +kernel
theorem d_Wa_needWaiting_69 : decode b_Wa_needWaiting 69 = .ok (.getfield 35, 3) := by decide +kernel
theorem d_Wa_needWaiting_72 : decode b_Wa_needWaiting 72 = .ok (.invokevirtual 203, 3) := by decide +kernel
theorem d_Wa_needWaiting_75 : decode b_Wa_needWaiting 75 = .ok (.invokevirtual 206, 3) := by decide +kernel
theorem d_Wa_needWaiting_78 : decode b_Wa_needWaiting 78 = .ok (.aload_n 0, 1) := by decide +kernel
theorem d_Wa_needWaiting_79 : decode b_Wa_needWaiting 79 = .ok (.getfield 35, 3) := by decide +kernel
theorem d_Wa_needWaiting_82 : decode b_Wa_needWaiting 82 = .ok (.iconst 0, 1) := by decide +kernel
theorem d_Wa_needWaiting_83 : decode b_Wa_needWaiting 83 = .ok (.iload_n 1, 1) := by decide +kernel
theorem d_Wa_needWaiting_84 : decode b_Wa_needWaiting 84 = .ok (.iconst (-1), 1) := by decide +kernel
theorem d_Wa_needWaiting_85 : decode b_Wa_needWaiting 85 = .ok (.lconst 0, 1) := by decide +kernel
theorem d_Wa_needWaiting_86 : decode b_Wa_needWaiting 86 = .ok (.invokevirtual 182, 3) := by decide +kernel
theorem d_Wa_needWaiting_89 : decode b_Wa_needWaiting 89 = .ok (.aload_n 0, 1) := by decide +kernel
theorem d_Wa_needWaiting_90 : decode b_Wa_needWaiting 90 = .ok (.aload_n 0, 1) := by decide +kernel
theorem d_Wa_needWaiting_91 : decode b_Wa_needWaiting 91 = .ok (.getfield 28, 3) := by decide +kernel
theorem d_Wa_needWaiting_94 : decode b_Wa_needWaiting 94 = .ok (.iload_n 1, 1) := by decide +kernel
theorem d_Wa_needWaiting_95 : decode b_Wa_needWaiting 95 = .ok (.invokevirtual 209, 3) := by decide +kernel
theorem d_Wa_needWaiting_98 : decode b_Wa_needWaiting 98 = .ok (.aload_n 0, 1) := by decide +kernel
theorem d_Wa_needWaiting_99 : decode b_Wa_needWaiting 99 = .ok (.getfield 28, 3) := by decide +kernel
theorem d_Wa_needWaiting_102 : decode b_Wa_needWaiting 102 = .ok (.iload_n 1, 1) := by decide +kernel
theorem d_Wa_needWaiting_103 : decode b_Wa_needWaiting 103 = .ok (.invokevirtual 212, 3) := by decide +kernel
theorem d_Wa_needWaiting_106 : decode b_Wa_needWaiting 106 = .ok (.invokevirtual 93, 3) := by decide +kernel
theorem d_Wa_needWaiting_109 : decode b_Wa_needWaiting 109 = .ok (.return_, 1) := by decide +kernel
theorem d_Wa_need_0 : decode b_Wa_need 0 = .ok (.aload_n 0, 1) := by decide +kernel
theorem d_Wa_need_1 : decode b_Wa_need 1 = .ok (.getfield 28, 3) := by decide +kernel
theorem d_Wa_need_4 : decode b_Wa_need 4 = .ok (.iload_n 1, 1) := by decide +kernel
theorem d_Wa_need_5 : decode b_Wa_need 5 = .ok (.invokevirtual 187, 3) := by decide +kernel
theorem d_Wa_need_8 : decode b_Wa_need 8 = .ok (.tableswitch 91 0 2 #[69, 78, 28], 28) := by decide +kernel
theorem d_Wa_need_36 : decode b_Wa_need 36 = .ok (.iload_n 2, 1) := by decide +kernel
theorem d_Wa_need_37 : decode b_Wa_need 37 = .ok (.ifCond .eq 10, 3) := by decide +kernel
theorem d_Wa_need_40 : decode b_Wa_need 40 = .ok (.aload_n 0, 1) := by decide +kernel
theorem d_Wa_need_41 : decode b_Wa_need 41 = .ok (.getfield 35, 3) := by decide +kernel
theorem d_Wa_need_44 : decode b_Wa_need 44 = .ok (.invokevirtual 190, 3) := by decide +kernel
theorem d_Wa_need_47 : decode b_Wa_need 47 = .ok (.aload_n 0, 1) := by decide +kernel
theorem d_Wa_need_48 : decode b_Wa_need 48 = .ok (.dup, 1) := by decide +kernel
theorem d_Wa_need_49 : decode b_Wa_need 49 = .ok (.getfield 69, 3) := by decide +kernel
theorem d_Wa_need_52 : decode b_Wa_need 52 = .ok (.iconst 1, 1) := by decide +kernel
theorem d_Wa_need_53 : decode b_Wa_need 53 = .ok (.iadd, 1) := by decide +kernel
theorem d_Wa_need_54 : decode b_Wa_need 54 = .ok (.putfield 69, 3) := by decide +kernel
theorem d_Wa_need_57 : decode b_Wa_need 57 = .ok (.aload_n 0, 1) := by decide +kernel
theorem d_Wa_need_58 : decode b_Wa_need 58 = .ok (.getfield 28, 3) := by decide +kernel
theorem d_Wa_need_61 : decode b_Wa_need 61 = .ok (.iload_n 1, 1) := by decide +kernel
theorem d_Wa_need_62 : decode b_Wa_need 62 = .ok (.aload_n 0, 1) := by decide +kernel
theorem d_Wa_need_63 : decode b_Wa_need 63 = .ok (.getfield 42, 3) := by decide +kernel
theorem d_Wa_need_66 : decode b_Wa_need 66 = .ok (.invokevirtual 193, 3) := by decide +kernel
theorem d_Wa_need_69 : decode b_Wa_need 69 = .ok (.aload_n 0, 1) := by decide +kernel
theorem d_Wa_need_70 : decode b_Wa_need 70 = .ok (.iconst 1, 1) := by decide +kernel
theorem d_Wa_need_71 : decode b_Wa_need 71 = .ok (.putfield 54, 3) := by decide +kernel
theorem d_Wa_need_74 : decode b_Wa_need 74 = .ok (.goto 30, 3) := by decide +kernel
theorem d_Wa_need_77 : decode b_Wa_need 77 = .ok (.aload_n 0, 1) := by decide +kernel
theorem d_Wa_need_78 : decode b_Wa_need 78 = .ok (.iload_n 1, 1) := by decide +kernel
theorem d_Wa_need_79 : decode b_Wa_need 79 = .ok (.iload_n 2, 1) := by decide +kernel
theorem d_Wa_need_80 : decode b_Wa_need 80 = .ok (.invokevirtual 197, 3) := by decide +kernel
theorem d_Wa_need_83 : decode b_Wa_need 83 = .ok (.goto 21, 3) := by decide +kernel
theorem d_Wa_need_86 : decode b_Wa_need 86 = .ok (.aload_n 0, 1) := by decide +kernel
theorem d_Wa_need_87 : decode b_Wa_need 87 = .ok (.iload_n 1, 1) := by decide +kernel
theorem d_Wa_need_88 : decode b_Wa_need 88 = .ok (.putfield 75, 3) := by decide +kernel
theorem d_Wa_need_91 : decode b_Wa_need 91 = .ok (.aload_n 0, 1) := by decide +kernel
theorem d_Wa_need_92 : decode b_Wa_need 92 = .ok (.iconst 3, 1) := by decide +kernel
theorem d_Wa_need_93 : decode b_Wa_need 93 = .ok (.putfield 46, 3) := by decide +kernel
theorem d_Wa_need_96 : decode b_Wa_need 96 = .ok (.goto 8, 3) := by decide +kernel
theorem d_Wa_need_99 : decode b_Wa_need 99 = .ok (.aload_n 0, 1) := by decide +kernel
theorem d_Wa_need_100 : decode b_Wa_need 100 = .ok (.iconst 4, 1) := by decide +kernel
theorem d_Wa_need_101 : decode b_Wa_need 101 = .ok (.putfield 46, 3) := by decide +kernel
theorem d_Wa_need_104 : decode b_Wa_need 104 = .ok (.return_, 1) := by decide +kernel
theorem d_Te_secondOf_0 : decode b_Te_secondOf 0 = .ok (.aload_n 0, 1) := by decide +kernel
theorem d_Te_secondOf_1 : decode b_Te_secondOf 1 = .ok (.iload_n 1, 1) := by decide +kernel
theorem d_Te_secondOf_2 : decode b_Te_secondOf 2 = .ok (.invokevirtual 52, 3) := by decide +kernel
theorem d_Te_secondOf_5 : decode b_Te_secondOf 5 = .ok (.ifCond .eq 12, 3) := by decide +kernel
theorem d_Te_secondOf_8 : decode b_Te_secondOf 8 = .ok (.aload_n 0, 1) := by decide +kernel
theorem d_Te_secondOf_9 : decode b_Te_secondOf 9 = .ok (.getfield 18, 3) := by decide +kernel
theorem d_Te_secondOf_12 : decode b_Te_secondOf 12 = .ok (.iload_n 1, 1) := by decide +kernel
theorem d_Te_secondOf_13 : decode b_Te_secondOf 13 = .ok (.iaload, 1) := by decide +kernel
theorem d_Te_secondOf_14 : decode b_Te_secondOf 14 = .ok (.goto 4, 3) := by decide +kernel
theorem d_Te_secondOf_17 : decode b_Te_secondOf 17 = .ok (.iconst (-1), 1) := by decide +kernel
theorem d_Te_secondOf_18 : decode b_Te_secondOf 18 = .ok (.ireturn, 1) := by decide +kernel
theorem d_Wa_newThingsFor_0 : decode b_Wa_newThingsFor 0 = .ok (.aload_n 0, 1) := by decide +kernel
theorem d_Wa_newThingsFor_1 : decode b_Wa_newThingsFor 1 = .ok (.getfield 12, 3) := by decide +kernel
theorem d_Wa_newThingsFor_4 : decode b_Wa_newThingsFor 4 = .ok (.iload_n 1, 1) := by decide +kernel
theorem d_Wa_newThingsFor_5 : decode b_Wa_newThingsFor 5 = .ok (.invokevirtual 131, 3) := by decide +kernel
theorem d_Wa_newThingsFor_8 : decode b_Wa_newThingsFor 8 = .ok (.iconst 1, 1) := by decide +kernel
theorem d_Wa_newThingsFor_9 : decode b_Wa_newThingsFor 9 = .ok (.if_icmp .ne 7, 3) := by decide +kernel
theorem d_Wa_newThingsFor_12 : decode b_Wa_newThingsFor 12 = .ok (.iconst 0, 1) := by decide +kernel
theorem d_Wa_newThingsFor_13 : decode b_Wa_newThingsFor 13 = .ok (.goto 4, 3) := by decide +kernel
theorem d_Wa_newThingsFor_16 : decode b_Wa_newThingsFor 16 = .ok (.iconst 1, 1) := by decide +kernel
theorem d_Wa_newThingsFor_17 : decode b_Wa_newThingsFor 17 = .ok (.ireturn, 1) := by decide +kernel
theorem d_Th_hasRoomFor_0 : decode b_Th_hasRoomFor 0 = .ok (.aload_n 0, 1) := by decide +kernel
theorem d_Th_hasRoomFor_1 : decode b_Th_hasRoomFor 1 = .ok (.getfield 49, 3) := by decide +kernel
theorem d_Th_hasRoomFor_4 : decode b_Th_hasRoomFor 4 = .ok (.iload_n 1, 1) := by decide +kernel
theorem d_Th_hasRoomFor_5 : decode b_Th_hasRoomFor 5 = .ok (.iadd, 1) := by decide +kernel
theorem d_Th_hasRoomFor_6 : decode b_Th_hasRoomFor 6 = .ok (.sipush 1000, 3) := by decide +kernel
theorem d_Th_hasRoomFor_9 : decode b_Th_hasRoomFor 9 = .ok (.if_icmp .gt 19, 3) := by decide +kernel
theorem d_Th_hasRoomFor_12 : decode b_Th_hasRoomFor 12 = .ok (.aload_n 0, 1) := by decide +kernel
theorem d_Th_hasRoomFor_13 : decode b_Th_hasRoomFor 13 = .ok (.getfield 53, 3) := by decide +kernel
theorem d_Th_hasRoomFor_16 : decode b_Th_hasRoomFor 16 = .ok (.iload_n 1, 1) := by decide +kernel
theorem d_Th_hasRoomFor_17 : decode b_Th_hasRoomFor 17 = .ok (.iadd, 1) := by decide +kernel
theorem d_Th_hasRoomFor_18 : decode b_Th_hasRoomFor 18 = .ok (.sipush 300, 3) := by decide +kernel
theorem d_Th_hasRoomFor_21 : decode b_Th_hasRoomFor 21 = .ok (.if_icmp .gt 7, 3) := by decide +kernel
theorem d_Th_hasRoomFor_24 : decode b_Th_hasRoomFor 24 = .ok (.iconst 1, 1) := by decide +kernel
theorem d_Th_hasRoomFor_25 : decode b_Th_hasRoomFor 25 = .ok (.goto 4, 3) := by decide +kernel
theorem d_Th_hasRoomFor_28 : decode b_Th_hasRoomFor 28 = .ok (.iconst 0, 1) := by decide +kernel
theorem d_Th_hasRoomFor_29 : decode b_Th_hasRoomFor 29 = .ok (.ireturn, 1) := by decide +kernel
theorem d_Th_add_0 : decode b_Th_add 0 = .ok (.aload_n 0, 1) := by decide +kernel
theorem d_Th_add_1 : decode b_Th_add 1 = .ok (.getfield 49, 3) := by decide +kernel
theorem d_Th_add_4 : decode b_Th_add 4 = .ok (.istore_n 3, 1) := by decide +kernel
theorem d_Th_add_5 : decode b_Th_add 5 = .ok (.aload_n 0, 1) := by decide +kernel
theorem d_Th_add_6 : decode b_Th_add 6 = .ok (.getfield 53, 3) := by decide +kernel
theorem d_Th_add_9 : decode b_Th_add 9 = .ok (.istore 4, 2) := by decide +kernel
theorem d_Th_add_11 : decode b_Th_add 11 = .ok (.iload_n 3, 1) := by decide +kernel
theorem d_Th_add_12 : decode b_Th_add 12 = .ok (.ifCond .lt 23, 3) := by decide +kernel
theorem d_Th_add_15 : decode b_Th_add 15 = .ok (.iload_n 3, 1) := by decide +kernel
theorem d_Th_add_16 : decode b_Th_add 16 = .ok (.sipush 1000, 3) := by decide +kernel
theorem d_Th_add_19 : decode b_Th_add 19 = .ok (.if_icmp .ge 16, 3) := by decide +kernel
theorem d_Th_add_22 : decode b_Th_add 22 = .ok (.iload 4, 2) := by decide +kernel
theorem d_Th_add_24 : decode b_Th_add 24 = .ok (.ifCond .lt 11, 3) := by decide +kernel
theorem d_Th_add_27 : decode b_Th_add 27 = .ok (.iload 4, 2) := by decide +kernel
theorem d_Th_add_29 : decode b_Th_add 29 = .ok (.sipush 300, 3) := by decide +kernel
theorem d_Th_add_32 : decode b_Th_add 32 = .ok (.if_icmp .lt 5, 3) := by decide +kernel
theorem d_Th_add_35 : decode b_Th_add 35 = .ok (.iconst (-1), 1) := by decide +kernel
theorem d_Th_add_36 : decode b_Th_add 36 = .ok (.ireturn, 1) := by decide +kernel
theorem d_Th_add_37 : decode b_Th_add 37 = .ok (.aload_n 0, 1) := by decide +kernel
theorem d_Th_add_38 : decode b_Th_add 38 = .ok (.getfield 9, 3) := by decide +kernel
theorem d_Th_add_41 : decode b_Th_add 41 = .ok (.iload_n 3, 1) := by decide +kernel
theorem d_Th_add_42 : decode b_Th_add 42 = .ok (.iconst 0, 1) := by decide +kernel
theorem d_Th_add_43 : decode b_Th_add 43 = .ok (.iastore, 1) := by decide +kernel
theorem d_Th_add_44 : decode b_Th_add 44 = .ok (.aload_n 0, 1) := by decide +kernel
theorem d_Th_add_45 : decode b_Th_add 45 = .ok (.getfield 15, 3) := by decide +kernel
theorem d_Th_add_48 : decode b_Th_add 48 = .ok (.iload_n 3, 1) := by decide +kernel
theorem d_Th_add_49 : decode b_Th_add 49 = .ok (.iload_n 1, 1) := by decide +kernel
theorem d_Th_add_50 : decode b_Th_add 50 = .ok (.iastore, 1) := by decide +kernel
theorem d_Th_add_51 : decode b_Th_add 51 = .ok (.aload_n 0, 1) := by decide +kernel
theorem d_Th_add_52 : decode b_Th_add 52 = .ok (.getfield 18, 3) := by decide +kernel
theorem d_Th_add_55 : decode b_Th_add 55 = .ok (.iload_n 3, 1) := by decide +kernel
theorem d_Th_add_56 : decode b_Th_add 56 = .ok (.iload_n 2, 1) := by decide +kernel
theorem d_Th_add_57 : decode b_Th_add 57 = .ok (.iastore, 1) := by decide +kernel
theorem d_Th_add_58 : decode b_Th_add 58 = .ok (.aload_n 0, 1) := by decide +kernel
theorem d_Th_add_59 : decode b_Th_add 59 = .ok (.getfield 21, 3) := by decide +kernel
theorem d_Th_add_62 : decode b_Th_add 62 = .ok (.iload_n 3, 1) := by decide +kernel
theorem d_Th_add_63 : decode b_Th_add 63 = .ok (.iconst 0, 1) := by decide +kernel
theorem d_Th_add_64 : decode b_Th_add 64 = .ok (.iastore, 1) := by decide +kernel
theorem d_Th_add_65 : decode b_Th_add 65 = .ok (.aload_n 0, 1) := by decide +kernel
theorem d_Th_add_66 : decode b_Th_add 66 = .ok (.getfield 24, 3) := by decide +kernel
theorem d_Th_add_69 : decode b_Th_add 69 = .ok (.iload_n 3, 1) := by decide +kernel
theorem d_Th_add_70 : decode b_Th_add 70 = .ok (.iconst (-1), 1) := by decide +kernel
theorem d_Th_add_71 : decode b_Th_add 71 = .ok (.iastore, 1) := by decide +kernel
theorem d_Th_add_72 : decode b_Th_add 72 = .ok (.aload_n 0, 1) := by decide +kernel
theorem d_Th_add_73 : decode b_Th_add 73 = .ok (.getfield 43, 3) := by decide +kernel
theorem d_Th_add_76 : decode b_Th_add 76 = .ok (.iload 4, 2) := by decide +kernel
theorem d_Th_add_78 : decode b_Th_add 78 = .ok (.iload_n 3, 1) := by decide +kernel
theorem d_Th_add_79 : decode b_Th_add 79 = .ok (.iastore, 1) := by decide +kernel
theorem d_Th_add_80 : decode b_Th_add 80 = .ok (.aload_n 0, 1) := by decide +kernel
theorem d_Th_add_81 : decode b_Th_add 81 = .ok (.iload_n 3, 1) := by decide +kernel
theorem d_Th_add_82 : decode b_Th_add 82 = .ok (.iconst 1, 1) := by decide +kernel
theorem d_Th_add_83 : decode b_Th_add 83 = .ok (.iadd, 1) := by decide +kernel
theorem d_Th_add_84 : decode b_Th_add 84 = .ok (.putfield 49, 3) := by decide +kernel
theorem d_Th_add_87 : decode b_Th_add 87 = .ok (.aload_n 0, 1) := by decide +kernel
theorem d_Th_add_88 : decode b_Th_add 88 = .ok (.iload 4, 2) := by decide +kernel
theorem d_Th_add_90 : decode b_Th_add 90 = .ok (.iconst 1, 1) := by decide +kernel
theorem d_Th_add_91 : decode b_Th_add 91 = .ok (.iadd, 1) := by decide +kernel
theorem d_Th_add_92 : decode b_Th_add 92 = .ok (.putfield 53, 3) := by decide +kernel
theorem d_Th_add_95 : decode b_Th_add 95 = .ok (.iload_n 3, 1) := by decide +kernel
theorem d_Th_add_96 : decode b_Th_add 96 = .ok (.ireturn, 1) := by decide +kernel
theorem d_Wa_thingFor_0 : decode b_Wa_thingFor 0 = .ok (.aload_n 0, 1) := by decide +kernel
theorem d_Wa_thingFor_1 : decode b_Wa_thingFor 1 = .ok (.getfield 12, 3) := by decide +kernel
theorem d_Wa_thingFor_4 : decode b_Wa_thingFor 4 = .ok (.iload_n 1, 1) := by decide +kernel
theorem d_Wa_thingFor_5 : decode b_Wa_thingFor 5 = .ok (.invokevirtual 131, 3) := by decide +kernel
theorem d_Wa_thingFor_8 : decode b_Wa_thingFor 8 = .ok (.iconst 1, 1) := by decide +kernel
theorem d_Wa_thingFor_9 : decode b_Wa_thingFor 9 = .ok (.if_icmp .ne 23, 3) := by decide +kernel
theorem d_Wa_thingFor_12 : decode b_Wa_thingFor 12 = .ok (.aload_n 0, 1) := by decide +kernel
theorem d_Wa_thingFor_13 : decode b_Wa_thingFor 13 = .ok (.getfield 21, 3) := by decide +kernel
theorem d_Wa_thingFor_16 : decode b_Wa_thingFor 16 = .ok (.aload_n 0, 1) := by decide +kernel
theorem d_Wa_thingFor_17 : decode b_Wa_thingFor 17 = .ok (.getfield 60, 3) := by decide +kernel
theorem d_Wa_thingFor_20 : decode b_Wa_thingFor 20 = .ok (.aload_n 0, 1) := by decide +kernel
theorem d_Wa_thingFor_21 : decode b_Wa_thingFor 21 = .ok (.getfield 12, 3) := by decide +kernel
theorem d_Wa_thingFor_24 : decode b_Wa_thingFor 24 = .ok (.iload_n 1, 1) := by decide +kernel
theorem d_Wa_thingFor_25 : decode b_Wa_thingFor 25 = .ok (.invokevirtual 141, 3) := by decide +kernel
theorem d_Wa_thingFor_28 : decode b_Wa_thingFor 28 = .ok (.invokevirtual 142, 3) := by decide +kernel
theorem d_Wa_thingFor_31 : decode b_Wa_thingFor 31 = .ok (.ireturn, 1) := by decide +kernel
theorem d_Wa_thingFor_32 : decode b_Wa_thingFor 32 = .ok (.aload_n 0, 1) := by decide +kernel
theorem d_Wa_thingFor_33 : decode b_Wa_thingFor 33 = .ok (.getfield 28, 3) := by decide +kernel
theorem d_Wa_thingFor_36 : decode b_Wa_thingFor 36 = .ok (.iload_n 1, 1) := by decide +kernel
theorem d_Wa_thingFor_37 : decode b_Wa_thingFor 37 = .ok (.aload_n 0, 1) := by decide +kernel
theorem d_Wa_thingFor_38 : decode b_Wa_thingFor 38 = .ok (.getfield 60, 3) := by decide +kernel
theorem d_Wa_thingFor_41 : decode b_Wa_thingFor 41 = .ok (.invokevirtual 162, 3) := by decide +kernel
theorem d_Wa_thingFor_44 : decode b_Wa_thingFor 44 = .ok (.ireturn, 1) := by decide +kernel
theorem d_Va_bePair_0 : decode b_Va_bePair 0 = .ok (.aload_n 0, 1) := by decide +kernel
theorem d_Va_bePair_1 : decode b_Va_bePair 1 = .ok (.iconst 2, 1) := by decide +kernel
theorem d_Va_bePair_2 : decode b_Va_bePair 2 = .ok (.lconst 0, 1) := by decide +kernel
theorem d_Va_bePair_3 : decode b_Va_bePair 3 = .ok (.iload_n 1, 1) := by decide +kernel
theorem d_Va_bePair_4 : decode b_Va_bePair 4 = .ok (.iload_n 2, 1) := by decide +kernel
theorem d_Va_bePair_5 : decode b_Va_bePair 5 = .ok (.invokevirtual 25, 3) := by decide +kernel
theorem d_Va_bePair_8 : decode b_Va_bePair 8 = .ok (.return_, 1) := by decide +kernel
theorem d_Wa_makePair_0 : decode b_Wa_makePair 0 = .ok (.aload_n 0, 1) := by decide +kernel
theorem d_Wa_makePair_1 : decode b_Wa_makePair 1 = .ok (.getfield 28, 3) := by decide +kernel
theorem d_Wa_makePair_4 : decode b_Wa_makePair 4 = .ok (.aload_n 0, 1) := by decide +kernel
theorem d_Wa_makePair_5 : decode b_Wa_makePair 5 = .ok (.iload_n 1, 1) := by decide +kernel
theorem d_Wa_makePair_6 : decode b_Wa_makePair 6 = .ok (.invokevirtual 165, 3) := by decide +kernel
theorem d_Wa_makePair_9 : decode b_Wa_makePair 9 = .ok (.aload_n 0, 1) := by decide +kernel
theorem d_Wa_makePair_10 : decode b_Wa_makePair 10 = .ok (.iload_n 2, 1) := by decide +kernel
theorem d_Wa_makePair_11 : decode b_Wa_makePair 11 = .ok (.invokevirtual 165, 3) := by decide +kernel
theorem d_Wa_makePair_14 : decode b_Wa_makePair 14 = .ok (.iadd, 1) := by decide +kernel
theorem d_Wa_makePair_15 : decode b_Wa_makePair 15 = .ok (.invokevirtual 168, 3) := by decide +kernel
theorem d_Wa_makePair_18 : decode b_Wa_makePair 18 = .ok (.ifCond .ne 9, 3) := by decide +kernel
theorem d_Wa_makePair_21 : decode b_Wa_makePair 21 = .ok (.aload_n 0, 1) := by decide +kernel
theorem d_Wa_makePair_22 : decode b_Wa_makePair 22 = .ok (.iconst 5, 1) := by decide +kernel
theorem d_Wa_makePair_23 : decode b_Wa_makePair 23 = .ok (.putfield 46, 3) := by decide +kernel
theorem d_Wa_makePair_26 : decode b_Wa_makePair 26 = .ok (.return_, 1) := by decide +kernel
theorem d_Wa_makePair_27 : decode b_Wa_makePair 27 = .ok (.aload_n 0, 1) := by decide +kernel
theorem d_Wa_makePair_28 : decode b_Wa_makePair 28 = .ok (.iload_n 1, 1) := by decide +kernel
theorem d_Wa_makePair_29 : decode b_Wa_makePair 29 = .ok (.invokevirtual 172, 3) := by decide +kernel
theorem d_Wa_makePair_32 : decode b_Wa_makePair 32 = .ok (.istore_n 3, 1) := by decide +kernel
theorem d_Wa_makePair_33 : decode b_Wa_makePair 33 = .ok (.aload_n 0, 1) := by decide +kernel
theorem d_Wa_makePair_34 : decode b_Wa_makePair 34 = .ok (.iload_n 2, 1) := by decide +kernel
theorem d_Wa_makePair_35 : decode b_Wa_makePair 35 = .ok (.invokevirtual 172, 3) := by decide +kernel
theorem d_Wa_makePair_38 : decode b_Wa_makePair 38 = .ok (.istore 4, 2) := by decide +kernel
theorem d_Wa_makePair_40 : decode b_Wa_makePair 40 = .ok (.aload_n 0, 1) := by decide +kernel
theorem d_Wa_makePair_41 : decode b_Wa_makePair 41 = .ok (.getfield 42, 3) := by decide +kernel
theorem d_Wa_makePair_44 : decode b_Wa_makePair 44 = .ok (.iload_n 3, 1) := by decide +kernel
theorem d_Wa_makePair_45 : decode b_Wa_makePair 45 = .ok (.iload 4, 2) := by decide +kernel
theorem d_Wa_makePair_47 : decode b_Wa_makePair 47 = .ok (.invokevirtual 175, 3) := by decide +kernel
theorem d_Wa_makePair_50 : decode b_Wa_makePair 50 = .ok (.aload_n 0, 1) := by decide +kernel
theorem d_Wa_makePair_51 : decode b_Wa_makePair 51 = .ok (.iconst 1, 1) := by decide +kernel
theorem d_Wa_makePair_52 : decode b_Wa_makePair 52 = .ok (.putfield 54, 3) := by decide +kernel
theorem d_Wa_makePair_55 : decode b_Wa_makePair 55 = .ok (.return_, 1) := by decide +kernel
theorem d_Wa_enterApply_0 : decode b_Wa_enterApply 0 = .ok (.aload_n 0, 1) := by decide +kernel
theorem d_Wa_enterApply_1 : decode b_Wa_enterApply 1 = .ok (.getfield 28, 3) := by decide +kernel
theorem d_Wa_enterApply_4 : decode b_Wa_enterApply 4 = .ok (.aload_n 0, 1) := by decide +kernel
theorem d_Wa_enterApply_5 : decode b_Wa_enterApply 5 = .ok (.iload_n 1, 1) := by decide +kernel
theorem d_Wa_enterApply_6 : decode b_Wa_enterApply 6 = .ok (.invokevirtual 165, 3) := by decide +kernel
theorem d_Wa_enterApply_9 : decode b_Wa_enterApply 9 = .ok (.invokevirtual 168, 3) := by decide +kernel
theorem d_Wa_enterApply_12 : decode b_Wa_enterApply 12 = .ok (.ifCond .eq 13, 3) := by decide +kernel
theorem d_Wa_enterApply_15 : decode b_Wa_enterApply 15 = .ok (.aload_n 0, 1) := by decide +kernel
theorem d_Wa_enterApply_16 : decode b_Wa_enterApply 16 = .ok (.getfield 35, 3) := by decide +kernel
theorem d_Wa_enterApply_19 : decode b_Wa_enterApply 19 = .ok (.invokevirtual 178, 3) := by decide +kernel
theorem d_Wa_enterApply_22 : decode b_Wa_enterApply 22 = .ok (.ifCond .eq 9, 3) := by decide +kernel
theorem d_Wa_enterApply_25 : decode b_Wa_enterApply 25 = .ok (.aload_n 0, 1) := by decide +kernel
theorem d_Wa_enterApply_26 : decode b_Wa_enterApply 26 = .ok (.iconst 5, 1) := by decide +kernel
theorem d_Wa_enterApply_27 : decode b_Wa_enterApply 27 = .ok (.putfield 46, 3) := by decide +kernel
theorem d_Wa_enterApply_30 : decode b_Wa_enterApply 30 = .ok (.return_, 1) := by decide +kernel
theorem d_Wa_enterApply_31 : decode b_Wa_enterApply 31 = .ok (.aload_n 0, 1) := by decide +kernel
theorem d_Wa_enterApply_32 : decode b_Wa_enterApply 32 = .ok (.getfield 35, 3) := by decide +kernel
theorem d_Wa_enterApply_35 : decode b_Wa_enterApply 35 = .ok (.iconst 1, 1) := by decide +kernel
theorem d_Wa_enterApply_36 : decode b_Wa_enterApply 36 = .ok (.aload_n 0, 1) := by decide +kernel
theorem d_Wa_enterApply_37 : decode b_Wa_enterApply 37 = .ok (.iload_n 1, 1) := by decide +kernel
theorem d_Wa_enterApply_38 : decode b_Wa_enterApply 38 = .ok (.invokevirtual 172, 3) := by decide +kernel
theorem d_Wa_enterApply_41 : decode b_Wa_enterApply 41 = .ok (.iconst (-1), 1) := by decide +kernel
theorem d_Wa_enterApply_42 : decode b_Wa_enterApply 42 = .ok (.lconst 0, 1) := by decide +kernel
theorem d_Wa_enterApply_43 : decode b_Wa_enterApply 43 = .ok (.invokevirtual 182, 3) := by decide +kernel
theorem d_Wa_enterApply_46 : decode b_Wa_enterApply 46 = .ok (.aload_n 0, 1) := by decide +kernel
theorem d_Wa_enterApply_47 : decode b_Wa_enterApply 47 = .ok (.aload_n 0, 1) := by decide +kernel
theorem d_Wa_enterApply_48 : decode b_Wa_enterApply 48 = .ok (.getfield 12, 3) := by decide +kernel
theorem d_Wa_enterApply_51 : decode b_Wa_enterApply 51 = .ok (.aload_n 0, 1) := by decide +kernel
theorem d_Wa_enterApply_52 : decode b_Wa_enterApply 52 = .ok (.getfield 57, 3) := by decide +kernel
theorem d_Wa_enterApply_55 : decode b_Wa_enterApply 55 = .ok (.invokevirtual 141, 3) := by decide +kernel
theorem d_Wa_enterApply_58 : decode b_Wa_enterApply 58 = .ok (.putfield 57, 3) := by decide +kernel
theorem d_Wa_enterApply_61 : decode b_Wa_enterApply 61 = .ok (.return_, 1) := by decide +kernel
theorem d_Pl_isFull_0 : decode b_Pl_isFull 0 = .ok (.aload_n 0, 1) := by decide +kernel
theorem d_Pl_isFull_1 : decode b_Pl_isFull 1 = .ok (.getfield 21, 3) := by decide +kernel
theorem d_Pl_isFull_4 : decode b_Pl_isFull 4 = .ok (.sipush 1000, 3) := by decide +kernel
theorem d_Pl_isFull_7 : decode b_Pl_isFull 7 = .ok (.if_icmp .lt 7, 3) := by decide +kernel
theorem d_Pl_isFull_10 : decode b_Pl_isFull 10 = .ok (.iconst 1, 1) := by decide +kernel
theorem d_Pl_isFull_11 : decode b_Pl_isFull 11 = .ok (.goto 4, 3) := by decide +kernel
theorem d_Pl_isFull_14 : decode b_Pl_isFull 14 = .ok (.iconst 0, 1) := by decide +kernel
theorem d_Pl_isFull_15 : decode b_Pl_isFull 15 = .ok (.ireturn, 1) := by decide +kernel
theorem d_Pl_add_0 : decode b_Pl_add 0 = .ok (.aload_n 0, 1) := by decide +kernel
theorem d_Pl_add_1 : decode b_Pl_add 1 = .ok (.getfield 21, 3) := by decide +kernel
theorem d_Pl_add_4 : decode b_Pl_add 4 = .ok (.istore_n 3, 1) := by decide +kernel
theorem d_Pl_add_5 : decode b_Pl_add 5 = .ok (.iload_n 3, 1) := by decide +kernel
theorem d_Pl_add_6 : decode b_Pl_add 6 = .ok (.ifCond .lt 10, 3) := by decide +kernel
theorem d_Pl_add_9 : decode b_Pl_add 9 = .ok (.iload_n 3, 1) := by decide +kernel
theorem d_Pl_add_10 : decode b_Pl_add 10 = .ok (.sipush 1000, 3) := by decide +kernel
theorem d_Pl_add_13 : decode b_Pl_add 13 = .ok (.if_icmp .lt 5, 3) := by decide +kernel
theorem d_Pl_add_16 : decode b_Pl_add 16 = .ok (.iconst (-1), 1) := by decide +kernel
theorem d_Pl_add_17 : decode b_Pl_add 17 = .ok (.ireturn, 1) := by decide +kernel
theorem d_Pl_add_18 : decode b_Pl_add 18 = .ok (.aload_n 0, 1) := by decide +kernel
theorem d_Pl_add_19 : decode b_Pl_add 19 = .ok (.getfield 9, 3) := by decide +kernel
theorem d_Pl_add_22 : decode b_Pl_add 22 = .ok (.iload_n 3, 1) := by decide +kernel
theorem d_Pl_add_23 : decode b_Pl_add 23 = .ok (.iload_n 1, 1) := by decide +kernel
theorem d_Pl_add_24 : decode b_Pl_add 24 = .ok (.iastore, 1) := by decide +kernel
theorem d_Pl_add_25 : decode b_Pl_add 25 = .ok (.aload_n 0, 1) := by decide +kernel
theorem d_Pl_add_26 : decode b_Pl_add 26 = .ok (.getfield 15, 3) := by decide +kernel
theorem d_Pl_add_29 : decode b_Pl_add 29 = .ok (.iload_n 3, 1) := by decide +kernel
theorem d_Pl_add_30 : decode b_Pl_add 30 = .ok (.iload_n 2, 1) := by decide +kernel
theorem d_Pl_add_31 : decode b_Pl_add 31 = .ok (.iastore, 1) := by decide +kernel
theorem d_Pl_add_32 : decode b_Pl_add 32 = .ok (.aload_n 0, 1) := by decide +kernel
theorem d_Pl_add_33 : decode b_Pl_add 33 = .ok (.iload_n 3, 1) := by decide +kernel
theorem d_Pl_add_34 : decode b_Pl_add 34 = .ok (.iconst 1, 1) := by decide +kernel
theorem d_Pl_add_35 : decode b_Pl_add 35 = .ok (.iadd, 1) := by decide +kernel
theorem d_Pl_add_36 : decode b_Pl_add 36 = .ok (.putfield 21, 3) := by decide +kernel
theorem d_Pl_add_39 : decode b_Pl_add 39 = .ok (.iload_n 3, 1) := by decide +kernel
theorem d_Pl_add_40 : decode b_Pl_add 40 = .ok (.ireturn, 1) := by decide +kernel
theorem d_Wa_enterLet_0 : decode b_Wa_enterLet 0 = .ok (.aload_n 0, 1) := by decide +kernel
theorem d_Wa_enterLet_1 : decode b_Wa_enterLet 1 = .ok (.getfield 28, 3) := by decide +kernel
theorem d_Wa_enterLet_4 : decode b_Wa_enterLet 4 = .ok (.iconst 1, 1) := by decide +kernel
theorem d_Wa_enterLet_5 : decode b_Wa_enterLet 5 = .ok (.invokevirtual 168, 3) := by decide +kernel
theorem d_Wa_enterLet_8 : decode b_Wa_enterLet 8 = .ok (.ifCond .eq 13, 3) := by decide +kernel
theorem d_Wa_enterLet_11 : decode b_Wa_enterLet 11 = .ok (.aload_n 0, 1) := by decide +kernel
theorem d_Wa_enterLet_12 : decode b_Wa_enterLet 12 = .ok (.getfield 21, 3) := by decide +kernel
theorem d_Wa_enterLet_15 : decode b_Wa_enterLet 15 = .ok (.invokevirtual 185, 3) := by decide +kernel
theorem d_Wa_enterLet_18 : decode b_Wa_enterLet 18 = .ok (.ifCond .eq 9, 3) := by decide +kernel
theorem d_Wa_enterLet_21 : decode b_Wa_enterLet 21 = .ok (.aload_n 0, 1) := by decide +kernel
theorem d_Wa_enterLet_22 : decode b_Wa_enterLet 22 = .ok (.iconst 5, 1) := by decide +kernel
theorem d_Wa_enterLet_23 : decode b_Wa_enterLet 23 = .ok (.putfield 46, 3) := by decide +kernel
theorem d_Wa_enterLet_26 : decode b_Wa_enterLet 26 = .ok (.return_, 1) := by decide +kernel
theorem d_Wa_enterLet_27 : decode b_Wa_enterLet 27 = .ok (.aload_n 0, 1) := by decide +kernel
theorem d_Wa_enterLet_28 : decode b_Wa_enterLet 28 = .ok (.getfield 21, 3) := by decide +kernel
theorem d_Wa_enterLet_31 : decode b_Wa_enterLet 31 = .ok (.aload_n 0, 1) := by decide +kernel
theorem d_Wa_enterLet_32 : decode b_Wa_enterLet 32 = .ok (.getfield 28, 3) := by decide +kernel
theorem d_Wa_enterLet_35 : decode b_Wa_enterLet 35 = .ok (.getfield 114, 3) := by decide +kernel
theorem d_Wa_enterLet_38 : decode b_Wa_enterLet 38 = .ok (.aload_n 0, 1) := by decide +kernel
theorem d_Wa_enterLet_39 : decode b_Wa_enterLet 39 = .ok (.getfield 60, 3) := by decide +kernel
theorem d_Wa_enterLet_42 : decode b_Wa_enterLet 42 = .ok (.invokevirtual 186, 3) := by decide +kernel
theorem d_Wa_enterLet_45 : decode b_Wa_enterLet 45 = .ok (.istore_n 3, 1) := by decide +kernel
theorem d_Wa_enterLet_46 : decode b_Wa_enterLet 46 = .ok (.aload_n 0, 1) := by decide +kernel
theorem d_Wa_enterLet_47 : decode b_Wa_enterLet 47 = .ok (.getfield 28, 3) := by decide +kernel
theorem d_Wa_enterLet_50 : decode b_Wa_enterLet 50 = .ok (.iload_n 1, 1) := by decide +kernel
theorem d_Wa_enterLet_51 : decode b_Wa_enterLet 51 = .ok (.iload_n 3, 1) := by decide +kernel
theorem d_Wa_enterLet_52 : decode b_Wa_enterLet 52 = .ok (.invokevirtual 162, 3) := by decide +kernel
theorem d_Wa_enterLet_55 : decode b_Wa_enterLet 55 = .ok (.pop, 1) := by decide +kernel
theorem d_Wa_enterLet_56 : decode b_Wa_enterLet 56 = .ok (.aload_n 0, 1) := by decide +kernel
theorem d_Wa_enterLet_57 : decode b_Wa_enterLet 57 = .ok (.iload_n 2, 1) := by decide +kernel
theorem d_Wa_enterLet_58 : decode b_Wa_enterLet 58 = .ok (.iload_n 3, 1) := by decide +kernel
theorem d_Wa_enterLet_59 : decode b_Wa_enterLet 59 = .ok (.invokevirtual 93, 3) := by decide +kernel
theorem d_Wa_enterLet_62 : decode b_Wa_enterLet 62 = .ok (.return_, 1) := by decide +kernel
theorem d_Wa_enter_0 : decode b_Wa_enter 0 = .ok (.aload_n 0, 1) := by decide +kernel
theorem d_Wa_enter_1 : decode b_Wa_enter 1 = .ok (.getfield 35, 3) := by decide +kernel
theorem d_Wa_enter_4 : decode b_Wa_enter 4 = .ok (.invokevirtual 178, 3) := by decide +kernel
theorem d_Wa_enter_7 : decode b_Wa_enter 7 = .ok (.ifCond .eq 9, 3) := by decide +kernel
theorem d_Wa_enter_10 : decode b_Wa_enter 10 = .ok (.aload_n 0, 1) := by decide +kernel
theorem d_Wa_enter_11 : decode b_Wa_enter 11 = .ok (.iconst 5, 1) := by decide +kernel
theorem d_Wa_enter_12 : decode b_Wa_enter 12 = .ok (.putfield 46, 3) := by decide +kernel
theorem d_Wa_enter_15 : decode b_Wa_enter 15 = .ok (.return_, 1) := by decide +kernel
theorem d_Wa_enter_16 : decode b_Wa_enter 16 = .ok (.aload_n 0, 1) := by decide +kernel
theorem d_Wa_enter_17 : decode b_Wa_enter 17 = .ok (.getfield 35, 3) := by decide +kernel
theorem d_Wa_enter_20 : decode b_Wa_enter 20 = .ok (.iload_n 1, 1) := by decide +kernel
theorem d_Wa_enter_21 : decode b_Wa_enter 21 = .ok (.aload_n 0, 1) := by decide +kernel
theorem d_Wa_enter_22 : decode b_Wa_enter 22 = .ok (.getfield 57, 3) := by decide +kernel
theorem d_Wa_enter_25 : decode b_Wa_enter 25 = .ok (.aload_n 0, 1) := by decide +kernel
theorem d_Wa_enter_26 : decode b_Wa_enter 26 = .ok (.getfield 60, 3) := by decide +kernel
theorem d_Wa_enter_29 : decode b_Wa_enter 29 = .ok (.lconst 0, 1) := by decide +kernel
theorem d_Wa_enter_30 : decode b_Wa_enter 30 = .ok (.invokevirtual 182, 3) := by decide +kernel
theorem d_Wa_enter_33 : decode b_Wa_enter 33 = .ok (.aload_n 0, 1) := by decide +kernel
theorem d_Wa_enter_34 : decode b_Wa_enter 34 = .ok (.aload_n 0, 1) := by decide +kernel
theorem d_Wa_enter_35 : decode b_Wa_enter 35 = .ok (.getfield 12, 3) := by decide +kernel
theorem d_Wa_enter_38 : decode b_Wa_enter 38 = .ok (.aload_n 0, 1) := by decide +kernel
theorem d_Wa_enter_39 : decode b_Wa_enter 39 = .ok (.getfield 57, 3) := by decide +kernel
theorem d_Wa_enter_42 : decode b_Wa_enter 42 = .ok (.invokevirtual 141, 3) := by decide +kernel
theorem d_Wa_enter_45 : decode b_Wa_enter 45 = .ok (.putfield 57, 3) := by decide +kernel
theorem d_Wa_enter_48 : decode b_Wa_enter 48 = .ok (.return_, 1) := by decide +kernel
theorem d_Wa_stepWithTerm_0 : decode b_Wa_stepWithTerm 0 = .ok (.aload_n 0, 1) := by decide +kernel
theorem d_Wa_stepWithTerm_1 : decode b_Wa_stepWithTerm 1 = .ok (.getfield 12, 3) := by decide +kernel
theorem d_Wa_stepWithTerm_4 : decode b_Wa_stepWithTerm 4 = .ok (.aload_n 0, 1) := by decide +kernel
theorem d_Wa_stepWithTerm_5 : decode b_Wa_stepWithTerm 5 = .ok (.getfield 57, 3) := by decide +kernel
theorem d_Wa_stepWithTerm_8 : decode b_Wa_stepWithTerm 8 = .ok (.invokevirtual 131, 3) := by decide +kernel
theorem d_Wa_stepWithTerm_11 : decode b_Wa_stepWithTerm 11 = .ok (.tableswitch 241 0 9 #[53, 102, 79, 224, 232, 161, 179, 132, 208, 216], 53) := by decide +kernel
theorem d_Wa_stepWithTerm_64 : decode b_Wa_stepWithTerm 64 = .ok (.aload_n 0, 1) := by decide +kernel
theorem d_Wa_stepWithTerm_65 : decode b_Wa_stepWithTerm 65 = .ok (.getfield 42, 3) := by decide +kernel
theorem d_Wa_stepWithTerm_68 : decode b_Wa_stepWithTerm 68 = .ok (.aload_n 0, 1) := by decide +kernel
theorem d_Wa_stepWithTerm_69 : decode b_Wa_stepWithTerm 69 = .ok (.getfield 12, 3) := by decide +kernel
theorem d_Wa_stepWithTerm_72 : decode b_Wa_stepWithTerm 72 = .ok (.aload_n 0, 1) := by decide +kernel
theorem d_Wa_stepWithTerm_73 : decode b_Wa_stepWithTerm 73 = .ok (.getfield 57, 3) := by decide +kernel
theorem d_Wa_stepWithTerm_76 : decode b_Wa_stepWithTerm 76 = .ok (.invokevirtual 134, 3) := by decide +kernel
theorem d_Wa_stepWithTerm_79 : decode b_Wa_stepWithTerm 79 = .ok (.invokevirtual 89, 3) := by decide +kernel
theorem d_Wa_stepWithTerm_82 : decode b_Wa_stepWithTerm 82 = .ok (.aload_n 0, 1) := by decide +kernel
theorem d_Wa_stepWithTerm_83 : decode b_Wa_stepWithTerm 83 = .ok (.iconst 1, 1) := by decide +kernel
theorem d_Wa_stepWithTerm_84 : decode b_Wa_stepWithTerm 84 = .ok (.putfield 54, 3) := by decide +kernel
theorem d_Wa_stepWithTerm_87 : decode b_Wa_stepWithTerm 87 = .ok (.goto 170, 3) := by decide +kernel
theorem d_Wa_stepWithTerm_90 : decode b_Wa_stepWithTerm 90 = .ok (.aload_n 0, 1) := by decide +kernel
theorem d_Wa_stepWithTerm_91 : decode b_Wa_stepWithTerm 91 = .ok (.getfield 42, 3) := by decide +kernel
theorem d_Wa_stepWithTerm_94 : decode b_Wa_stepWithTerm 94 = .ok (.aload_n 0, 1) := by decide +kernel
theorem d_Wa_stepWithTerm_95 : decode b_Wa_stepWithTerm 95 = .ok (.getfield 57, 3) := by decide +kernel
theorem d_Wa_stepWithTerm_98 : decode b_Wa_stepWithTerm 98 = .ok (.aload_n 0, 1) := by decide +kernel
theorem d_Wa_stepWithTerm_99 : decode b_Wa_stepWithTerm 99 = .ok (.getfield 60, 3) := by decide +kernel
theorem d_Wa_stepWithTerm_102 : decode b_Wa_stepWithTerm 102 = .ok (.invokevirtual 138, 3) := by decide +kernel
theorem d_Wa_stepWithTerm_105 : decode b_Wa_stepWithTerm 105 = .ok (.aload_n 0, 1) := by decide +kernel
theorem d_Wa_stepWithTerm_106 : decode b_Wa_stepWithTerm 106 = .ok (.iconst 1, 1) := by decide +kernel
theorem d_Wa_stepWithTerm_107 : decode b_Wa_stepWithTerm 107 = .ok (.putfield 54, 3) := by decide +kernel
theorem d_Wa_stepWithTerm_110 : decode b_Wa_stepWithTerm 110 = .ok (.goto 147, 3) := by decide +kernel
theorem d_Wa_stepWithTerm_113 : decode b_Wa_stepWithTerm 113 = .ok (.aload_n 0, 1) := by decide +kernel
theorem d_Wa_stepWithTerm_114 : decode b_Wa_stepWithTerm 114 = .ok (.aload_n 0, 1) := by decide +kernel
theorem d_Wa_stepWithTerm_115 : decode b_Wa_stepWithTerm 115 = .ok (.getfield 21, 3) := by decide +kernel
theorem d_Wa_stepWithTerm_118 : decode b_Wa_stepWithTerm 118 = .ok (.aload_n 0, 1) := by decide +kernel
theorem d_Wa_stepWithTerm_119 : decode b_Wa_stepWithTerm 119 = .ok (.getfield 60, 3) := by decide +kernel
theorem d_Wa_stepWithTerm_122 : decode b_Wa_stepWithTerm 122 = .ok (.aload_n 0, 1) := by decide +kernel
theorem d_Wa_stepWithTerm_123 : decode b_Wa_stepWithTerm 123 = .ok (.getfield 12, 3) := by decide +kernel
theorem d_Wa_stepWithTerm_126 : decode b_Wa_stepWithTerm 126 = .ok (.aload_n 0, 1) := by decide +kernel
theorem d_Wa_stepWithTerm_127 : decode b_Wa_stepWithTerm 127 = .ok (.getfield 57, 3) := by decide +kernel
theorem d_Wa_stepWithTerm_130 : decode b_Wa_stepWithTerm 130 = .ok (.invokevirtual 141, 3) := by decide +kernel
theorem d_Wa_stepWithTerm_133 : decode b_Wa_stepWithTerm 133 = .ok (.invokevirtual 142, 3) := by decide +kernel
theorem d_Wa_stepWithTerm_136 : decode b_Wa_stepWithTerm 136 = .ok (.iconst 0, 1) := by decide +kernel
theorem d_Wa_stepWithTerm_137 : decode b_Wa_stepWithTerm 137 = .ok (.invokevirtual 107, 3) := by decide +kernel
theorem d_Wa_stepWithTerm_140 : decode b_Wa_stepWithTerm 140 = .ok (.goto 117, 3) := by decide +kernel
theorem d_Wa_stepWithTerm_143 : decode b_Wa_stepWithTerm 143 = .ok (.aload_n 0, 1) := by decide +kernel
theorem d_Wa_stepWithTerm_144 : decode b_Wa_stepWithTerm 144 = .ok (.aload_n 0, 1) := by decide +kernel
theorem d_Wa_stepWithTerm_145 : decode b_Wa_stepWithTerm 145 = .ok (.getfield 12, 3) := by decide +kernel
theorem d_Wa_stepWithTerm_148 : decode b_Wa_stepWithTerm 148 = .ok (.aload_n 0, 1) := by decide +kernel
theorem d_Wa_stepWithTerm_149 : decode b_Wa_stepWithTerm 149 = .ok (.getfield 57, 3) := by decide +kernel
theorem d_Wa_stepWithTerm_152 : decode b_Wa_stepWithTerm 152 = .ok (.invokevirtual 141, 3) := by decide +kernel
theorem d_Wa_stepWithTerm_155 : decode b_Wa_stepWithTerm 155 = .ok (.aload_n 0, 1) := by decide +kernel
theorem d_Wa_stepWithTerm_156 : decode b_Wa_stepWithTerm 156 = .ok (.getfield 12, 3) := by decide +kernel
theorem d_Wa_stepWithTerm_159 : decode b_Wa_stepWithTerm 159 = .ok (.aload_n 0, 1) := by decide +kernel
theorem d_Wa_stepWithTerm_160 : decode b_Wa_stepWithTerm 160 = .ok (.getfield 57, 3) := by decide +kernel
theorem d_Wa_stepWithTerm_163 : decode b_Wa_stepWithTerm 163 = .ok (.invokevirtual 146, 3) := by decide +kernel
theorem d_Wa_stepWithTerm_166 : decode b_Wa_stepWithTerm 166 = .ok (.invokevirtual 149, 3) := by decide +kernel
theorem d_Wa_stepWithTerm_169 : decode b_Wa_stepWithTerm 169 = .ok (.goto 88, 3) := by decide +kernel
theorem d_Wa_stepWithTerm_172 : decode b_Wa_stepWithTerm 172 = .ok (.aload_n 0, 1) := by decide +kernel
theorem d_Wa_stepWithTerm_173 : decode b_Wa_stepWithTerm 173 = .ok (.aload_n 0, 1) := by decide +kernel
theorem d_Wa_stepWithTerm_174 : decode b_Wa_stepWithTerm 174 = .ok (.getfield 12, 3) := by decide +kernel
theorem d_Wa_stepWithTerm_177 : decode b_Wa_stepWithTerm 177 = .ok (.aload_n 0, 1) := by decide +kernel
theorem d_Wa_stepWithTerm_178 : decode b_Wa_stepWithTerm 178 = .ok (.getfield 57, 3) := by decide +kernel
theorem d_Wa_stepWithTerm_181 : decode b_Wa_stepWithTerm 181 = .ok (.invokevirtual 146, 3) := by decide +kernel
theorem d_Wa_stepWithTerm_184 : decode b_Wa_stepWithTerm 184 = .ok (.invokevirtual 152, 3) := by decide +kernel
theorem d_Wa_stepWithTerm_187 : decode b_Wa_stepWithTerm 187 = .ok (.goto 70, 3) := by decide +kernel
theorem d_Wa_stepWithTerm_190 : decode b_Wa_stepWithTerm 190 = .ok (.aload_n 0, 1) := by decide +kernel
theorem d_Wa_stepWithTerm_191 : decode b_Wa_stepWithTerm 191 = .ok (.aload_n 0, 1) := by decide +kernel
theorem d_Wa_stepWithTerm_192 : decode b_Wa_stepWithTerm 192 = .ok (.getfield 12, 3) := by decide +kernel
theorem d_Wa_stepWithTerm_195 : decode b_Wa_stepWithTerm 195 = .ok (.aload_n 0, 1) := by decide +kernel
theorem d_Wa_stepWithTerm_196 : decode b_Wa_stepWithTerm 196 = .ok (.getfield 57, 3) := by decide +kernel
theorem d_Wa_stepWithTerm_199 : decode b_Wa_stepWithTerm 199 = .ok (.invokevirtual 141, 3) := by decide +kernel
theorem d_Wa_stepWithTerm_202 : decode b_Wa_stepWithTerm 202 = .ok (.aload_n 0, 1) := by decide +kernel
theorem d_Wa_stepWithTerm_203 : decode b_Wa_stepWithTerm 203 = .ok (.getfield 12, 3) := by decide +kernel
theorem d_Wa_stepWithTerm_206 : decode b_Wa_stepWithTerm 206 = .ok (.aload_n 0, 1) := by decide +kernel
theorem d_Wa_stepWithTerm_207 : decode b_Wa_stepWithTerm 207 = .ok (.getfield 57, 3) := by decide +kernel
theorem d_Wa_stepWithTerm_210 : decode b_Wa_stepWithTerm 210 = .ok (.invokevirtual 146, 3) := by decide +kernel
theorem d_Wa_stepWithTerm_213 : decode b_Wa_stepWithTerm 213 = .ok (.invokevirtual 156, 3) := by decide +kernel
theorem d_Wa_stepWithTerm_216 : decode b_Wa_stepWithTerm 216 = .ok (.goto 41, 3) := by decide +kernel
theorem d_Wa_stepWithTerm_219 : decode b_Wa_stepWithTerm 219 = .ok (.aload_n 0, 1) := by decide +kernel
theorem d_Wa_stepWithTerm_220 : decode b_Wa_stepWithTerm 220 = .ok (.iconst 2, 1) := by decide +kernel
theorem d_Wa_stepWithTerm_221 : decode b_Wa_stepWithTerm 221 = .ok (.invokevirtual 159, 3) := by decide +kernel
theorem d_Wa_stepWithTerm_224 : decode b_Wa_stepWithTerm 224 = .ok (.goto 33, 3) := by decide +kernel
theorem d_Wa_stepWithTerm_227 : decode b_Wa_stepWithTerm 227 = .ok (.aload_n 0, 1) := by decide +kernel
theorem d_Wa_stepWithTerm_228 : decode b_Wa_stepWithTerm 228 = .ok (.iconst 4, 1) := by decide +kernel
theorem d_Wa_stepWithTerm_229 : decode b_Wa_stepWithTerm 229 = .ok (.invokevirtual 159, 3) := by decide +kernel
theorem d_Wa_stepWithTerm_232 : decode b_Wa_stepWithTerm 232 = .ok (.goto 25, 3) := by decide +kernel
theorem d_Wa_stepWithTerm_235 : decode b_Wa_stepWithTerm 235 = .ok (.aload_n 0, 1) := by decide +kernel
theorem d_Wa_stepWithTerm_236 : decode b_Wa_stepWithTerm 236 = .ok (.iconst 5, 1) := by decide +kernel
theorem d_Wa_stepWithTerm_237 : decode b_Wa_stepWithTerm 237 = .ok (.invokevirtual 159, 3) := by decide +kernel
theorem d_Wa_stepWithTerm_240 : decode b_Wa_stepWithTerm 240 = .ok (.goto 17, 3) := by decide +kernel
theorem d_Wa_stepWithTerm_243 : decode b_Wa_stepWithTerm 243 = .ok (.aload_n 0, 1) := by decide +kernel
theorem d_Wa_stepWithTerm_244 : decode b_Wa_stepWithTerm 244 = .ok (.bipush 6, 2) := by decide +kernel
theorem d_Wa_stepWithTerm_246 : decode b_Wa_stepWithTerm 246 = .ok (.invokevirtual 159, 3) := by decide +kernel
theorem d_Wa_stepWithTerm_249 : decode b_Wa_stepWithTerm 249 = .ok (.goto 8, 3) := by decide +kernel
theorem d_Wa_stepWithTerm_252 : decode b_Wa_stepWithTerm 252 = .ok (.aload_n 0, 1) := by decide +kernel
theorem d_Wa_stepWithTerm_253 : decode b_Wa_stepWithTerm 253 = .ok (.iconst 4, 1) := by decide +kernel
theorem d_Wa_stepWithTerm_254 : decode b_Wa_stepWithTerm 254 = .ok (.putfield 46, 3) := by decide +kernel
theorem d_Wa_stepWithTerm_257 : decode b_Wa_stepWithTerm 257 = .ok (.return_, 1) := by decide +kernel
theorem d_Ro_newest_0 : decode b_Ro_newest 0 = .ok (.aload_n 0, 1) := by decide +kernel
theorem d_Ro_newest_1 : decode b_Ro_newest 1 = .ok (.getfield 25, 3) := by decide +kernel
theorem d_Ro_newest_4 : decode b_Ro_newest 4 = .ok (.iconst 1, 1) := by decide +kernel
theorem d_Ro_newest_5 : decode b_Ro_newest 5 = .ok (.isub, 1) := by decide +kernel
theorem d_Ro_newest_6 : decode b_Ro_newest 6 = .ok (.ireturn, 1) := by decide +kernel
theorem d_Th_finish_0 : decode b_Th_finish 0 = .ok (.aload_n 0, 1) := by decide +kernel
theorem d_Th_finish_1 : decode b_Th_finish 1 = .ok (.iload_n 1, 1) := by decide +kernel
theorem d_Th_finish_2 : decode b_Th_finish 2 = .ok (.invokevirtual 59, 3) := by decide +kernel
theorem d_Th_finish_5 : decode b_Th_finish 5 = .ok (.ifCond .eq 54, 3) := by decide +kernel
theorem d_Th_finish_8 : decode b_Th_finish 8 = .ok (.aload_n 2, 1) := by decide +kernel
theorem d_Th_finish_9 : decode b_Th_finish 9 = .ok (.ifnull 50, 3) := by decide +kernel
theorem d_Th_finish_12 : decode b_Th_finish 12 = .ok (.aload_n 0, 1) := by decide +kernel
theorem d_Th_finish_13 : decode b_Th_finish 13 = .ok (.getfield 9, 3) := by decide +kernel
theorem d_Th_finish_16 : decode b_Th_finish 16 = .ok (.iload_n 1, 1) := by decide +kernel
theorem d_Th_finish_17 : decode b_Th_finish 17 = .ok (.iconst 2, 1) := by decide +kernel
theorem d_Th_finish_18 : decode b_Th_finish 18 = .ok (.iastore, 1) := by decide +kernel
theorem d_Th_finish_19 : decode b_Th_finish 19 = .ok (.aload_n 0, 1) := by decide +kernel
theorem d_Th_finish_20 : decode b_Th_finish 20 = .ok (.getfield 27, 3) := by decide +kernel
theorem d_Th_finish_23 : decode b_Th_finish 23 = .ok (.iload_n 1, 1) := by decide +kernel
theorem d_Th_finish_24 : decode b_Th_finish 24 = .ok (.aload_n 2, 1) := by decide +kernel
theorem d_Th_finish_25 : decode b_Th_finish 25 = .ok (.getfield 63, 3) := by decide +kernel
theorem d_Th_finish_28 : decode b_Th_finish 28 = .ok (.iastore, 1) := by decide +kernel
theorem d_Th_finish_29 : decode b_Th_finish 29 = .ok (.aload_n 0, 1) := by decide +kernel
theorem d_Th_finish_30 : decode b_Th_finish 30 = .ok (.getfield 30, 3) := by decide +kernel
theorem d_Th_finish_33 : decode b_Th_finish 33 = .ok (.iload_n 1, 1) := by decide +kernel
theorem d_Th_finish_34 : decode b_Th_finish 34 = .ok (.aload_n 2, 1) := by decide +kernel
theorem d_Th_finish_35 : decode b_Th_finish 35 = .ok (.getfield 68, 3) := by decide +kernel
theorem d_Th_finish_38 : decode b_Th_finish 38 = .ok (.lastore, 1) := by decide +kernel
theorem d_Th_finish_39 : decode b_Th_finish 39 = .ok (.aload_n 0, 1) := by decide +kernel
theorem d_Th_finish_40 : decode b_Th_finish 40 = .ok (.getfield 34, 3) := by decide +kernel
theorem d_Th_finish_43 : decode b_Th_finish 43 = .ok (.iload_n 1, 1) := by decide +kernel
theorem d_Th_finish_44 : decode b_Th_finish 44 = .ok (.aload_n 2, 1) := by decide +kernel
theorem d_Th_finish_45 : decode b_Th_finish 45 = .ok (.getfield 72, 3) := by decide +kernel
theorem d_Th_finish_48 : decode b_Th_finish 48 = .ok (.iastore, 1) := by decide +kernel
theorem d_Th_finish_49 : decode b_Th_finish 49 = .ok (.aload_n 0, 1) := by decide +kernel
theorem d_Th_finish_50 : decode b_Th_finish 50 = .ok (.getfield 37, 3) := by decide +kernel
theorem d_Th_finish_53 : decode b_Th_finish 53 = .ok (.iload_n 1, 1) := by decide +kernel
theorem d_Th_finish_54 : decode b_Th_finish 54 = .ok (.aload_n 2, 1) := by decide +kernel
theorem d_Th_finish_55 : decode b_Th_finish 55 = .ok (.getfield 75, 3) := by decide +kernel
theorem d_Th_finish_58 : decode b_Th_finish 58 = .ok (.iastore, 1) := by decide +kernel
theorem d_Th_finish_59 : decode b_Th_finish 59 = .ok (.return_, 1) := by decide +kernel
theorem d_Wa_giveThing_0 : decode b_Wa_giveThing 0 = .ok (.aload_n 0, 1) := by decide +kernel
theorem d_Wa_giveThing_1 : decode b_Wa_giveThing 1 = .ok (.getfield 42, 3) := by decide +kernel
theorem d_Wa_giveThing_4 : decode b_Wa_giveThing 4 = .ok (.getfield 248, 3) := by decide +kernel
theorem d_Wa_giveThing_7 : decode b_Wa_giveThing 7 = .ok (.iconst 1, 1) := by decide +kernel
theorem d_Wa_giveThing_8 : decode b_Wa_giveThing 8 = .ok (.if_icmp .eq 9, 3) := by decide +kernel
theorem d_Wa_giveThing_11 : decode b_Wa_giveThing 11 = .ok (.aload_n 0, 1) := by decide +kernel
theorem d_Wa_giveThing_12 : decode b_Wa_giveThing 12 = .ok (.iconst 4, 1) := by decide +kernel
theorem d_Wa_giveThing_13 : decode b_Wa_giveThing 13 = .ok (.putfield 46, 3) := by decide +kernel
theorem d_Wa_giveThing_16 : decode b_Wa_giveThing 16 = .ok (.return_, 1) := by decide +kernel
theorem d_Wa_giveThing_17 : decode b_Wa_giveThing 17 = .ok (.aload_n 0, 1) := by decide +kernel
theorem d_Wa_giveThing_18 : decode b_Wa_giveThing 18 = .ok (.getfield 21, 3) := by decide +kernel
theorem d_Wa_giveThing_21 : decode b_Wa_giveThing 21 = .ok (.invokevirtual 185, 3) := by decide +kernel
theorem d_Wa_giveThing_24 : decode b_Wa_giveThing 24 = .ok (.ifCond .eq 9, 3) := by decide +kernel
theorem d_Wa_giveThing_27 : decode b_Wa_giveThing 27 = .ok (.aload_n 0, 1) := by decide +kernel
theorem d_Wa_giveThing_28 : decode b_Wa_giveThing 28 = .ok (.iconst 5, 1) := by decide +kernel
theorem d_Wa_giveThing_29 : decode b_Wa_giveThing 29 = .ok (.putfield 46, 3) := by decide +kernel
theorem d_Wa_giveThing_32 : decode b_Wa_giveThing 32 = .ok (.return_, 1) := by decide +kernel
theorem d_Wa_giveThing_33 : decode b_Wa_giveThing 33 = .ok (.aload_n 0, 1) := by decide +kernel
theorem d_Wa_giveThing_34 : decode b_Wa_giveThing 34 = .ok (.getfield 35, 3) := by decide +kernel
theorem d_Wa_giveThing_37 : decode b_Wa_giveThing 37 = .ok (.invokevirtual 190, 3) := by decide +kernel
theorem d_Wa_giveThing_40 : decode b_Wa_giveThing 40 = .ok (.aload_n 0, 1) := by decide +kernel
theorem d_Wa_giveThing_41 : decode b_Wa_giveThing 41 = .ok (.aload_n 0, 1) := by decide +kernel
theorem d_Wa_giveThing_42 : decode b_Wa_giveThing 42 = .ok (.getfield 12, 3) := by decide +kernel
theorem d_Wa_giveThing_45 : decode b_Wa_giveThing 45 = .ok (.aload_n 0, 1) := by decide +kernel
theorem d_Wa_giveThing_46 : decode b_Wa_giveThing 46 = .ok (.getfield 42, 3) := by decide +kernel
theorem d_Wa_giveThing_49 : decode b_Wa_giveThing 49 = .ok (.getfield 239, 3) := by decide +kernel
theorem d_Wa_giveThing_52 : decode b_Wa_giveThing 52 = .ok (.invokevirtual 141, 3) := by decide +kernel
theorem d_Wa_giveThing_55 : decode b_Wa_giveThing 55 = .ok (.aload_n 0, 1) := by decide +kernel
theorem d_Wa_giveThing_56 : decode b_Wa_giveThing 56 = .ok (.getfield 21, 3) := by decide +kernel
theorem d_Wa_giveThing_59 : decode b_Wa_giveThing 59 = .ok (.iload_n 1, 1) := by decide +kernel
theorem d_Wa_giveThing_60 : decode b_Wa_giveThing 60 = .ok (.aload_n 0, 1) := by decide +kernel
theorem d_Wa_giveThing_61 : decode b_Wa_giveThing 61 = .ok (.getfield 42, 3) := by decide +kernel
theorem d_Wa_giveThing_64 : decode b_Wa_giveThing 64 = .ok (.getfield 245, 3) := by decide +kernel
theorem d_Wa_giveThing_67 : decode b_Wa_giveThing 67 = .ok (.invokevirtual 186, 3) := by decide +kernel
theorem d_Wa_giveThing_70 : decode b_Wa_giveThing 70 = .ok (.invokevirtual 93, 3) := by decide +kernel
theorem d_Wa_giveThing_73 : decode b_Wa_giveThing 73 = .ok (.return_, 1) := by decide +kernel
theorem d_Wa_thenSecond_0 : decode b_Wa_thenSecond 0 = .ok (.aload_n 0, 1) := by decide +kernel
theorem d_Wa_thenSecond_1 : decode b_Wa_thenSecond 1 = .ok (.getfield 42, 3) := by decide +kernel
theorem d_Wa_thenSecond_4 : decode b_Wa_thenSecond 4 = .ok (.getfield 248, 3) := by decide +kernel
theorem d_Wa_thenSecond_7 : decode b_Wa_thenSecond 7 = .ok (.ifCond .eq 9, 3) := by decide +kernel
theorem d_Wa_thenSecond_10 : decode b_Wa_thenSecond 10 = .ok (.aload_n 0, 1) := by decide +kernel
theorem d_Wa_thenSecond_11 : decode b_Wa_thenSecond 11 = .ok (.iconst 4, 1) := by decide +kernel
theorem d_Wa_thenSecond_12 : decode b_Wa_thenSecond 12 = .ok (.putfield 46, 3) := by decide +kernel
theorem d_Wa_thenSecond_15 : decode b_Wa_thenSecond 15 = .ok (.return_, 1) := by decide +kernel
theorem d_Wa_thenSecond_16 : decode b_Wa_thenSecond 16 = .ok (.aload_n 0, 1) := by decide +kernel
theorem d_Wa_thenSecond_17 : decode b_Wa_thenSecond 17 = .ok (.getfield 35, 3) := by decide +kernel
theorem d_Wa_thenSecond_20 : decode b_Wa_thenSecond 20 = .ok (.invokevirtual 190, 3) := by decide +kernel
theorem d_Wa_thenSecond_23 : decode b_Wa_thenSecond 23 = .ok (.aload_n 0, 1) := by decide +kernel
theorem d_Wa_thenSecond_24 : decode b_Wa_thenSecond 24 = .ok (.getfield 35, 3) := by decide +kernel
theorem d_Wa_thenSecond_27 : decode b_Wa_thenSecond 27 = .ok (.iconst 3, 1) := by decide +kernel
theorem d_Wa_thenSecond_28 : decode b_Wa_thenSecond 28 = .ok (.iload_n 1, 1) := by decide +kernel
theorem d_Wa_thenSecond_29 : decode b_Wa_thenSecond 29 = .ok (.iconst (-1), 1) := by decide +kernel
theorem d_Wa_thenSecond_30 : decode b_Wa_thenSecond 30 = .ok (.aload_n 0, 1) := by decide +kernel
theorem d_Wa_thenSecond_31 : decode b_Wa_thenSecond 31 = .ok (.getfield 42, 3) := by decide +kernel
theorem d_Wa_thenSecond_34 : decode b_Wa_thenSecond 34 = .ok (.getfield 251, 3) := by decide +kernel
theorem d_Wa_thenSecond_37 : decode b_Wa_thenSecond 37 = .ok (.invokevirtual 182, 3) := by decide +kernel
theorem d_Wa_thenSecond_40 : decode b_Wa_thenSecond 40 = .ok (.aload_n 0, 1) := by decide +kernel
theorem d_Wa_thenSecond_41 : decode b_Wa_thenSecond 41 = .ok (.aload_n 0, 1) := by decide +kernel
theorem d_Wa_thenSecond_42 : decode b_Wa_thenSecond 42 = .ok (.getfield 12, 3) := by decide +kernel
theorem d_Wa_thenSecond_45 : decode b_Wa_thenSecond 45 = .ok (.iload_n 1, 1) := by decide +kernel
theorem d_Wa_thenSecond_46 : decode b_Wa_thenSecond 46 = .ok (.invokevirtual 146, 3) := by decide +kernel
theorem d_Wa_thenSecond_49 : decode b_Wa_thenSecond 49 = .ok (.iload_n 2, 1) := by decide +kernel
theorem d_Wa_thenSecond_50 : decode b_Wa_thenSecond 50 = .ok (.invokevirtual 93, 3) := by decide +kernel
theorem d_Wa_thenSecond_53 : decode b_Wa_thenSecond 53 = .ok (.return_, 1) := by decide +kernel
theorem d_Te_thirdOf_0 : decode b_Te_thirdOf 0 = .ok (.aload_n 0, 1) := by decide +kernel
theorem d_Te_thirdOf_1 : decode b_Te_thirdOf 1 = .ok (.iload_n 1, 1) := by decide +kernel
theorem d_Te_thirdOf_2 : decode b_Te_thirdOf 2 = .ok (.invokevirtual 52, 3) := by decide +kernel
theorem d_Te_thirdOf_5 : decode b_Te_thirdOf 5 = .ok (.ifCond .eq 12, 3) := by decide +kernel
theorem d_Te_thirdOf_8 : decode b_Te_thirdOf 8 = .ok (.aload_n 0, 1) := by decide +kernel
theorem d_Te_thirdOf_9 : decode b_Te_thirdOf 9 = .ok (.getfield 21, 3) := by decide +kernel
theorem d_Te_thirdOf_12 : decode b_Te_thirdOf 12 = .ok (.iload_n 1, 1) := by decide +kernel
theorem d_Te_thirdOf_13 : decode b_Te_thirdOf 13 = .ok (.iaload, 1) := by decide +kernel
theorem d_Te_thirdOf_14 : decode b_Te_thirdOf 14 = .ok (.goto 4, 3) := by decide +kernel
theorem d_Te_thirdOf_17 : decode b_Te_thirdOf 17 = .ok (.iconst (-1), 1) := by decide +kernel
theorem d_Te_thirdOf_18 : decode b_Te_thirdOf 18 = .ok (.ireturn, 1) := by decide +kernel
theorem d_Ro_numberOf_0 : decode b_Ro_numberOf 0 = .ok (.aload_n 0, 1) := by decide +kernel
theorem d_Ro_numberOf_1 : decode b_Ro_numberOf 1 = .ok (.iload_n 1, 1) := by decide +kernel
theorem d_Ro_numberOf_2 : decode b_Ro_numberOf 2 = .ok (.invokevirtual 32, 3) := by decide +kernel
theorem d_Ro_numberOf_5 : decode b_Ro_numberOf 5 = .ok (.ifCond .eq 12, 3) := by decide +kernel
theorem d_Ro_numberOf_8 : decode b_Ro_numberOf 8 = .ok (.aload_n 0, 1) := by decide +kernel
theorem d_Ro_numberOf_9 : decode b_Ro_numberOf 9 = .ok (.getfield 21, 3) := by decide +kernel
theorem d_Ro_numberOf_12 : decode b_Ro_numberOf 12 = .ok (.iload_n 1, 1) := by decide +kernel
theorem d_Ro_numberOf_13 : decode b_Ro_numberOf 13 = .ok (.laload, 1) := by decide +kernel
theorem d_Ro_numberOf_14 : decode b_Ro_numberOf 14 = .ok (.goto 4, 3) := by decide +kernel
theorem d_Ro_numberOf_17 : decode b_Ro_numberOf 17 = .ok (.lconst 0, 1) := by decide +kernel
theorem d_Ro_numberOf_18 : decode b_Ro_numberOf 18 = .ok (.lreturn, 1) := by decide +kernel
theorem d_Wa_resultOf_0 : decode b_Wa_resultOf 0 = .ok (.iload_n 0, 1) := by decide +kernel
theorem d_Wa_resultOf_1 : decode b_Wa_resultOf 1 = .ok (.tableswitch 73 0 4 #[35, 39, 43, 47, 61], 35) := by decide +kernel
theorem d_Wa_resultOf_36 : decode b_Wa_resultOf 36 = .ok (.lload_n 1, 1) := by decide +kernel
theorem d_Wa_resultOf_37 : decode b_Wa_resultOf 37 = .ok (.lload_n 3, 1) := by decide +kernel
theorem d_Wa_resultOf_38 : decode b_Wa_resultOf 38 = .ok (.ladd, 1) := by decide +kernel
theorem d_Wa_resultOf_39 : decode b_Wa_resultOf 39 = .ok (.lreturn, 1) := by decide +kernel
theorem d_Wa_resultOf_40 : decode b_Wa_resultOf 40 = .ok (.lload_n 1, 1) := by decide +kernel
theorem d_Wa_resultOf_41 : decode b_Wa_resultOf 41 = .ok (.lload_n 3, 1) := by decide +kernel
theorem d_Wa_resultOf_42 : decode b_Wa_resultOf 42 = .ok (.lsub, 1) := by decide +kernel
theorem d_Wa_resultOf_43 : decode b_Wa_resultOf 43 = .ok (.lreturn, 1) := by decide +kernel
theorem d_Wa_resultOf_44 : decode b_Wa_resultOf 44 = .ok (.lload_n 1, 1) := by decide +kernel
theorem d_Wa_resultOf_45 : decode b_Wa_resultOf 45 = .ok (.lload_n 3, 1) := by decide +kernel
theorem d_Wa_resultOf_46 : decode b_Wa_resultOf 46 = .ok (.lmul, 1) := by decide +kernel
theorem d_Wa_resultOf_47 : decode b_Wa_resultOf 47 = .ok (.lreturn, 1) := by decide +kernel
theorem d_Wa_resultOf_48 : decode b_Wa_resultOf 48 = .ok (.lload_n 3, 1) := by decide +kernel
theorem d_Wa_resultOf_49 : decode b_Wa_resultOf 49 = .ok (.lconst 0, 1) := by decide +kernel
theorem d_Wa_resultOf_50 : decode b_Wa_resultOf 50 = .ok (.lcmp, 1) := by decide +kernel
theorem d_Wa_resultOf_51 : decode b_Wa_resultOf 51 = .ok (.ifCond .ne 7, 3) := by decide +kernel
theorem d_Wa_resultOf_54 : decode b_Wa_resultOf 54 = .ok (.lconst 0, 1) := by decide +kernel
theorem d_Wa_resultOf_55 : decode b_Wa_resultOf 55 = .ok (.goto 6, 3) := by decide +kernel
theorem d_Wa_resultOf_58 : decode b_Wa_resultOf 58 = .ok (.lload_n 1, 1) := by decide +kernel
theorem d_Wa_resultOf_59 : decode b_Wa_resultOf 59 = .ok (.lload_n 3, 1) := by decide +kernel
theorem d_Wa_resultOf_60 : decode b_Wa_resultOf 60 = .ok (.ldiv, 1) := by decide +kernel
theorem d_Wa_resultOf_61 : decode b_Wa_resultOf 61 = .ok (.lreturn, 1) := by decide +kernel
theorem d_Wa_resultOf_62 : decode b_Wa_resultOf 62 = .ok (.lload_n 1, 1) := by decide +kernel
theorem d_Wa_resultOf_63 : decode b_Wa_resultOf 63 = .ok (.lload_n 3, 1) := by decide +kernel
theorem d_Wa_resultOf_64 : decode b_Wa_resultOf 64 = .ok (.lcmp, 1) := by decide +kernel
theorem d_Wa_resultOf_65 : decode b_Wa_resultOf 65 = .ok (.ifCond .ne 7, 3) := by decide +kernel
theorem d_Wa_resultOf_68 : decode b_Wa_resultOf 68 = .ok (.lconst 1, 1) := by decide +kernel
theorem d_Wa_resultOf_69 : decode b_Wa_resultOf 69 = .ok (.goto 4, 3) := by decide +kernel
theorem d_Wa_resultOf_72 : decode b_Wa_resultOf 72 = .ok (.lconst 0, 1) := by decide +kernel
theorem d_Wa_resultOf_73 : decode b_Wa_resultOf 73 = .ok (.lreturn, 1) := by decide +kernel
theorem d_Wa_resultOf_74 : decode b_Wa_resultOf 74 = .ok (.lload_n 1, 1) := by decide +kernel
theorem d_Wa_resultOf_75 : decode b_Wa_resultOf 75 = .ok (.lload_n 3, 1) := by decide +kernel
theorem d_Wa_resultOf_76 : decode b_Wa_resultOf 76 = .ok (.lcmp, 1) := by decide +kernel
theorem d_Wa_resultOf_77 : decode b_Wa_resultOf 77 = .ok (.ifCond .ge 7, 3) := by decide +kernel
theorem d_Wa_resultOf_80 : decode b_Wa_resultOf 80 = .ok (.lconst 1, 1) := by decide +kernel
theorem d_Wa_resultOf_81 : decode b_Wa_resultOf 81 = .ok (.goto 4, 3) := by decide +kernel
theorem d_Wa_resultOf_84 : decode b_Wa_resultOf 84 = .ok (.lconst 0, 1) := by decide +kernel
theorem d_Wa_resultOf_85 : decode b_Wa_resultOf 85 = .ok (.lreturn, 1) := by decide +kernel
theorem d_Wa_actWith_0 : decode b_Wa_actWith 0 = .ok (.aload_n 0, 1) := by decide +kernel
theorem d_Wa_actWith_1 : decode b_Wa_actWith 1 = .ok (.getfield 42, 3) := by decide +kernel
theorem d_Wa_actWith_4 : decode b_Wa_actWith 4 = .ok (.getfield 248, 3) := by decide +kernel
theorem d_Wa_actWith_7 : decode b_Wa_actWith 7 = .ok (.ifCond .ne 20, 3) := by decide +kernel
theorem d_Wa_actWith_10 : decode b_Wa_actWith 10 = .ok (.iload_n 1, 1) := by decide +kernel
theorem d_Wa_actWith_11 : decode b_Wa_actWith 11 = .ok (.iconst 3, 1) := by decide +kernel
theorem d_Wa_actWith_12 : decode b_Wa_actWith 12 = .ok (.if_icmp .ne 21, 3) := by decide +kernel
theorem d_Wa_actWith_15 : decode b_Wa_actWith 15 = .ok (.aload_n 0, 1) := by decide +kernel
theorem d_Wa_actWith_16 : decode b_Wa_actWith 16 = .ok (.getfield 42, 3) := by decide +kernel
theorem d_Wa_actWith_19 : decode b_Wa_actWith 19 = .ok (.getfield 251, 3) := by decide +kernel
theorem d_Wa_actWith_22 : decode b_Wa_actWith 22 = .ok (.lconst 0, 1) := by decide +kernel
theorem d_Wa_actWith_23 : decode b_Wa_actWith 23 = .ok (.lcmp, 1) := by decide +kernel
theorem d_Wa_actWith_24 : decode b_Wa_actWith 24 = .ok (.ifCond .ne 9, 3) := by decide +kernel
theorem d_Wa_actWith_27 : decode b_Wa_actWith 27 = .ok (.aload_n 0, 1) := by decide +kernel
theorem d_Wa_actWith_28 : decode b_Wa_actWith 28 = .ok (.iconst 4, 1) := by decide +kernel
theorem d_Wa_actWith_29 : decode b_Wa_actWith 29 = .ok (.putfield 46, 3) := by decide +kernel
theorem d_Wa_actWith_32 : decode b_Wa_actWith 32 = .ok (.return_, 1) := by decide +kernel
theorem d_Wa_actWith_33 : decode b_Wa_actWith 33 = .ok (.aload_n 0, 1) := by decide +kernel
theorem d_Wa_actWith_34 : decode b_Wa_actWith 34 = .ok (.getfield 35, 3) := by decide +kernel
theorem d_Wa_actWith_37 : decode b_Wa_actWith 37 = .ok (.invokevirtual 190, 3) := by decide +kernel
theorem d_Wa_actWith_40 : decode b_Wa_actWith 40 = .ok (.aload_n 0, 1) := by decide +kernel
theorem d_Wa_actWith_41 : decode b_Wa_actWith 41 = .ok (.getfield 42, 3) := by decide +kernel
theorem d_Wa_actWith_44 : decode b_Wa_actWith 44 = .ok (.iload_n 1, 1) := by decide +kernel
theorem d_Wa_actWith_45 : decode b_Wa_actWith 45 = .ok (.lload_n 2, 1) := by decide +kernel
theorem d_Wa_actWith_46 : decode b_Wa_actWith 46 = .ok (.aload_n 0, 1) := by decide +kernel
theorem d_Wa_actWith_47 : decode b_Wa_actWith 47 = .ok (.getfield 42, 3) := by decide +kernel
theorem d_Wa_actWith_50 : decode b_Wa_actWith 50 = .ok (.getfield 251, 3) := by decide +kernel
theorem d_Wa_actWith_53 : decode b_Wa_actWith 53 = .ok (.invokestatic 255, 3) := by decide +kernel
theorem d_Wa_actWith_56 : decode b_Wa_actWith 56 = .ok (.invokevirtual 89, 3) := by decide +kernel
theorem d_Wa_actWith_59 : decode b_Wa_actWith 59 = .ok (.return_, 1) := by decide +kernel
theorem d_Wa_chooseBranch_0 : decode b_Wa_chooseBranch 0 = .ok (.aload_n 0, 1) := by decide +kernel
theorem d_Wa_chooseBranch_1 : decode b_Wa_chooseBranch 1 = .ok (.getfield 42, 3) := by decide +kernel
theorem d_Wa_chooseBranch_4 : decode b_Wa_chooseBranch 4 = .ok (.getfield 248, 3) := by decide +kernel
theorem d_Wa_chooseBranch_7 : decode b_Wa_chooseBranch 7 = .ok (.ifCond .eq 9, 3) := by decide +kernel
theorem d_Wa_chooseBranch_10 : decode b_Wa_chooseBranch 10 = .ok (.aload_n 0, 1) := by decide +kernel
theorem d_Wa_chooseBranch_11 : decode b_Wa_chooseBranch 11 = .ok (.iconst 4, 1) := by decide +kernel
theorem d_Wa_chooseBranch_12 : decode b_Wa_chooseBranch 12 = .ok (.putfield 46, 3) := by decide +kernel
theorem d_Wa_chooseBranch_15 : decode b_Wa_chooseBranch 15 = .ok (.return_, 1) := by decide +kernel
theorem d_Wa_chooseBranch_16 : decode b_Wa_chooseBranch 16 = .ok (.aload_n 0, 1) := by decide +kernel
theorem d_Wa_chooseBranch_17 : decode b_Wa_chooseBranch 17 = .ok (.getfield 35, 3) := by decide +kernel
theorem d_Wa_chooseBranch_20 : decode b_Wa_chooseBranch 20 = .ok (.invokevirtual 190, 3) := by decide +kernel
theorem d_Wa_chooseBranch_23 : decode b_Wa_chooseBranch 23 = .ok (.aload_n 0, 1) := by decide +kernel
theorem d_Wa_chooseBranch_24 : decode b_Wa_chooseBranch 24 = .ok (.getfield 42, 3) := by decide +kernel
theorem d_Wa_chooseBranch_27 : decode b_Wa_chooseBranch 27 = .ok (.getfield 251, 3) := by decide +kernel
theorem d_Wa_chooseBranch_30 : decode b_Wa_chooseBranch 30 = .ok (.lconst 0, 1) := by decide +kernel
theorem d_Wa_chooseBranch_31 : decode b_Wa_chooseBranch 31 = .ok (.lcmp, 1) := by decide +kernel
theorem d_Wa_chooseBranch_32 : decode b_Wa_chooseBranch 32 = .ok (.ifCond .ne 14, 3) := by decide +kernel
theorem d_Wa_chooseBranch_35 : decode b_Wa_chooseBranch 35 = .ok (.aload_n 0, 1) := by decide +kernel
theorem d_Wa_chooseBranch_36 : decode b_Wa_chooseBranch 36 = .ok (.getfield 12, 3) := by decide +kernel
theorem d_Wa_chooseBranch_39 : decode b_Wa_chooseBranch 39 = .ok (.iload_n 1, 1) := by decide +kernel
theorem d_Wa_chooseBranch_40 : decode b_Wa_chooseBranch 40 = .ok (.invokevirtual 228, 3) := by decide +kernel
theorem d_Wa_chooseBranch_43 : decode b_Wa_chooseBranch 43 = .ok (.goto 11, 3) := by decide +kernel
theorem d_Wa_chooseBranch_46 : decode b_Wa_chooseBranch 46 = .ok (.aload_n 0, 1) := by decide +kernel
theorem d_Wa_chooseBranch_47 : decode b_Wa_chooseBranch 47 = .ok (.getfield 12, 3) := by decide +kernel
theorem d_Wa_chooseBranch_50 : decode b_Wa_chooseBranch 50 = .ok (.iload_n 1, 1) := by decide +kernel
theorem d_Wa_chooseBranch_51 : decode b_Wa_chooseBranch 51 = .ok (.invokevirtual 146, 3) := by decide +kernel
theorem d_Wa_chooseBranch_54 : decode b_Wa_chooseBranch 54 = .ok (.istore_n 3, 1) := by decide +kernel
theorem d_Wa_chooseBranch_55 : decode b_Wa_chooseBranch 55 = .ok (.aload_n 0, 1) := by decide +kernel
theorem d_Wa_chooseBranch_56 : decode b_Wa_chooseBranch 56 = .ok (.iload_n 3, 1) := by decide +kernel
theorem d_Wa_chooseBranch_57 : decode b_Wa_chooseBranch 57 = .ok (.iload_n 2, 1) := by decide +kernel
theorem d_Wa_chooseBranch_58 : decode b_Wa_chooseBranch 58 = .ok (.invokevirtual 93, 3) := by decide +kernel
theorem d_Wa_chooseBranch_61 : decode b_Wa_chooseBranch 61 = .ok (.return_, 1) := by decide +kernel
theorem d_Wa_takeOfPair_0 : decode b_Wa_takeOfPair 0 = .ok (.aload_n 0, 1) := by decide +kernel
theorem d_Wa_takeOfPair_1 : decode b_Wa_takeOfPair 1 = .ok (.getfield 42, 3) := by decide +kernel
theorem d_Wa_takeOfPair_4 : decode b_Wa_takeOfPair 4 = .ok (.getfield 248, 3) := by decide +kernel
theorem d_Wa_takeOfPair_7 : decode b_Wa_takeOfPair 7 = .ok (.iconst 2, 1) := by decide +kernel
theorem d_Wa_takeOfPair_8 : decode b_Wa_takeOfPair 8 = .ok (.if_icmp .eq 9, 3) := by decide +kernel
theorem d_Wa_takeOfPair_11 : decode b_Wa_takeOfPair 11 = .ok (.aload_n 0, 1) := by decide +kernel
theorem d_Wa_takeOfPair_12 : decode b_Wa_takeOfPair 12 = .ok (.iconst 4, 1) := by decide +kernel
theorem d_Wa_takeOfPair_13 : decode b_Wa_takeOfPair 13 = .ok (.putfield 46, 3) := by decide +kernel
theorem d_Wa_takeOfPair_16 : decode b_Wa_takeOfPair 16 = .ok (.return_, 1) := by decide +kernel
theorem d_Wa_takeOfPair_17 : decode b_Wa_takeOfPair 17 = .ok (.aload_n 0, 1) := by decide +kernel
theorem d_Wa_takeOfPair_18 : decode b_Wa_takeOfPair 18 = .ok (.iload_n 1, 1) := by decide +kernel
theorem d_Wa_takeOfPair_19 : decode b_Wa_takeOfPair 19 = .ok (.iconst 1, 1) := by decide +kernel
theorem d_Wa_takeOfPair_20 : decode b_Wa_takeOfPair 20 = .ok (.invokevirtual 107, 3) := by decide +kernel
theorem d_Wa_takeOfPair_23 : decode b_Wa_takeOfPair 23 = .ok (.return_, 1) := by decide +kernel
theorem d_Wa_stepWithValue_0 : decode b_Wa_stepWithValue 0 = .ok (.aload_n 0, 1) := by decide +kernel
theorem d_Wa_stepWithValue_1 : decode b_Wa_stepWithValue 1 = .ok (.getfield 35, 3) := by decide +kernel
theorem d_Wa_stepWithValue_4 : decode b_Wa_stepWithValue 4 = .ok (.invokevirtual 215, 3) := by decide +kernel
theorem d_Wa_stepWithValue_7 : decode b_Wa_stepWithValue 7 = .ok (.istore_n 1, 1) := by decide +kernel
theorem d_Wa_stepWithValue_8 : decode b_Wa_stepWithValue 8 = .ok (.aload_n 0, 1) := by decide +kernel
theorem d_Wa_stepWithValue_9 : decode b_Wa_stepWithValue 9 = .ok (.getfield 35, 3) := by decide +kernel
theorem d_Wa_stepWithValue_12 : decode b_Wa_stepWithValue 12 = .ok (.iload_n 1, 1) := by decide +kernel
theorem d_Wa_stepWithValue_13 : decode b_Wa_stepWithValue 13 = .ok (.invokevirtual 124, 3) := by decide +kernel
theorem d_Wa_stepWithValue_16 : decode b_Wa_stepWithValue 16 = .ok (.tableswitch 192 0 6 #[44, 73, 88, 111, 141, 164, 178], 44) := by decide +kernel
theorem d_Wa_stepWithValue_60 : decode b_Wa_stepWithValue 60 = .ok (.aload_n 0, 1) := by decide +kernel
theorem d_Wa_stepWithValue_61 : decode b_Wa_stepWithValue 61 = .ok (.getfield 28, 3) := by decide +kernel
theorem d_Wa_stepWithValue_64 : decode b_Wa_stepWithValue 64 = .ok (.aload_n 0, 1) := by decide +kernel
theorem d_Wa_stepWithValue_65 : decode b_Wa_stepWithValue 65 = .ok (.getfield 35, 3) := by decide +kernel
theorem d_Wa_stepWithValue_68 : decode b_Wa_stepWithValue 68 = .ok (.iload_n 1, 1) := by decide +kernel
theorem d_Wa_stepWithValue_69 : decode b_Wa_stepWithValue 69 = .ok (.invokevirtual 128, 3) := by decide +kernel
theorem d_Wa_stepWithValue_72 : decode b_Wa_stepWithValue 72 = .ok (.aload_n 0, 1) := by decide +kernel
theorem d_Wa_stepWithValue_73 : decode b_Wa_stepWithValue 73 = .ok (.getfield 42, 3) := by decide +kernel
theorem d_Wa_stepWithValue_76 : decode b_Wa_stepWithValue 76 = .ok (.invokevirtual 218, 3) := by decide +kernel
theorem d_Wa_stepWithValue_79 : decode b_Wa_stepWithValue 79 = .ok (.aload_n 0, 1) := by decide +kernel
theorem d_Wa_stepWithValue_80 : decode b_Wa_stepWithValue 80 = .ok (.getfield 35, 3) := by decide +kernel
theorem d_Wa_stepWithValue_83 : decode b_Wa_stepWithValue 83 = .ok (.invokevirtual 190, 3) := by decide +kernel
theorem d_Wa_stepWithValue_86 : decode b_Wa_stepWithValue 86 = .ok (.goto 127, 3) := by decide +kernel
theorem d_Wa_stepWithValue_89 : decode b_Wa_stepWithValue 89 = .ok (.aload_n 0, 1) := by decide +kernel
theorem d_Wa_stepWithValue_90 : decode b_Wa_stepWithValue 90 = .ok (.aload_n 0, 1) := by decide +kernel
theorem d_Wa_stepWithValue_91 : decode b_Wa_stepWithValue 91 = .ok (.getfield 35, 3) := by decide +kernel
theorem d_Wa_stepWithValue_94 : decode b_Wa_stepWithValue 94 = .ok (.iload_n 1, 1) := by decide +kernel
theorem d_Wa_stepWithValue_95 : decode b_Wa_stepWithValue 95 = .ok (.invokevirtual 128, 3) := by decide +kernel
theorem d_Wa_stepWithValue_98 : decode b_Wa_stepWithValue 98 = .ok (.invokevirtual 221, 3) := by decide +kernel
theorem d_Wa_stepWithValue_101 : decode b_Wa_stepWithValue 101 = .ok (.goto 112, 3) := by decide +kernel
theorem d_Wa_stepWithValue_104 : decode b_Wa_stepWithValue 104 = .ok (.aload_n 0, 1) := by decide +kernel
theorem d_Wa_stepWithValue_105 : decode b_Wa_stepWithValue 105 = .ok (.aload_n 0, 1) := by decide +kernel
theorem d_Wa_stepWithValue_106 : decode b_Wa_stepWithValue 106 = .ok (.getfield 35, 3) := by decide +kernel
theorem d_Wa_stepWithValue_109 : decode b_Wa_stepWithValue 109 = .ok (.iload_n 1, 1) := by decide +kernel
theorem d_Wa_stepWithValue_110 : decode b_Wa_stepWithValue 110 = .ok (.invokevirtual 128, 3) := by decide +kernel
theorem d_Wa_stepWithValue_113 : decode b_Wa_stepWithValue 113 = .ok (.aload_n 0, 1) := by decide +kernel
theorem d_Wa_stepWithValue_114 : decode b_Wa_stepWithValue 114 = .ok (.getfield 35, 3) := by decide +kernel
theorem d_Wa_stepWithValue_117 : decode b_Wa_stepWithValue 117 = .ok (.iload_n 1, 1) := by decide +kernel
theorem d_Wa_stepWithValue_118 : decode b_Wa_stepWithValue 118 = .ok (.invokevirtual 224, 3) := by decide +kernel
theorem d_Wa_stepWithValue_121 : decode b_Wa_stepWithValue 121 = .ok (.invokevirtual 225, 3) := by decide +kernel
theorem d_Wa_stepWithValue_124 : decode b_Wa_stepWithValue 124 = .ok (.goto 89, 3) := by decide +kernel
theorem d_Wa_stepWithValue_127 : decode b_Wa_stepWithValue 127 = .ok (.aload_n 0, 1) := by decide +kernel
theorem d_Wa_stepWithValue_128 : decode b_Wa_stepWithValue 128 = .ok (.aload_n 0, 1) := by decide +kernel
theorem d_Wa_stepWithValue_129 : decode b_Wa_stepWithValue 129 = .ok (.getfield 12, 3) := by decide +kernel
theorem d_Wa_stepWithValue_132 : decode b_Wa_stepWithValue 132 = .ok (.aload_n 0, 1) := by decide +kernel
theorem d_Wa_stepWithValue_133 : decode b_Wa_stepWithValue 133 = .ok (.getfield 35, 3) := by decide +kernel
theorem d_Wa_stepWithValue_136 : decode b_Wa_stepWithValue 136 = .ok (.iload_n 1, 1) := by decide +kernel
theorem d_Wa_stepWithValue_137 : decode b_Wa_stepWithValue 137 = .ok (.invokevirtual 128, 3) := by decide +kernel
theorem d_Wa_stepWithValue_140 : decode b_Wa_stepWithValue 140 = .ok (.invokevirtual 228, 3) := by decide +kernel
theorem d_Wa_stepWithValue_143 : decode b_Wa_stepWithValue 143 = .ok (.aload_n 0, 1) := by decide +kernel
theorem d_Wa_stepWithValue_144 : decode b_Wa_stepWithValue 144 = .ok (.getfield 35, 3) := by decide +kernel
theorem d_Wa_stepWithValue_147 : decode b_Wa_stepWithValue 147 = .ok (.iload_n 1, 1) := by decide +kernel
theorem d_Wa_stepWithValue_148 : decode b_Wa_stepWithValue 148 = .ok (.invokevirtual 231, 3) := by decide +kernel
theorem d_Wa_stepWithValue_151 : decode b_Wa_stepWithValue 151 = .ok (.invokevirtual 232, 3) := by decide +kernel
theorem d_Wa_stepWithValue_154 : decode b_Wa_stepWithValue 154 = .ok (.goto 59, 3) := by decide +kernel
theorem d_Wa_stepWithValue_157 : decode b_Wa_stepWithValue 157 = .ok (.aload_n 0, 1) := by decide +kernel
theorem d_Wa_stepWithValue_158 : decode b_Wa_stepWithValue 158 = .ok (.aload_n 0, 1) := by decide +kernel
theorem d_Wa_stepWithValue_159 : decode b_Wa_stepWithValue 159 = .ok (.getfield 35, 3) := by decide +kernel
theorem d_Wa_stepWithValue_162 : decode b_Wa_stepWithValue 162 = .ok (.iload_n 1, 1) := by decide +kernel
theorem d_Wa_stepWithValue_163 : decode b_Wa_stepWithValue 163 = .ok (.invokevirtual 128, 3) := by decide +kernel
theorem d_Wa_stepWithValue_166 : decode b_Wa_stepWithValue 166 = .ok (.aload_n 0, 1) := by decide +kernel
theorem d_Wa_stepWithValue_167 : decode b_Wa_stepWithValue 167 = .ok (.getfield 35, 3) := by decide +kernel
theorem d_Wa_stepWithValue_170 : decode b_Wa_stepWithValue 170 = .ok (.iload_n 1, 1) := by decide +kernel
theorem d_Wa_stepWithValue_171 : decode b_Wa_stepWithValue 171 = .ok (.invokevirtual 224, 3) := by decide +kernel
theorem d_Wa_stepWithValue_174 : decode b_Wa_stepWithValue 174 = .ok (.invokevirtual 236, 3) := by decide +kernel
theorem d_Wa_stepWithValue_177 : decode b_Wa_stepWithValue 177 = .ok (.goto 36, 3) := by decide +kernel
theorem d_Wa_stepWithValue_180 : decode b_Wa_stepWithValue 180 = .ok (.aload_n 0, 1) := by decide +kernel
theorem d_Wa_stepWithValue_181 : decode b_Wa_stepWithValue 181 = .ok (.aload_n 0, 1) := by decide +kernel
theorem d_Wa_stepWithValue_182 : decode b_Wa_stepWithValue 182 = .ok (.getfield 42, 3) := by decide +kernel
theorem d_Wa_stepWithValue_185 : decode b_Wa_stepWithValue 185 = .ok (.getfield 239, 3) := by decide +kernel
theorem d_Wa_stepWithValue_188 : decode b_Wa_stepWithValue 188 = .ok (.invokevirtual 242, 3) := by decide +kernel
theorem d_Wa_stepWithValue_191 : decode b_Wa_stepWithValue 191 = .ok (.goto 22, 3) := by decide +kernel
theorem d_Wa_stepWithValue_194 : decode b_Wa_stepWithValue 194 = .ok (.aload_n 0, 1) := by decide +kernel
theorem d_Wa_stepWithValue_195 : decode b_Wa_stepWithValue 195 = .ok (.aload_n 0, 1) := by decide +kernel
theorem d_Wa_stepWithValue_196 : decode b_Wa_stepWithValue 196 = .ok (.getfield 42, 3) := by decide +kernel
theorem d_Wa_stepWithValue_199 : decode b_Wa_stepWithValue 199 = .ok (.getfield 245, 3) := by decide +kernel
theorem d_Wa_stepWithValue_202 : decode b_Wa_stepWithValue 202 = .ok (.invokevirtual 242, 3) := by decide +kernel
theorem d_Wa_stepWithValue_205 : decode b_Wa_stepWithValue 205 = .ok (.goto 8, 3) := by decide +kernel
theorem d_Wa_stepWithValue_208 : decode b_Wa_stepWithValue 208 = .ok (.aload_n 0, 1) := by decide +kernel
theorem d_Wa_stepWithValue_209 : decode b_Wa_stepWithValue 209 = .ok (.iconst 4, 1) := by decide +kernel
theorem d_Wa_stepWithValue_210 : decode b_Wa_stepWithValue 210 = .ok (.putfield 46, 3) := by decide +kernel
theorem d_Wa_stepWithValue_213 : decode b_Wa_stepWithValue 213 = .ok (.return_, 1) := by decide +kernel
theorem d_Wa_step_0 : decode b_Wa_step 0 = .ok (.aload_n 0, 1) := by decide +kernel
theorem d_Wa_step_1 : decode b_Wa_step 1 = .ok (.getfield 78, 3) := by decide +kernel
theorem d_Wa_step_4 : decode b_Wa_step 4 = .ok (.ifCond .le 20, 3) := by decide +kernel
theorem d_Wa_step_7 : decode b_Wa_step 7 = .ok (.aload_n 0, 1) := by decide +kernel
theorem d_Wa_step_8 : decode b_Wa_step 8 = .ok (.getfield 66, 3) := by decide +kernel
theorem d_Wa_step_11 : decode b_Wa_step 11 = .ok (.aload_n 0, 1) := by decide +kernel
theorem d_Wa_step_12 : decode b_Wa_step 12 = .ok (.getfield 78, 3) := by decide +kernel
theorem d_Wa_step_15 : decode b_Wa_step 15 = .ok (.irem, 1) := by decide +kernel
theorem d_Wa_step_16 : decode b_Wa_step 16 = .ok (.ifCond .ne 8, 3) := by decide +kernel
theorem d_Wa_step_19 : decode b_Wa_step 19 = .ok (.aload_n 0, 1) := by decide +kernel
theorem d_Wa_step_20 : decode b_Wa_step 20 = .ok (.invokevirtual 97, 3) := by decide +kernel
theorem d_Wa_step_23 : decode b_Wa_step 23 = .ok (.pop, 1) := by decide +kernel
theorem d_Wa_step_24 : decode b_Wa_step 24 = .ok (.aload_n 0, 1) := by decide +kernel
theorem d_Wa_step_25 : decode b_Wa_step 25 = .ok (.dup, 1) := by decide +kernel
theorem d_Wa_step_26 : decode b_Wa_step 26 = .ok (.getfield 66, 3) := by decide +kernel
theorem d_Wa_step_29 : decode b_Wa_step 29 = .ok (.iconst 1, 1) := by decide +kernel
theorem d_Wa_step_30 : decode b_Wa_step 30 = .ok (.iadd, 1) := by decide +kernel
theorem d_Wa_step_31 : decode b_Wa_step 31 = .ok (.putfield 66, 3) := by decide +kernel
theorem d_Wa_step_34 : decode b_Wa_step 34 = .ok (.aload_n 0, 1) := by decide +kernel
theorem d_Wa_step_35 : decode b_Wa_step 35 = .ok (.getfield 54, 3) := by decide +kernel
theorem d_Wa_step_38 : decode b_Wa_step 38 = .ok (.ifCond .ne 10, 3) := by decide +kernel
theorem d_Wa_step_41 : decode b_Wa_step 41 = .ok (.aload_n 0, 1) := by decide +kernel
theorem d_Wa_step_42 : decode b_Wa_step 42 = .ok (.invokevirtual 101, 3) := by decide +kernel
theorem d_Wa_step_45 : decode b_Wa_step 45 = .ok (.goto 27, 3) := by decide +kernel
theorem d_Wa_step_48 : decode b_Wa_step 48 = .ok (.aload_n 0, 1) := by decide +kernel
theorem d_Wa_step_49 : decode b_Wa_step 49 = .ok (.getfield 54, 3) := by decide +kernel
theorem d_Wa_step_52 : decode b_Wa_step 52 = .ok (.iconst 1, 1) := by decide +kernel
theorem d_Wa_step_53 : decode b_Wa_step 53 = .ok (.if_icmp .ne 10, 3) := by decide +kernel
theorem d_Wa_step_56 : decode b_Wa_step 56 = .ok (.aload_n 0, 1) := by decide +kernel
theorem d_Wa_step_57 : decode b_Wa_step 57 = .ok (.invokevirtual 104, 3) := by decide +kernel
theorem d_Wa_step_60 : decode b_Wa_step 60 = .ok (.goto 12, 3) := by decide +kernel
theorem d_Wa_step_63 : decode b_Wa_step 63 = .ok (.aload_n 0, 1) := by decide +kernel
theorem d_Wa_step_64 : decode b_Wa_step 64 = .ok (.aload_n 0, 1) := by decide +kernel
theorem d_Wa_step_65 : decode b_Wa_step 65 = .ok (.getfield 63, 3) := by decide +kernel
theorem d_Wa_step_68 : decode b_Wa_step 68 = .ok (.iconst 0, 1) := by decide +kernel
theorem d_Wa_step_69 : decode b_Wa_step 69 = .ok (.invokevirtual 107, 3) := by decide +kernel
theorem d_Wa_step_72 : decode b_Wa_step 72 = .ok (.aload_n 0, 1) := by decide +kernel
theorem d_Wa_step_73 : decode b_Wa_step 73 = .ok (.getfield 46, 3) := by decide +kernel
theorem d_Wa_step_76 : decode b_Wa_step 76 = .ok (.iconst 1, 1) := by decide +kernel
theorem d_Wa_step_77 : decode b_Wa_step 77 = .ok (.if_icmp .ne 26, 3) := by decide +kernel
theorem d_Wa_step_80 : decode b_Wa_step 80 = .ok (.aload_n 0, 1) := by decide +kernel
theorem d_Wa_step_81 : decode b_Wa_step 81 = .ok (.getfield 54, 3) := by decide +kernel
theorem d_Wa_step_84 : decode b_Wa_step 84 = .ok (.iconst 1, 1) := by decide +kernel
theorem d_Wa_step_85 : decode b_Wa_step 85 = .ok (.if_icmp .ne 18, 3) := by decide +kernel
theorem d_Wa_step_88 : decode b_Wa_step 88 = .ok (.aload_n 0, 1) := by decide +kernel
theorem d_Wa_step_89 : decode b_Wa_step 89 = .ok (.getfield 35, 3) := by decide +kernel
theorem d_Wa_step_92 : decode b_Wa_step 92 = .ok (.getfield 111, 3) := by decide +kernel
theorem d_Wa_step_95 : decode b_Wa_step 95 = .ok (.ifCond .ne 8, 3) := by decide +kernel
theorem d_Wa_step_98 : decode b_Wa_step 98 = .ok (.aload_n 0, 1) := by decide +kernel
theorem d_Wa_step_99 : decode b_Wa_step 99 = .ok (.iconst 2, 1) := by decide +kernel
theorem d_Wa_step_100 : decode b_Wa_step 100 = .ok (.putfield 46, 3) := by decide +kernel
theorem d_Wa_step_103 : decode b_Wa_step 103 = .ok (.return_, 1) := by decide +kernel
theorem d_Wa_tally_0 : decode b_Wa_tally 0 = .ok (.iload_n 1, 1) := by decide +kernel
theorem d_Wa_tally_1 : decode b_Wa_tally 1 = .ok (.tableswitch 90 0 6 #[43, 48, 56, 64, 72, 80, 85], 43) := by decide +kernel
theorem d_Wa_tally_44 : decode b_Wa_tally 44 = .ok (.aload_n 0, 1) := by decide +kernel
theorem d_Wa_tally_45 : decode b_Wa_tally 45 = .ok (.getfield 66, 3) := by decide +kernel
theorem d_Wa_tally_48 : decode b_Wa_tally 48 = .ok (.ireturn, 1) := by decide +kernel
theorem d_Wa_tally_49 : decode b_Wa_tally 49 = .ok (.aload_n 0, 1) := by decide +kernel
theorem d_Wa_tally_50 : decode b_Wa_tally 50 = .ok (.getfield 28, 3) := by decide +kernel
theorem d_Wa_tally_53 : decode b_Wa_tally 53 = .ok (.getfield 114, 3) := by decide +kernel
theorem d_Wa_tally_56 : decode b_Wa_tally 56 = .ok (.ireturn, 1) := by decide +kernel
theorem d_Wa_tally_57 : decode b_Wa_tally 57 = .ok (.aload_n 0, 1) := by decide +kernel
theorem d_Wa_tally_58 : decode b_Wa_tally 58 = .ok (.getfield 28, 3) := by decide +kernel
theorem d_Wa_tally_61 : decode b_Wa_tally 61 = .ok (.getfield 117, 3) := by decide +kernel
theorem d_Wa_tally_64 : decode b_Wa_tally 64 = .ok (.ireturn, 1) := by decide +kernel
theorem d_Wa_tally_65 : decode b_Wa_tally 65 = .ok (.aload_n 0, 1) := by decide +kernel
theorem d_Wa_tally_66 : decode b_Wa_tally 66 = .ok (.getfield 35, 3) := by decide +kernel
theorem d_Wa_tally_69 : decode b_Wa_tally 69 = .ok (.getfield 111, 3) := by decide +kernel
theorem d_Wa_tally_72 : decode b_Wa_tally 72 = .ok (.ireturn, 1) := by decide +kernel
theorem d_Wa_tally_73 : decode b_Wa_tally 73 = .ok (.aload_n 0, 1) := by decide +kernel
theorem d_Wa_tally_74 : decode b_Wa_tally 74 = .ok (.getfield 35, 3) := by decide +kernel
theorem d_Wa_tally_77 : decode b_Wa_tally 77 = .ok (.getfield 120, 3) := by decide +kernel
theorem d_Wa_tally_80 : decode b_Wa_tally 80 = .ok (.ireturn, 1) := by decide +kernel
theorem d_Wa_tally_81 : decode b_Wa_tally 81 = .ok (.aload_n 0, 1) := by decide +kernel
theorem d_Wa_tally_82 : decode b_Wa_tally 82 = .ok (.getfield 69, 3) := by decide +kernel
theorem d_Wa_tally_85 : decode b_Wa_tally 85 = .ok (.ireturn, 1) := by decide +kernel
theorem d_Wa_tally_86 : decode b_Wa_tally 86 = .ok (.aload_n 0, 1) := by decide +kernel
theorem d_Wa_tally_87 : decode b_Wa_tally 87 = .ok (.getfield 72, 3) := by decide +kernel
theorem d_Wa_tally_90 : decode b_Wa_tally 90 = .ok (.ireturn, 1) := by decide +kernel
theorem d_Wa_tally_91 : decode b_Wa_tally 91 = .ok (.aload_n 0, 1) := by decide +kernel
theorem d_Wa_tally_92 : decode b_Wa_tally 92 = .ok (.getfield 21, 3) := by decide +kernel
theorem d_Wa_tally_95 : decode b_Wa_tally 95 = .ok (.getfield 123, 3) := by decide +kernel
theorem d_Wa_tally_98 : decode b_Wa_tally 98 = .ok (.ireturn, 1) := by decide +kernel
theorem d_Wa_ringThing_0 : decode b_Wa_ringThing 0 = .ok (.aload_n 0, 1) := by decide +kernel
theorem d_Wa_ringThing_1 : decode b_Wa_ringThing 1 = .ok (.getfield 46, 3) := by decide +kernel
theorem d_Wa_ringThing_4 : decode b_Wa_ringThing 4 = .ok (.iconst 3, 1) := by decide +kernel
theorem d_Wa_ringThing_5 : decode b_Wa_ringThing 5 = .ok (.if_icmp .ne 7, 3) := by decide +kernel
theorem d_Wa_ringThing_8 : decode b_Wa_ringThing 8 = .ok (.iload_n 1, 1) := by decide +kernel
theorem d_Wa_ringThing_9 : decode b_Wa_ringThing 9 = .ok (.ifCond .ge 5, 3) := by decide +kernel
theorem d_Wa_ringThing_12 : decode b_Wa_ringThing 12 = .ok (.iconst (-1), 1) := by decide +kernel
theorem d_Wa_ringThing_13 : decode b_Wa_ringThing 13 = .ok (.ireturn, 1) := by decide +kernel
theorem d_Wa_ringThing_14 : decode b_Wa_ringThing 14 = .ok (.iconst (-1), 1) := by decide +kernel
theorem d_Wa_ringThing_15 : decode b_Wa_ringThing 15 = .ok (.istore_n 2, 1) := by decide +kernel
theorem d_Wa_ringThing_16 : decode b_Wa_ringThing 16 = .ok (.iconst 0, 1) := by decide +kernel
theorem d_Wa_ringThing_17 : decode b_Wa_ringThing 17 = .ok (.istore_n 3, 1) := by decide +kernel
theorem d_Wa_ringThing_18 : decode b_Wa_ringThing 18 = .ok (.iload_n 3, 1) := by decide +kernel
theorem d_Wa_ringThing_19 : decode b_Wa_ringThing 19 = .ok (.aload_n 0, 1) := by decide +kernel
theorem d_Wa_ringThing_20 : decode b_Wa_ringThing 20 = .ok (.getfield 35, 3) := by decide +kernel
theorem d_Wa_ringThing_23 : decode b_Wa_ringThing 23 = .ok (.getfield 111, 3) := by decide +kernel
theorem d_Wa_ringThing_26 : decode b_Wa_ringThing 26 = .ok (.if_icmp .ge 55, 3) := by decide +kernel
theorem d_Wa_ringThing_29 : decode b_Wa_ringThing 29 = .ok (.aload_n 0, 1) := by decide +kernel
theorem d_Wa_ringThing_30 : decode b_Wa_ringThing 30 = .ok (.getfield 35, 3) := by decide +kernel
theorem d_Wa_ringThing_33 : decode b_Wa_ringThing 33 = .ok (.iload_n 3, 1) := by decide +kernel
theorem d_Wa_ringThing_34 : decode b_Wa_ringThing 34 = .ok (.invokevirtual 124, 3) := by decide +kernel
theorem d_Wa_ringThing_37 : decode b_Wa_ringThing 37 = .ok (.ifCond .ne 38, 3) := by decide +kernel
theorem d_Wa_ringThing_40 : decode b_Wa_ringThing 40 = .ok (.aload_n 0, 1) := by decide +kernel
theorem d_Wa_ringThing_41 : decode b_Wa_ringThing 41 = .ok (.getfield 35, 3) := by decide +kernel
theorem d_Wa_ringThing_44 : decode b_Wa_ringThing 44 = .ok (.iload_n 3, 1) := by decide +kernel
theorem d_Wa_ringThing_45 : decode b_Wa_ringThing 45 = .ok (.invokevirtual 128, 3) := by decide +kernel
theorem d_Wa_ringThing_48 : decode b_Wa_ringThing 48 = .ok (.istore 4, 2) := by decide +kernel
theorem d_Wa_ringThing_50 : decode b_Wa_ringThing 50 = .ok (.iload_n 2, 1) := by decide +kernel
theorem d_Wa_ringThing_51 : decode b_Wa_ringThing 51 = .ok (.iconst (-1), 1) := by decide +kernel
theorem d_Wa_ringThing_52 : decode b_Wa_ringThing 52 = .ok (.if_icmp .ne 12, 3) := by decide +kernel
theorem d_Wa_ringThing_55 : decode b_Wa_ringThing 55 = .ok (.iload 4, 2) := by decide +kernel
theorem d_Wa_ringThing_57 : decode b_Wa_ringThing 57 = .ok (.aload_n 0, 1) := by decide +kernel
theorem d_Wa_ringThing_58 : decode b_Wa_ringThing 58 = .ok (.getfield 75, 3) := by decide +kernel
theorem d_Wa_ringThing_61 : decode b_Wa_ringThing 61 = .ok (.if_icmp .ne 6, 3) := by decide +kernel
theorem d_Wa_ringThing_64 : decode b_Wa_ringThing 64 = .ok (.iinc 2 1, 3) := by decide +kernel
theorem d_Wa_ringThing_67 : decode b_Wa_ringThing 67 = .ok (.iload_n 2, 1) := by decide +kernel
theorem d_Wa_ringThing_68 : decode b_Wa_ringThing 68 = .ok (.iload_n 1, 1) := by decide +kernel
theorem d_Wa_ringThing_69 : decode b_Wa_ringThing 69 = .ok (.if_icmp .ne 6, 3) := by decide +kernel
theorem d_Wa_ringThing_72 : decode b_Wa_ringThing 72 = .ok (.iload 4, 2) := by decide +kernel
theorem d_Wa_ringThing_74 : decode b_Wa_ringThing 74 = .ok (.ireturn, 1) := by decide +kernel
theorem d_Wa_ringThing_75 : decode b_Wa_ringThing 75 = .ok (.iinc 3 1, 3) := by decide +kernel
theorem d_Wa_ringThing_78 : decode b_Wa_ringThing 78 = .ok (.goto (-60), 3) := by decide +kernel
theorem d_Wa_ringThing_81 : decode b_Wa_ringThing 81 = .ok (.iconst (-1), 1) := by decide +kernel
theorem d_Wa_ringThing_82 : decode b_Wa_ringThing 82 = .ok (.ireturn, 1) := by decide +kernel
theorem d_Te_isFull_0 : decode b_Te_isFull 0 = .ok (.aload_n 0, 1) := by decide +kernel
theorem d_Te_isFull_1 : decode b_Te_isFull 1 = .ok (.getfield 31, 3) := by decide +kernel
theorem d_Te_isFull_4 : decode b_Te_isFull 4 = .ok (.sipush 200, 3) := by decide +kernel
theorem d_Te_isFull_7 : decode b_Te_isFull 7 = .ok (.if_icmp .lt 7, 3) := by decide +kernel
theorem d_Te_isFull_10 : decode b_Te_isFull 10 = .ok (.iconst 1, 1) := by decide +kernel
theorem d_Te_isFull_11 : decode b_Te_isFull 11 = .ok (.goto 4, 3) := by decide +kernel
theorem d_Te_isFull_14 : decode b_Te_isFull 14 = .ok (.iconst 0, 1) := by decide +kernel
theorem d_Te_isFull_15 : decode b_Te_isFull 15 = .ok (.ireturn, 1) := by decide +kernel
theorem d_Te_add_0 : decode b_Te_add 0 = .ok (.aload_n 0, 1) := by decide +kernel
theorem d_Te_add_1 : decode b_Te_add 1 = .ok (.getfield 31, 3) := by decide +kernel
theorem d_Te_add_4 : decode b_Te_add 4 = .ok (.istore 8, 2) := by decide +kernel
theorem d_Te_add_6 : decode b_Te_add 6 = .ok (.iload 8, 2) := by decide +kernel
theorem d_Te_add_8 : decode b_Te_add 8 = .ok (.ifCond .lt 11, 3) := by decide +kernel
theorem d_Te_add_11 : decode b_Te_add 11 = .ok (.iload 8, 2) := by decide +kernel
theorem d_Te_add_13 : decode b_Te_add 13 = .ok (.sipush 200, 3) := by decide +kernel
theorem d_Te_add_16 : decode b_Te_add 16 = .ok (.if_icmp .lt 5, 3) := by decide +kernel
theorem d_Te_add_19 : decode b_Te_add 19 = .ok (.iconst (-1), 1) := by decide +kernel
theorem d_Te_add_20 : decode b_Te_add 20 = .ok (.ireturn, 1) := by decide +kernel
theorem d_Te_add_21 : decode b_Te_add 21 = .ok (.aload_n 0, 1) := by decide +kernel
theorem d_Te_add_22 : decode b_Te_add 22 = .ok (.getfield 9, 3) := by decide +kernel
theorem d_Te_add_25 : decode b_Te_add 25 = .ok (.iload 8, 2) := by decide +kernel
theorem d_Te_add_27 : decode b_Te_add 27 = .ok (.iload_n 1, 1) := by decide +kernel
theorem d_Te_add_28 : decode b_Te_add 28 = .ok (.iastore, 1) := by decide +kernel
theorem d_Te_add_29 : decode b_Te_add 29 = .ok (.aload_n 0, 1) := by decide +kernel
theorem d_Te_add_30 : decode b_Te_add 30 = .ok (.getfield 15, 3) := by decide +kernel
theorem d_Te_add_33 : decode b_Te_add 33 = .ok (.iload 8, 2) := by decide +kernel
theorem d_Te_add_35 : decode b_Te_add 35 = .ok (.iload_n 2, 1) := by decide +kernel
theorem d_Te_add_36 : decode b_Te_add 36 = .ok (.iastore, 1) := by decide +kernel
theorem d_Te_add_37 : decode b_Te_add 37 = .ok (.aload_n 0, 1) := by decide +kernel
theorem d_Te_add_38 : decode b_Te_add 38 = .ok (.getfield 18, 3) := by decide +kernel
theorem d_Te_add_41 : decode b_Te_add 41 = .ok (.iload 8, 2) := by decide +kernel
theorem d_Te_add_43 : decode b_Te_add 43 = .ok (.iload_n 3, 1) := by decide +kernel
theorem d_Te_add_44 : decode b_Te_add 44 = .ok (.iastore, 1) := by decide +kernel
theorem d_Te_add_45 : decode b_Te_add 45 = .ok (.aload_n 0, 1) := by decide +kernel
theorem d_Te_add_46 : decode b_Te_add 46 = .ok (.getfield 21, 3) := by decide +kernel
theorem d_Te_add_49 : decode b_Te_add 49 = .ok (.iload 8, 2) := by decide +kernel
theorem d_Te_add_51 : decode b_Te_add 51 = .ok (.iload 4, 2) := by decide +kernel
theorem d_Te_add_53 : decode b_Te_add 53 = .ok (.iastore, 1) := by decide +kernel
theorem d_Te_add_54 : decode b_Te_add 54 = .ok (.aload_n 0, 1) := by decide +kernel
theorem d_Te_add_55 : decode b_Te_add 55 = .ok (.getfield 24, 3) := by decide +kernel
theorem d_Te_add_58 : decode b_Te_add 58 = .ok (.iload 8, 2) := by decide +kernel
theorem d_Te_add_60 : decode b_Te_add 60 = .ok (.lload 5, 2) := by decide +kernel
theorem d_Te_add_62 : decode b_Te_add 62 = .ok (.lastore, 1) := by decide +kernel
theorem d_Te_add_63 : decode b_Te_add 63 = .ok (.aload_n 0, 1) := by decide +kernel
theorem d_Te_add_64 : decode b_Te_add 64 = .ok (.getfield 28, 3) := by decide +kernel
theorem d_Te_add_67 : decode b_Te_add 67 = .ok (.iload 8, 2) := by decide +kernel
theorem d_Te_add_69 : decode b_Te_add 69 = .ok (.iload 7, 2) := by decide +kernel
theorem d_Te_add_71 : decode b_Te_add 71 = .ok (.iastore, 1) := by decide +kernel
theorem d_Te_add_72 : decode b_Te_add 72 = .ok (.aload_n 0, 1) := by decide +kernel
theorem d_Te_add_73 : decode b_Te_add 73 = .ok (.iload 8, 2) := by decide +kernel
theorem d_Te_add_75 : decode b_Te_add 75 = .ok (.iconst 1, 1) := by decide +kernel
theorem d_Te_add_76 : decode b_Te_add 76 = .ok (.iadd, 1) := by decide +kernel
theorem d_Te_add_77 : decode b_Te_add 77 = .ok (.putfield 31, 3) := by decide +kernel
theorem d_Te_add_80 : decode b_Te_add 80 = .ok (.iload 8, 2) := by decide +kernel
theorem d_Te_add_82 : decode b_Te_add 82 = .ok (.ireturn, 1) := by decide +kernel
theorem d_Te_addNumber_0 : decode b_Te_addNumber 0 = .ok (.aload_n 0, 1) := by decide +kernel
theorem d_Te_addNumber_1 : decode b_Te_addNumber 1 = .ok (.iconst 0, 1) := by decide +kernel
theorem d_Te_addNumber_2 : decode b_Te_addNumber 2 = .ok (.iconst (-1), 1) := by decide +kernel
theorem d_Te_addNumber_3 : decode b_Te_addNumber 3 = .ok (.iconst (-1), 1) := by decide +kernel
theorem d_Te_addNumber_4 : decode b_Te_addNumber 4 = .ok (.iconst (-1), 1) := by decide +kernel
theorem d_Te_addNumber_5 : decode b_Te_addNumber 5 = .ok (.lload_n 1, 1) := by decide +kernel
theorem d_Te_addNumber_6 : decode b_Te_addNumber 6 = .ok (.iconst 0, 1) := by decide +kernel
theorem d_Te_addNumber_7 : decode b_Te_addNumber 7 = .ok (.invokevirtual 35, 3) := by decide +kernel
theorem d_Te_addNumber_10 : decode b_Te_addNumber 10 = .ok (.ireturn, 1) := by decide +kernel
theorem d_Te_addVariable_0 : decode b_Te_addVariable 0 = .ok (.aload_n 0, 1) := by decide +kernel
theorem d_Te_addVariable_1 : decode b_Te_addVariable 1 = .ok (.iconst 1, 1) := by decide +kernel
theorem d_Te_addVariable_2 : decode b_Te_addVariable 2 = .ok (.iload_n 1, 1) := by decide +kernel
theorem d_Te_addVariable_3 : decode b_Te_addVariable 3 = .ok (.iconst (-1), 1) := by decide +kernel
theorem d_Te_addVariable_4 : decode b_Te_addVariable 4 = .ok (.iconst (-1), 1) := by decide +kernel
theorem d_Te_addVariable_5 : decode b_Te_addVariable 5 = .ok (.lconst 0, 1) := by decide +kernel
theorem d_Te_addVariable_6 : decode b_Te_addVariable 6 = .ok (.iload_n 1, 1) := by decide +kernel
theorem d_Te_addVariable_7 : decode b_Te_addVariable 7 = .ok (.iconst 1, 1) := by decide +kernel
theorem d_Te_addVariable_8 : decode b_Te_addVariable 8 = .ok (.iadd, 1) := by decide +kernel
theorem d_Te_addVariable_9 : decode b_Te_addVariable 9 = .ok (.invokevirtual 35, 3) := by decide +kernel
theorem d_Te_addVariable_12 : decode b_Te_addVariable 12 = .ok (.ireturn, 1) := by decide +kernel
theorem d_Te_lackOf_0 : decode b_Te_lackOf 0 = .ok (.aload_n 0, 1) := by decide +kernel
theorem d_Te_lackOf_1 : decode b_Te_lackOf 1 = .ok (.iload_n 1, 1) := by decide +kernel
theorem d_Te_lackOf_2 : decode b_Te_lackOf 2 = .ok (.invokevirtual 52, 3) := by decide +kernel
theorem d_Te_lackOf_5 : decode b_Te_lackOf 5 = .ok (.ifCond .eq 12, 3) := by decide +kernel
theorem d_Te_lackOf_8 : decode b_Te_lackOf 8 = .ok (.aload_n 0, 1) := by decide +kernel
theorem d_Te_lackOf_9 : decode b_Te_lackOf 9 = .ok (.getfield 28, 3) := by decide +kernel
theorem d_Te_lackOf_12 : decode b_Te_lackOf 12 = .ok (.iload_n 1, 1) := by decide +kernel
theorem d_Te_lackOf_13 : decode b_Te_lackOf 13 = .ok (.iaload, 1) := by decide +kernel
theorem d_Te_lackOf_14 : decode b_Te_lackOf 14 = .ok (.goto 4, 3) := by decide +kernel
theorem d_Te_lackOf_17 : decode b_Te_lackOf 17 = .ok (.iconst 0, 1) := by decide +kernel
theorem d_Te_lackOf_18 : decode b_Te_lackOf 18 = .ok (.ireturn, 1) := by decide +kernel
theorem d_Te_oneLess_0 : decode b_Te_oneLess 0 = .ok (.iload_n 0, 1) := by decide +kernel
theorem d_Te_oneLess_1 : decode b_Te_oneLess 1 = .ok (.iconst 1, 1) := by decide +kernel
theorem d_Te_oneLess_2 : decode b_Te_oneLess 2 = .ok (.isub, 1) := by decide +kernel
theorem d_Te_oneLess_3 : decode b_Te_oneLess 3 = .ok (.iconst 0, 1) := by decide +kernel
theorem d_Te_oneLess_4 : decode b_Te_oneLess 4 = .ok (.invokestatic 46, 3) := by decide +kernel
theorem d_Te_oneLess_7 : decode b_Te_oneLess 7 = .ok (.ireturn, 1) := by decide +kernel
theorem d_Te_addOne_0 : decode b_Te_addOne 0 = .ok (.iload_n 1, 1) := by decide +kernel
theorem d_Te_addOne_1 : decode b_Te_addOne 1 = .ok (.ifCond .ne 21, 3) := by decide +kernel
theorem d_Te_addOne_4 : decode b_Te_addOne 4 = .ok (.aload_n 0, 1) := by decide +kernel
theorem d_Te_addOne_5 : decode b_Te_addOne 5 = .ok (.iconst 2, 1) := by decide +kernel
theorem d_Te_addOne_6 : decode b_Te_addOne 6 = .ok (.iload_n 2, 1) := by decide +kernel
theorem d_Te_addOne_7 : decode b_Te_addOne 7 = .ok (.iconst (-1), 1) := by decide +kernel
theorem d_Te_addOne_8 : decode b_Te_addOne 8 = .ok (.iconst (-1), 1) := by decide +kernel
theorem d_Te_addOne_9 : decode b_Te_addOne 9 = .ok (.lconst 0, 1) := by decide +kernel
theorem d_Te_addOne_10 : decode b_Te_addOne 10 = .ok (.aload_n 0, 1) := by decide +kernel
theorem d_Te_addOne_11 : decode b_Te_addOne 11 = .ok (.iload_n 2, 1) := by decide +kernel
theorem d_Te_addOne_12 : decode b_Te_addOne 12 = .ok (.invokevirtual 39, 3) := by decide +kernel
theorem d_Te_addOne_15 : decode b_Te_addOne 15 = .ok (.invokestatic 43, 3) := by decide +kernel
theorem d_Te_addOne_18 : decode b_Te_addOne 18 = .ok (.invokevirtual 35, 3) := by decide +kernel
theorem d_Te_addOne_21 : decode b_Te_addOne 21 = .ok (.ireturn, 1) := by decide +kernel
theorem d_Te_addOne_22 : decode b_Te_addOne 22 = .ok (.aload_n 0, 1) := by decide +kernel
theorem d_Te_addOne_23 : decode b_Te_addOne 23 = .ok (.iload_n 1, 1) := by decide +kernel
theorem d_Te_addOne_24 : decode b_Te_addOne 24 = .ok (.iconst 1, 1) := by decide +kernel
theorem d_Te_addOne_25 : decode b_Te_addOne 25 = .ok (.if_icmp .ne 7, 3) := by decide +kernel
theorem d_Te_addOne_28 : decode b_Te_addOne 28 = .ok (.iconst 3, 1) := by decide +kernel
theorem d_Te_addOne_29 : decode b_Te_addOne 29 = .ok (.goto 4, 3) := by decide +kernel
theorem d_Te_addOne_32 : decode b_Te_addOne 32 = .ok (.iconst 4, 1) := by decide +kernel
theorem d_Te_addOne_33 : decode b_Te_addOne 33 = .ok (.iload_n 2, 1) := by decide +kernel
theorem d_Te_addOne_34 : decode b_Te_addOne 34 = .ok (.iconst (-1), 1) := by decide +kernel
theorem d_Te_addOne_35 : decode b_Te_addOne 35 = .ok (.iconst (-1), 1) := by decide +kernel
theorem d_Te_addOne_36 : decode b_Te_addOne 36 = .ok (.lconst 0, 1) := by decide +kernel
theorem d_Te_addOne_37 : decode b_Te_addOne 37 = .ok (.aload_n 0, 1) := by decide +kernel
theorem d_Te_addOne_38 : decode b_Te_addOne 38 = .ok (.iload_n 2, 1) := by decide +kernel
theorem d_Te_addOne_39 : decode b_Te_addOne 39 = .ok (.invokevirtual 39, 3) := by decide +kernel
theorem d_Te_addOne_42 : decode b_Te_addOne 42 = .ok (.invokevirtual 35, 3) := by decide +kernel
theorem d_Te_addOne_45 : decode b_Te_addOne 45 = .ok (.ireturn, 1) := by decide +kernel
theorem d_Te_addTwo_0 : decode b_Te_addTwo 0 = .ok (.aload_n 0, 1) := by decide +kernel
theorem d_Te_addTwo_1 : decode b_Te_addTwo 1 = .ok (.iload_n 2, 1) := by decide +kernel
theorem d_Te_addTwo_2 : decode b_Te_addTwo 2 = .ok (.invokevirtual 39, 3) := by decide +kernel
theorem d_Te_addTwo_5 : decode b_Te_addTwo 5 = .ok (.aload_n 0, 1) := by decide +kernel
theorem d_Te_addTwo_6 : decode b_Te_addTwo 6 = .ok (.iload_n 3, 1) := by decide +kernel
theorem d_Te_addTwo_7 : decode b_Te_addTwo 7 = .ok (.invokevirtual 39, 3) := by decide +kernel
theorem d_Te_addTwo_10 : decode b_Te_addTwo 10 = .ok (.invokestatic 46, 3) := by decide +kernel
theorem d_Te_addTwo_13 : decode b_Te_addTwo 13 = .ok (.istore 4, 2) := by decide +kernel
theorem d_Te_addTwo_15 : decode b_Te_addTwo 15 = .ok (.iload_n 1, 1) := by decide +kernel
theorem d_Te_addTwo_16 : decode b_Te_addTwo 16 = .ok (.tableswitch 69 0 2 #[28, 40, 56], 28) := by decide +kernel
theorem d_Te_addTwo_44 : decode b_Te_addTwo 44 = .ok (.aload_n 0, 1) := by decide +kernel
theorem d_Te_addTwo_45 : decode b_Te_addTwo 45 = .ok (.iconst 5, 1) := by decide +kernel
theorem d_Te_addTwo_46 : decode b_Te_addTwo 46 = .ok (.iload_n 2, 1) := by decide +kernel
theorem d_Te_addTwo_47 : decode b_Te_addTwo 47 = .ok (.iload_n 3, 1) := by decide +kernel
theorem d_Te_addTwo_48 : decode b_Te_addTwo 48 = .ok (.iconst (-1), 1) := by decide +kernel
theorem d_Te_addTwo_49 : decode b_Te_addTwo 49 = .ok (.lconst 0, 1) := by decide +kernel
theorem d_Te_addTwo_50 : decode b_Te_addTwo 50 = .ok (.iload 4, 2) := by decide +kernel
theorem d_Te_addTwo_52 : decode b_Te_addTwo 52 = .ok (.invokevirtual 35, 3) := by decide +kernel
theorem d_Te_addTwo_55 : decode b_Te_addTwo 55 = .ok (.ireturn, 1) := by decide +kernel
theorem d_Te_addTwo_56 : decode b_Te_addTwo 56 = .ok (.aload_n 0, 1) := by decide +kernel
theorem d_Te_addTwo_57 : decode b_Te_addTwo 57 = .ok (.bipush 6, 2) := by decide +kernel
theorem d_Te_addTwo_59 : decode b_Te_addTwo 59 = .ok (.iload_n 2, 1) := by decide +kernel
theorem d_Te_addTwo_60 : decode b_Te_addTwo 60 = .ok (.iload_n 3, 1) := by decide +kernel
theorem d_Te_addTwo_61 : decode b_Te_addTwo 61 = .ok (.iconst (-1), 1) := by decide +kernel
theorem d_Te_addTwo_62 : decode b_Te_addTwo 62 = .ok (.lconst 0, 1) := by decide +kernel
theorem d_Te_addTwo_63 : decode b_Te_addTwo 63 = .ok (.iload 4, 2) := by decide +kernel
theorem d_Te_addTwo_65 : decode b_Te_addTwo 65 = .ok (.invokestatic 43, 3) := by decide +kernel
theorem d_Te_addTwo_68 : decode b_Te_addTwo 68 = .ok (.invokevirtual 35, 3) := by decide +kernel
theorem d_Te_addTwo_71 : decode b_Te_addTwo 71 = .ok (.ireturn, 1) := by decide +kernel
theorem d_Te_addTwo_72 : decode b_Te_addTwo 72 = .ok (.aload_n 0, 1) := by decide +kernel
theorem d_Te_addTwo_73 : decode b_Te_addTwo 73 = .ok (.bipush 7, 2) := by decide +kernel
theorem d_Te_addTwo_75 : decode b_Te_addTwo 75 = .ok (.iload_n 2, 1) := by decide +kernel
theorem d_Te_addTwo_76 : decode b_Te_addTwo 76 = .ok (.iload_n 3, 1) := by decide +kernel
theorem d_Te_addTwo_77 : decode b_Te_addTwo 77 = .ok (.iconst (-1), 1) := by decide +kernel
theorem d_Te_addTwo_78 : decode b_Te_addTwo 78 = .ok (.lconst 0, 1) := by decide +kernel
theorem d_Te_addTwo_79 : decode b_Te_addTwo 79 = .ok (.iload 4, 2) := by decide +kernel
theorem d_Te_addTwo_81 : decode b_Te_addTwo 81 = .ok (.invokevirtual 35, 3) := by decide +kernel
theorem d_Te_addTwo_84 : decode b_Te_addTwo 84 = .ok (.ireturn, 1) := by decide +kernel
theorem d_Te_addTwo_85 : decode b_Te_addTwo 85 = .ok (.aload_n 0, 1) := by decide +kernel
theorem d_Te_addTwo_86 : decode b_Te_addTwo 86 = .ok (.bipush 8, 2) := by decide +kernel
theorem d_Te_addTwo_88 : decode b_Te_addTwo 88 = .ok (.iload_n 2, 1) := by decide +kernel
theorem d_Te_addTwo_89 : decode b_Te_addTwo 89 = .ok (.iload_n 3, 1) := by decide +kernel
theorem d_Te_addTwo_90 : decode b_Te_addTwo 90 = .ok (.iload_n 1, 1) := by decide +kernel
theorem d_Te_addTwo_91 : decode b_Te_addTwo 91 = .ok (.iconst 3, 1) := by decide +kernel
theorem d_Te_addTwo_92 : decode b_Te_addTwo 92 = .ok (.isub, 1) := by decide +kernel
theorem d_Te_addTwo_93 : decode b_Te_addTwo 93 = .ok (.lconst 0, 1) := by decide +kernel
theorem d_Te_addTwo_94 : decode b_Te_addTwo 94 = .ok (.iload 4, 2) := by decide +kernel
theorem d_Te_addTwo_96 : decode b_Te_addTwo 96 = .ok (.invokevirtual 35, 3) := by decide +kernel
theorem d_Te_addTwo_99 : decode b_Te_addTwo 99 = .ok (.ireturn, 1) := by decide +kernel
theorem d_Te_addChoose_0 : decode b_Te_addChoose 0 = .ok (.aload_n 0, 1) := by decide +kernel
theorem d_Te_addChoose_1 : decode b_Te_addChoose 1 = .ok (.iload_n 1, 1) := by decide +kernel
theorem d_Te_addChoose_2 : decode b_Te_addChoose 2 = .ok (.invokevirtual 39, 3) := by decide +kernel
theorem d_Te_addChoose_5 : decode b_Te_addChoose 5 = .ok (.aload_n 0, 1) := by decide +kernel
theorem d_Te_addChoose_6 : decode b_Te_addChoose 6 = .ok (.iload_n 2, 1) := by decide +kernel
theorem d_Te_addChoose_7 : decode b_Te_addChoose 7 = .ok (.invokevirtual 39, 3) := by decide +kernel
theorem d_Te_addChoose_10 : decode b_Te_addChoose 10 = .ok (.aload_n 0, 1) := by decide +kernel
theorem d_Te_addChoose_11 : decode b_Te_addChoose 11 = .ok (.iload_n 3, 1) := by decide +kernel
theorem d_Te_addChoose_12 : decode b_Te_addChoose 12 = .ok (.invokevirtual 39, 3) := by decide +kernel
theorem d_Te_addChoose_15 : decode b_Te_addChoose 15 = .ok (.invokestatic 46, 3) := by decide +kernel
theorem d_Te_addChoose_18 : decode b_Te_addChoose 18 = .ok (.invokestatic 46, 3) := by decide +kernel
theorem d_Te_addChoose_21 : decode b_Te_addChoose 21 = .ok (.istore 4, 2) := by decide +kernel
theorem d_Te_addChoose_23 : decode b_Te_addChoose 23 = .ok (.aload_n 0, 1) := by decide +kernel
theorem d_Te_addChoose_24 : decode b_Te_addChoose 24 = .ok (.bipush 9, 2) := by decide +kernel
theorem d_Te_addChoose_26 : decode b_Te_addChoose 26 = .ok (.iload_n 1, 1) := by decide +kernel
theorem d_Te_addChoose_27 : decode b_Te_addChoose 27 = .ok (.iload_n 2, 1) := by decide +kernel
theorem d_Te_addChoose_28 : decode b_Te_addChoose 28 = .ok (.iload_n 3, 1) := by decide +kernel
theorem d_Te_addChoose_29 : decode b_Te_addChoose 29 = .ok (.lconst 0, 1) := by decide +kernel
theorem d_Te_addChoose_30 : decode b_Te_addChoose 30 = .ok (.iload 4, 2) := by decide +kernel
theorem d_Te_addChoose_32 : decode b_Te_addChoose 32 = .ok (.invokevirtual 35, 3) := by decide +kernel
theorem d_Te_addChoose_35 : decode b_Te_addChoose 35 = .ok (.ireturn, 1) := by decide +kernel
theorem d_Th_timesOf_0 : decode b_Th_timesOf 0 = .ok (.aload_n 0, 1) := by decide +kernel
theorem d_Th_timesOf_1 : decode b_Th_timesOf 1 = .ok (.iload_n 1, 1) := by decide +kernel
theorem d_Th_timesOf_2 : decode b_Th_timesOf 2 = .ok (.invokevirtual 59, 3) := by decide +kernel
theorem d_Th_timesOf_5 : decode b_Th_timesOf 5 = .ok (.ifCond .eq 12, 3) := by decide +kernel
theorem d_Th_timesOf_8 : decode b_Th_timesOf 8 = .ok (.aload_n 0, 1) := by decide +kernel
theorem d_Th_timesOf_9 : decode b_Th_timesOf 9 = .ok (.getfield 21, 3) := by decide +kernel
theorem d_Th_timesOf_12 : decode b_Th_timesOf 12 = .ok (.iload_n 1, 1) := by decide +kernel
theorem d_Th_timesOf_13 : decode b_Th_timesOf 13 = .ok (.iaload, 1) := by decide +kernel
theorem d_Th_timesOf_14 : decode b_Th_timesOf 14 = .ok (.goto 4, 3) := by decide +kernel
theorem d_Th_timesOf_17 : decode b_Th_timesOf 17 = .ok (.iconst 0, 1) := by decide +kernel
theorem d_Th_timesOf_18 : decode b_Th_timesOf 18 = .ok (.ireturn, 1) := by decide +kernel
theorem d_Th_neederOf_0 : decode b_Th_neederOf 0 = .ok (.aload_n 0, 1) := by decide +kernel
theorem d_Th_neederOf_1 : decode b_Th_neederOf 1 = .ok (.iload_n 1, 1) := by decide +kernel
theorem d_Th_neederOf_2 : decode b_Th_neederOf 2 = .ok (.invokevirtual 59, 3) := by decide +kernel
theorem d_Th_neederOf_5 : decode b_Th_neederOf 5 = .ok (.ifCond .eq 12, 3) := by decide +kernel
theorem d_Th_neederOf_8 : decode b_Th_neederOf 8 = .ok (.aload_n 0, 1) := by decide +kernel
theorem d_Th_neederOf_9 : decode b_Th_neederOf 9 = .ok (.getfield 24, 3) := by decide +kernel
theorem d_Th_neederOf_12 : decode b_Th_neederOf 12 = .ok (.iload_n 1, 1) := by decide +kernel
theorem d_Th_neederOf_13 : decode b_Th_neederOf 13 = .ok (.iaload, 1) := by decide +kernel
theorem d_Th_neederOf_14 : decode b_Th_neederOf 14 = .ok (.goto 4, 3) := by decide +kernel
theorem d_Th_neederOf_17 : decode b_Th_neederOf 17 = .ok (.iconst (-1), 1) := by decide +kernel
theorem d_Th_neederOf_18 : decode b_Th_neederOf 18 = .ok (.ireturn, 1) := by decide +kernel
theorem d_Gw_outcome_0 : decode b_Gw_outcome 0 = .ok (.aload_n 0, 1) := by decide +kernel
theorem d_Gw_outcome_1 : decode b_Gw_outcome 1 = .ok (.getfield 10, 3) := by decide +kernel
theorem d_Gw_outcome_4 : decode b_Gw_outcome 4 = .ok (.getfield 76, 3) := by decide +kernel
theorem d_Gw_outcome_7 : decode b_Gw_outcome 7 = .ok (.ireturn, 1) := by decide +kernel
theorem d_Gw_sort_0 : decode b_Gw_sort 0 = .ok (.aload_n 0, 1) := by decide +kernel
theorem d_Gw_sort_1 : decode b_Gw_sort 1 = .ok (.getfield 10, 3) := by decide +kernel
theorem d_Gw_sort_4 : decode b_Gw_sort 4 = .ok (.getfield 76, 3) := by decide +kernel
theorem d_Gw_sort_7 : decode b_Gw_sort 7 = .ok (.iconst 2, 1) := by decide +kernel
theorem d_Gw_sort_8 : decode b_Gw_sort 8 = .ok (.if_icmp .ne 16, 3) := by decide +kernel
theorem d_Gw_sort_11 : decode b_Gw_sort 11 = .ok (.aload_n 0, 1) := by decide +kernel
theorem d_Gw_sort_12 : decode b_Gw_sort 12 = .ok (.getfield 10, 3) := by decide +kernel
theorem d_Gw_sort_15 : decode b_Gw_sort 15 = .ok (.getfield 83, 3) := by decide +kernel
theorem d_Gw_sort_18 : decode b_Gw_sort 18 = .ok (.getfield 87, 3) := by decide +kernel
theorem d_Gw_sort_21 : decode b_Gw_sort 21 = .ok (.goto 4, 3) := by decide +kernel
theorem d_Gw_sort_24 : decode b_Gw_sort 24 = .ok (.iconst (-1), 1) := by decide +kernel
theorem d_Gw_sort_25 : decode b_Gw_sort 25 = .ok (.ireturn, 1) := by decide +kernel
theorem d_Gw_value_0 : decode b_Gw_value 0 = .ok (.aload_n 0, 1) := by decide +kernel
theorem d_Gw_value_1 : decode b_Gw_value 1 = .ok (.getfield 10, 3) := by decide +kernel
theorem d_Gw_value_4 : decode b_Gw_value 4 = .ok (.getfield 76, 3) := by decide +kernel
theorem d_Gw_value_7 : decode b_Gw_value 7 = .ok (.iconst 2, 1) := by decide +kernel
theorem d_Gw_value_8 : decode b_Gw_value 8 = .ok (.if_icmp .ne 29, 3) := by decide +kernel
theorem d_Gw_value_11 : decode b_Gw_value 11 = .ok (.aload_n 0, 1) := by decide +kernel
theorem d_Gw_value_12 : decode b_Gw_value 12 = .ok (.getfield 10, 3) := by decide +kernel
theorem d_Gw_value_15 : decode b_Gw_value 15 = .ok (.getfield 83, 3) := by decide +kernel
theorem d_Gw_value_18 : decode b_Gw_value 18 = .ok (.getfield 87, 3) := by decide +kernel
theorem d_Gw_value_21 : decode b_Gw_value 21 = .ok (.ifCond .ne 16, 3) := by decide +kernel
theorem d_Gw_value_24 : decode b_Gw_value 24 = .ok (.aload_n 0, 1) := by decide +kernel
theorem d_Gw_value_25 : decode b_Gw_value 25 = .ok (.getfield 10, 3) := by decide +kernel
theorem d_Gw_value_28 : decode b_Gw_value 28 = .ok (.getfield 83, 3) := by decide +kernel
theorem d_Gw_value_31 : decode b_Gw_value 31 = .ok (.getfield 105, 3) := by decide +kernel
theorem d_Gw_value_34 : decode b_Gw_value 34 = .ok (.goto 4, 3) := by decide +kernel
theorem d_Gw_value_37 : decode b_Gw_value 37 = .ok (.lconst 0, 1) := by decide +kernel
theorem d_Gw_value_38 : decode b_Gw_value 38 = .ok (.lreturn, 1) := by decide +kernel
theorem d_Mo_thrown_0 : decode b_Mo_thrown 0 = .ok (.aload_n 0, 1) := by decide +kernel
theorem d_Mo_thrown_1 : decode b_Mo_thrown 1 = .ok (.getfield 87, 3) := by decide +kernel
theorem d_Mo_thrown_4 : decode b_Mo_thrown 4 = .ok (.ireturn, 1) := by decide +kernel
theorem d_Mo_isTerm_0 : decode b_Mo_isTerm 0 = .ok (.iload_n 1, 1) := by decide +kernel
theorem d_Mo_isTerm_1 : decode b_Mo_isTerm 1 = .ok (.ifCond .lt 15, 3) := by decide +kernel
theorem d_Mo_isTerm_4 : decode b_Mo_isTerm 4 = .ok (.iload_n 1, 1) := by decide +kernel
theorem d_Mo_isTerm_5 : decode b_Mo_isTerm 5 = .ok (.aload_n 0, 1) := by decide +kernel
theorem d_Mo_isTerm_6 : decode b_Mo_isTerm 6 = .ok (.getfield 91, 3) := by decide +kernel
theorem d_Mo_isTerm_9 : decode b_Mo_isTerm 9 = .ok (.if_icmp .ge 7, 3) := by decide +kernel
theorem d_Mo_isTerm_12 : decode b_Mo_isTerm 12 = .ok (.iconst 1, 1) := by decide +kernel
theorem d_Mo_isTerm_13 : decode b_Mo_isTerm 13 = .ok (.goto 4, 3) := by decide +kernel
theorem d_Mo_isTerm_16 : decode b_Mo_isTerm 16 = .ok (.iconst 0, 1) := by decide +kernel
theorem d_Mo_isTerm_17 : decode b_Mo_isTerm 17 = .ok (.ireturn, 1) := by decide +kernel
theorem d_Mo_thrownBy_0 : decode b_Mo_thrownBy 0 = .ok (.aload_n 0, 1) := by decide +kernel
theorem d_Mo_thrownBy_1 : decode b_Mo_thrownBy 1 = .ok (.iload_n 1, 1) := by decide +kernel
theorem d_Mo_thrownBy_2 : decode b_Mo_thrownBy 2 = .ok (.putfield 87, 3) := by decide +kernel
theorem d_Mo_thrownBy_5 : decode b_Mo_thrownBy 5 = .ok (.iconst 0, 1) := by decide +kernel
theorem d_Mo_thrownBy_6 : decode b_Mo_thrownBy 6 = .ok (.ireturn, 1) := by decide +kernel
theorem d_Mo_term_0 : decode b_Mo_term 0 = .ok (.aload_n 0, 1) := by decide +kernel
theorem d_Mo_term_1 : decode b_Mo_term 1 = .ok (.iconst 0, 1) := by decide +kernel
theorem d_Mo_term_2 : decode b_Mo_term 2 = .ok (.putfield 87, 3) := by decide +kernel
theorem d_Mo_term_5 : decode b_Mo_term 5 = .ok (.aload_n 0, 1) := by decide +kernel
theorem d_Mo_term_6 : decode b_Mo_term 6 = .ok (.getfield 7, 3) := by decide +kernel
theorem d_Mo_term_9 : decode b_Mo_term 9 = .ok (.aload_n 0, 1) := by decide +kernel
theorem d_Mo_term_10 : decode b_Mo_term 10 = .ok (.getfield 91, 3) := by decide +kernel
theorem d_Mo_term_13 : decode b_Mo_term 13 = .ok (.iload_n 1, 1) := by decide +kernel
theorem d_Mo_term_14 : decode b_Mo_term 14 = .ok (.iastore, 1) := by decide +kernel
theorem d_Mo_term_15 : decode b_Mo_term 15 = .ok (.aload_n 0, 1) := by decide +kernel
theorem d_Mo_term_16 : decode b_Mo_term 16 = .ok (.getfield 13, 3) := by decide +kernel
theorem d_Mo_term_19 : decode b_Mo_term 19 = .ok (.aload_n 0, 1) := by decide +kernel
theorem d_Mo_term_20 : decode b_Mo_term 20 = .ok (.getfield 91, 3) := by decide +kernel
theorem d_Mo_term_23 : decode b_Mo_term 23 = .ok (.iload_n 2, 1) := by decide +kernel
theorem d_Mo_term_24 : decode b_Mo_term 24 = .ok (.iastore, 1) := by decide +kernel
theorem d_Mo_term_25 : decode b_Mo_term 25 = .ok (.aload_n 0, 1) := by decide +kernel
theorem d_Mo_term_26 : decode b_Mo_term 26 = .ok (.getfield 16, 3) := by decide +kernel
theorem d_Mo_term_29 : decode b_Mo_term 29 = .ok (.aload_n 0, 1) := by decide +kernel
theorem d_Mo_term_30 : decode b_Mo_term 30 = .ok (.getfield 91, 3) := by decide +kernel
theorem d_Mo_term_33 : decode b_Mo_term 33 = .ok (.iload_n 3, 1) := by decide +kernel
theorem d_Mo_term_34 : decode b_Mo_term 34 = .ok (.iastore, 1) := by decide +kernel
theorem d_Mo_term_35 : decode b_Mo_term 35 = .ok (.aload_n 0, 1) := by decide +kernel
theorem d_Mo_term_36 : decode b_Mo_term 36 = .ok (.getfield 19, 3) := by decide +kernel
theorem d_Mo_term_39 : decode b_Mo_term 39 = .ok (.aload_n 0, 1) := by decide +kernel
theorem d_Mo_term_40 : decode b_Mo_term 40 = .ok (.getfield 91, 3) := by decide +kernel
theorem d_Mo_term_43 : decode b_Mo_term 43 = .ok (.iload 4, 2) := by decide +kernel
theorem d_Mo_term_45 : decode b_Mo_term 45 = .ok (.iastore, 1) := by decide +kernel
theorem d_Mo_term_46 : decode b_Mo_term 46 = .ok (.aload_n 0, 1) := by decide +kernel
theorem d_Mo_term_47 : decode b_Mo_term 47 = .ok (.dup, 1) := by decide +kernel
theorem d_Mo_term_48 : decode b_Mo_term 48 = .ok (.getfield 91, 3) := by decide +kernel
theorem d_Mo_term_51 : decode b_Mo_term 51 = .ok (.iconst 1, 1) := by decide +kernel
theorem d_Mo_term_52 : decode b_Mo_term 52 = .ok (.iadd, 1) := by decide +kernel
theorem d_Mo_term_53 : decode b_Mo_term 53 = .ok (.putfield 91, 3) := by decide +kernel
theorem d_Mo_term_56 : decode b_Mo_term 56 = .ok (.aload_n 0, 1) := by decide +kernel
theorem d_Mo_term_57 : decode b_Mo_term 57 = .ok (.getfield 91, 3) := by decide +kernel
theorem d_Mo_term_60 : decode b_Mo_term 60 = .ok (.iconst 1, 1) := by decide +kernel
theorem d_Mo_term_61 : decode b_Mo_term 61 = .ok (.isub, 1) := by decide +kernel
theorem d_Mo_term_62 : decode b_Mo_term 62 = .ok (.ireturn, 1) := by decide +kernel
theorem d_Mo_more_0 : decode b_Mo_more 0 = .ok (.iload_n 0, 1) := by decide +kernel
theorem d_Mo_more_1 : decode b_Mo_more 1 = .ok (.iload_n 1, 1) := by decide +kernel
theorem d_Mo_more_2 : decode b_Mo_more 2 = .ok (.if_icmp .le 7, 3) := by decide +kernel
theorem d_Mo_more_5 : decode b_Mo_more 5 = .ok (.iload_n 0, 1) := by decide +kernel
theorem d_Mo_more_6 : decode b_Mo_more 6 = .ok (.goto 4, 3) := by decide +kernel
theorem d_Mo_more_9 : decode b_Mo_more 9 = .ok (.iload_n 1, 1) := by decide +kernel
theorem d_Mo_more_10 : decode b_Mo_more 10 = .ok (.ireturn, 1) := by decide +kernel
theorem d_Mo_lessOne_0 : decode b_Mo_lessOne 0 = .ok (.iload_n 0, 1) := by decide +kernel
theorem d_Mo_lessOne_1 : decode b_Mo_lessOne 1 = .ok (.ifCond .le 9, 3) := by decide +kernel
theorem d_Mo_lessOne_4 : decode b_Mo_lessOne 4 = .ok (.iload_n 0, 1) := by decide +kernel
theorem d_Mo_lessOne_5 : decode b_Mo_lessOne 5 = .ok (.iconst 1, 1) := by decide +kernel
theorem d_Mo_lessOne_6 : decode b_Mo_lessOne 6 = .ok (.isub, 1) := by decide +kernel
theorem d_Mo_lessOne_7 : decode b_Mo_lessOne 7 = .ok (.goto 4, 3) := by decide +kernel
theorem d_Mo_lessOne_10 : decode b_Mo_lessOne 10 = .ok (.iconst 0, 1) := by decide +kernel
theorem d_Mo_lessOne_11 : decode b_Mo_lessOne 11 = .ok (.ireturn, 1) := by decide +kernel
theorem d_Mo_number_0 : decode b_Mo_number 0 = .ok (.aload_n 0, 1) := by decide +kernel
theorem d_Mo_number_1 : decode b_Mo_number 1 = .ok (.getfield 91, 3) := by decide +kernel
theorem d_Mo_number_4 : decode b_Mo_number 4 = .ok (.sipush 200, 3) := by decide +kernel
theorem d_Mo_number_7 : decode b_Mo_number 7 = .ok (.if_icmp .ne 9, 3) := by decide +kernel
theorem d_Mo_number_10 : decode b_Mo_number 10 = .ok (.aload_n 0, 1) := by decide +kernel
theorem d_Mo_number_11 : decode b_Mo_number 11 = .ok (.iconst 1, 1) := by decide +kernel
theorem d_Mo_number_12 : decode b_Mo_number 12 = .ok (.invokevirtual 94, 3) := by decide +kernel
theorem d_Mo_number_15 : decode b_Mo_number 15 = .ok (.ireturn, 1) := by decide +kernel
theorem d_Mo_number_16 : decode b_Mo_number 16 = .ok (.aload_n 0, 1) := by decide +kernel
theorem d_Mo_number_17 : decode b_Mo_number 17 = .ok (.iconst 0, 1) := by decide +kernel
theorem d_Mo_number_18 : decode b_Mo_number 18 = .ok (.iconst (-1), 1) := by decide +kernel
theorem d_Mo_number_19 : decode b_Mo_number 19 = .ok (.iconst (-1), 1) := by decide +kernel
theorem d_Mo_number_20 : decode b_Mo_number 20 = .ok (.iconst (-1), 1) := by decide +kernel
theorem d_Mo_number_21 : decode b_Mo_number 21 = .ok (.invokevirtual 98, 3) := by decide +kernel
theorem d_Mo_number_24 : decode b_Mo_number 24 = .ok (.istore_n 3, 1) := by decide +kernel
theorem d_Mo_number_25 : decode b_Mo_number 25 = .ok (.aload_n 0, 1) := by decide +kernel
theorem d_Mo_number_26 : decode b_Mo_number 26 = .ok (.getfield 22, 3) := by decide +kernel
theorem d_Mo_number_29 : decode b_Mo_number 29 = .ok (.iload_n 3, 1) := by decide +kernel
theorem d_Mo_number_30 : decode b_Mo_number 30 = .ok (.lload_n 1, 1) := by decide +kernel
theorem d_Mo_number_31 : decode b_Mo_number 31 = .ok (.lastore, 1) := by decide +kernel
theorem d_Mo_number_32 : decode b_Mo_number 32 = .ok (.aload_n 0, 1) := by decide +kernel
theorem d_Mo_number_33 : decode b_Mo_number 33 = .ok (.getfield 26, 3) := by decide +kernel
theorem d_Mo_number_36 : decode b_Mo_number 36 = .ok (.iload_n 3, 1) := by decide +kernel
theorem d_Mo_number_37 : decode b_Mo_number 37 = .ok (.iconst 0, 1) := by decide +kernel
theorem d_Mo_number_38 : decode b_Mo_number 38 = .ok (.iastore, 1) := by decide +kernel
theorem d_Mo_number_39 : decode b_Mo_number 39 = .ok (.iload_n 3, 1) := by decide +kernel
theorem d_Mo_number_40 : decode b_Mo_number 40 = .ok (.ireturn, 1) := by decide +kernel
theorem d_Mo_variable_0 : decode b_Mo_variable 0 = .ok (.aload_n 0, 1) := by decide +kernel
theorem d_Mo_variable_1 : decode b_Mo_variable 1 = .ok (.getfield 91, 3) := by decide +kernel
theorem d_Mo_variable_4 : decode b_Mo_variable 4 = .ok (.sipush 200, 3) := by decide +kernel
theorem d_Mo_variable_7 : decode b_Mo_variable 7 = .ok (.if_icmp .ne 9, 3) := by decide +kernel
theorem d_Mo_variable_10 : decode b_Mo_variable 10 = .ok (.aload_n 0, 1) := by decide +kernel
theorem d_Mo_variable_11 : decode b_Mo_variable 11 = .ok (.iconst 1, 1) := by decide +kernel
theorem d_Mo_variable_12 : decode b_Mo_variable 12 = .ok (.invokevirtual 94, 3) := by decide +kernel
theorem d_Mo_variable_15 : decode b_Mo_variable 15 = .ok (.ireturn, 1) := by decide +kernel
theorem d_Mo_variable_16 : decode b_Mo_variable 16 = .ok (.iload_n 1, 1) := by decide +kernel
theorem d_Mo_variable_17 : decode b_Mo_variable 17 = .ok (.ifCond .lt 9, 3) := by decide +kernel
theorem d_Mo_variable_20 : decode b_Mo_variable 20 = .ok (.iload_n 1, 1) := by decide +kernel
theorem d_Mo_variable_21 : decode b_Mo_variable 21 = .ok (.bipush 60, 2) := by decide +kernel
theorem d_Mo_variable_23 : decode b_Mo_variable 23 = .ok (.if_icmp .le 9, 3) := by decide +kernel
theorem d_Mo_variable_26 : decode b_Mo_variable 26 = .ok (.aload_n 0, 1) := by decide +kernel
theorem d_Mo_variable_27 : decode b_Mo_variable 27 = .ok (.iconst 2, 1) := by decide +kernel
theorem d_Mo_variable_28 : decode b_Mo_variable 28 = .ok (.invokevirtual 94, 3) := by decide +kernel
theorem d_Mo_variable_31 : decode b_Mo_variable 31 = .ok (.ireturn, 1) := by decide +kernel
theorem d_Mo_variable_32 : decode b_Mo_variable 32 = .ok (.aload_n 0, 1) := by decide +kernel
theorem d_Mo_variable_33 : decode b_Mo_variable 33 = .ok (.iconst 1, 1) := by decide +kernel
theorem d_Mo_variable_34 : decode b_Mo_variable 34 = .ok (.iload_n 1, 1) := by decide +kernel
theorem d_Mo_variable_35 : decode b_Mo_variable 35 = .ok (.iconst (-1), 1) := by decide +kernel
theorem d_Mo_variable_36 : decode b_Mo_variable 36 = .ok (.iconst (-1), 1) := by decide +kernel
theorem d_Mo_variable_37 : decode b_Mo_variable 37 = .ok (.invokevirtual 98, 3) := by decide +kernel
theorem d_Mo_variable_40 : decode b_Mo_variable 40 = .ok (.istore_n 2, 1) := by decide +kernel
theorem d_Mo_variable_41 : decode b_Mo_variable 41 = .ok (.aload_n 0, 1) := by decide +kernel
theorem d_Mo_variable_42 : decode b_Mo_variable 42 = .ok (.getfield 26, 3) := by decide +kernel
theorem d_Mo_variable_45 : decode b_Mo_variable 45 = .ok (.iload_n 2, 1) := by decide +kernel
theorem d_Mo_variable_46 : decode b_Mo_variable 46 = .ok (.iload_n 1, 1) := by decide +kernel
theorem d_Mo_variable_47 : decode b_Mo_variable 47 = .ok (.iconst 1, 1) := by decide +kernel
theorem d_Mo_variable_48 : decode b_Mo_variable 48 = .ok (.iadd, 1) := by decide +kernel
theorem d_Mo_variable_49 : decode b_Mo_variable 49 = .ok (.iastore, 1) := by decide +kernel
theorem d_Mo_variable_50 : decode b_Mo_variable 50 = .ok (.iload_n 2, 1) := by decide +kernel
theorem d_Mo_variable_51 : decode b_Mo_variable 51 = .ok (.ireturn, 1) := by decide +kernel
theorem d_Mo_one_0 : decode b_Mo_one 0 = .ok (.aload_n 0, 1) := by decide +kernel
theorem d_Mo_one_1 : decode b_Mo_one 1 = .ok (.iload_n 2, 1) := by decide +kernel
theorem d_Mo_one_2 : decode b_Mo_one 2 = .ok (.invokevirtual 102, 3) := by decide +kernel
theorem d_Mo_one_5 : decode b_Mo_one 5 = .ok (.ifCond .ne 9, 3) := by decide +kernel
theorem d_Mo_one_8 : decode b_Mo_one 8 = .ok (.aload_n 0, 1) := by decide +kernel
theorem d_Mo_one_9 : decode b_Mo_one 9 = .ok (.iconst 1, 1) := by decide +kernel
theorem d_Mo_one_10 : decode b_Mo_one 10 = .ok (.invokevirtual 94, 3) := by decide +kernel
theorem d_Mo_one_13 : decode b_Mo_one 13 = .ok (.ireturn, 1) := by decide +kernel
theorem d_Mo_one_14 : decode b_Mo_one 14 = .ok (.aload_n 0, 1) := by decide +kernel
theorem d_Mo_one_15 : decode b_Mo_one 15 = .ok (.getfield 91, 3) := by decide +kernel
theorem d_Mo_one_18 : decode b_Mo_one 18 = .ok (.sipush 200, 3) := by decide +kernel
theorem d_Mo_one_21 : decode b_Mo_one 21 = .ok (.if_icmp .ne 9, 3) := by decide +kernel
theorem d_Mo_one_24 : decode b_Mo_one 24 = .ok (.aload_n 0, 1) := by decide +kernel
theorem d_Mo_one_25 : decode b_Mo_one 25 = .ok (.iconst 2, 1) := by decide +kernel
theorem d_Mo_one_26 : decode b_Mo_one 26 = .ok (.invokevirtual 94, 3) := by decide +kernel
theorem d_Mo_one_29 : decode b_Mo_one 29 = .ok (.ireturn, 1) := by decide +kernel
theorem d_Mo_one_30 : decode b_Mo_one 30 = .ok (.iload_n 1, 1) := by decide +kernel
theorem d_Mo_one_31 : decode b_Mo_one 31 = .ok (.ifCond .lt 8, 3) := by decide +kernel
theorem d_Mo_one_34 : decode b_Mo_one 34 = .ok (.iload_n 1, 1) := by decide +kernel
theorem d_Mo_one_35 : decode b_Mo_one 35 = .ok (.iconst 2, 1) := by decide +kernel
theorem d_Mo_one_36 : decode b_Mo_one 36 = .ok (.if_icmp .le 9, 3) := by decide +kernel
theorem d_Mo_one_39 : decode b_Mo_one 39 = .ok (.aload_n 0, 1) := by decide +kernel
theorem d_Mo_one_40 : decode b_Mo_one 40 = .ok (.iconst 3, 1) := by decide +kernel
theorem d_Mo_one_41 : decode b_Mo_one 41 = .ok (.invokevirtual 94, 3) := by decide +kernel
theorem d_Mo_one_44 : decode b_Mo_one 44 = .ok (.ireturn, 1) := by decide +kernel
theorem d_Mo_one_45 : decode b_Mo_one 45 = .ok (.aload_n 0, 1) := by decide +kernel
theorem d_Mo_one_46 : decode b_Mo_one 46 = .ok (.iload_n 1, 1) := by decide +kernel
theorem d_Mo_one_47 : decode b_Mo_one 47 = .ok (.ifCond .ne 7, 3) := by decide +kernel
theorem d_Mo_one_50 : decode b_Mo_one 50 = .ok (.iconst 2, 1) := by decide +kernel
theorem d_Mo_one_51 : decode b_Mo_one 51 = .ok (.goto 13, 3) := by decide +kernel
theorem d_Mo_one_54 : decode b_Mo_one 54 = .ok (.iload_n 1, 1) := by decide +kernel
theorem d_Mo_one_55 : decode b_Mo_one 55 = .ok (.iconst 1, 1) := by decide +kernel
theorem d_Mo_one_56 : decode b_Mo_one 56 = .ok (.if_icmp .ne 7, 3) := by decide +kernel
theorem d_Mo_one_59 : decode b_Mo_one 59 = .ok (.iconst 3, 1) := by decide +kernel
theorem d_Mo_one_60 : decode b_Mo_one 60 = .ok (.goto 4, 3) := by decide +kernel
theorem d_Mo_one_63 : decode b_Mo_one 63 = .ok (.iconst 4, 1) := by decide +kernel
theorem d_Mo_one_64 : decode b_Mo_one 64 = .ok (.iload_n 2, 1) := by decide +kernel
theorem d_Mo_one_65 : decode b_Mo_one 65 = .ok (.iconst (-1), 1) := by decide +kernel
theorem d_Mo_one_66 : decode b_Mo_one 66 = .ok (.iconst (-1), 1) := by decide +kernel
theorem d_Mo_one_67 : decode b_Mo_one 67 = .ok (.invokevirtual 98, 3) := by decide +kernel
theorem d_Mo_one_70 : decode b_Mo_one 70 = .ok (.istore_n 3, 1) := by decide +kernel
theorem d_Mo_one_71 : decode b_Mo_one 71 = .ok (.aload_n 0, 1) := by decide +kernel
theorem d_Mo_one_72 : decode b_Mo_one 72 = .ok (.getfield 26, 3) := by decide +kernel
theorem d_Mo_one_75 : decode b_Mo_one 75 = .ok (.iload_n 3, 1) := by decide +kernel
theorem d_Mo_one_76 : decode b_Mo_one 76 = .ok (.iload_n 1, 1) := by decide +kernel
theorem d_Mo_one_77 : decode b_Mo_one 77 = .ok (.ifCond .ne 15, 3) := by decide +kernel
theorem d_Mo_one_80 : decode b_Mo_one 80 = .ok (.aload_n 0, 1) := by decide +kernel
theorem d_Mo_one_81 : decode b_Mo_one 81 = .ok (.getfield 26, 3) := by decide +kernel
theorem d_Mo_one_84 : decode b_Mo_one 84 = .ok (.iload_n 2, 1) := by decide +kernel
theorem d_Mo_one_85 : decode b_Mo_one 85 = .ok (.iaload, 1) := by decide +kernel
theorem d_Mo_one_86 : decode b_Mo_one 86 = .ok (.invokestatic 106, 3) := by decide +kernel
theorem d_Mo_one_89 : decode b_Mo_one 89 = .ok (.goto 9, 3) := by decide +kernel
theorem d_Mo_one_92 : decode b_Mo_one 92 = .ok (.aload_n 0, 1) := by decide +kernel
theorem d_Mo_one_93 : decode b_Mo_one 93 = .ok (.getfield 26, 3) := by decide +kernel
theorem d_Mo_one_96 : decode b_Mo_one 96 = .ok (.iload_n 2, 1) := by decide +kernel
theorem d_Mo_one_97 : decode b_Mo_one 97 = .ok (.iaload, 1) := by decide +kernel
theorem d_Mo_one_98 : decode b_Mo_one 98 = .ok (.iastore, 1) := by decide +kernel
theorem d_Mo_one_99 : decode b_Mo_one 99 = .ok (.iload_n 3, 1) := by decide +kernel
theorem d_Mo_one_100 : decode b_Mo_one 100 = .ok (.ireturn, 1) := by decide +kernel
theorem d_Mo_two_0 : decode b_Mo_two 0 = .ok (.aload_n 0, 1) := by decide +kernel
theorem d_Mo_two_1 : decode b_Mo_two 1 = .ok (.iload_n 2, 1) := by decide +kernel
theorem d_Mo_two_2 : decode b_Mo_two 2 = .ok (.invokevirtual 102, 3) := by decide +kernel
theorem d_Mo_two_5 : decode b_Mo_two 5 = .ok (.ifCond .eq 11, 3) := by decide +kernel
theorem d_Mo_two_8 : decode b_Mo_two 8 = .ok (.aload_n 0, 1) := by decide +kernel
theorem d_Mo_two_9 : decode b_Mo_two 9 = .ok (.iload_n 3, 1) := by decide +kernel
theorem d_Mo_two_10 : decode b_Mo_two 10 = .ok (.invokevirtual 102, 3) := by decide +kernel
theorem d_Mo_two_13 : decode b_Mo_two 13 = .ok (.ifCond .ne 9, 3) := by decide +kernel
theorem d_Mo_two_16 : decode b_Mo_two 16 = .ok (.aload_n 0, 1) := by decide +kernel
theorem d_Mo_two_17 : decode b_Mo_two 17 = .ok (.iconst 1, 1) := by decide +kernel
theorem d_Mo_two_18 : decode b_Mo_two 18 = .ok (.invokevirtual 94, 3) := by decide +kernel
theorem d_Mo_two_21 : decode b_Mo_two 21 = .ok (.ireturn, 1) := by decide +kernel
theorem d_Mo_two_22 : decode b_Mo_two 22 = .ok (.aload_n 0, 1) := by decide +kernel
theorem d_Mo_two_23 : decode b_Mo_two 23 = .ok (.getfield 91, 3) := by decide +kernel
theorem d_Mo_two_26 : decode b_Mo_two 26 = .ok (.sipush 200, 3) := by decide +kernel
theorem d_Mo_two_29 : decode b_Mo_two 29 = .ok (.if_icmp .ne 9, 3) := by decide +kernel
theorem d_Mo_two_32 : decode b_Mo_two 32 = .ok (.aload_n 0, 1) := by decide +kernel
theorem d_Mo_two_33 : decode b_Mo_two 33 = .ok (.iconst 2, 1) := by decide +kernel
theorem d_Mo_two_34 : decode b_Mo_two 34 = .ok (.invokevirtual 94, 3) := by decide +kernel
theorem d_Mo_two_37 : decode b_Mo_two 37 = .ok (.ireturn, 1) := by decide +kernel
theorem d_Mo_two_38 : decode b_Mo_two 38 = .ok (.iload_n 1, 1) := by decide +kernel
theorem d_Mo_two_39 : decode b_Mo_two 39 = .ok (.ifCond .lt 9, 3) := by decide +kernel
theorem d_Mo_two_42 : decode b_Mo_two 42 = .ok (.iload_n 1, 1) := by decide +kernel
theorem d_Mo_two_43 : decode b_Mo_two 43 = .ok (.bipush 8, 2) := by decide +kernel
theorem d_Mo_two_45 : decode b_Mo_two 45 = .ok (.if_icmp .le 9, 3) := by decide +kernel
theorem d_Mo_two_48 : decode b_Mo_two 48 = .ok (.aload_n 0, 1) := by decide +kernel
theorem d_Mo_two_49 : decode b_Mo_two 49 = .ok (.iconst 3, 1) := by decide +kernel
theorem d_Mo_two_50 : decode b_Mo_two 50 = .ok (.invokevirtual 94, 3) := by decide +kernel
theorem d_Mo_two_53 : decode b_Mo_two 53 = .ok (.ireturn, 1) := by decide +kernel
theorem d_Mo_two_54 : decode b_Mo_two 54 = .ok (.aload_n 0, 1) := by decide +kernel
theorem d_Mo_two_55 : decode b_Mo_two 55 = .ok (.iload_n 1, 1) := by decide +kernel
theorem d_Mo_two_56 : decode b_Mo_two 56 = .ok (.ifCond .ne 7, 3) := by decide +kernel
theorem d_Mo_two_59 : decode b_Mo_two 59 = .ok (.iconst 5, 1) := by decide +kernel
theorem d_Mo_two_60 : decode b_Mo_two 60 = .ok (.goto 29, 3) := by decide +kernel
theorem d_Mo_two_63 : decode b_Mo_two 63 = .ok (.iload_n 1, 1) := by decide +kernel
theorem d_Mo_two_64 : decode b_Mo_two 64 = .ok (.iconst 1, 1) := by decide +kernel
theorem d_Mo_two_65 : decode b_Mo_two 65 = .ok (.if_icmp .ne 8, 3) := by decide +kernel
theorem d_Mo_two_68 : decode b_Mo_two 68 = .ok (.bipush 6, 2) := by decide +kernel
theorem d_Mo_two_70 : decode b_Mo_two 70 = .ok (.goto 19, 3) := by decide +kernel
theorem d_Mo_two_73 : decode b_Mo_two 73 = .ok (.iload_n 1, 1) := by decide +kernel
theorem d_Mo_two_74 : decode b_Mo_two 74 = .ok (.iconst 2, 1) := by decide +kernel
theorem d_Mo_two_75 : decode b_Mo_two 75 = .ok (.if_icmp .ne 8, 3) := by decide +kernel
theorem d_Mo_two_78 : decode b_Mo_two 78 = .ok (.bipush 7, 2) := by decide +kernel
theorem d_Mo_two_80 : decode b_Mo_two 80 = .ok (.goto 9, 3) := by decide +kernel
theorem d_Mo_two_83 : decode b_Mo_two 83 = .ok (.bipush 8, 2) := by decide +kernel
theorem d_Mo_two_85 : decode b_Mo_two 85 = .ok (.iload_n 1, 1) := by decide +kernel
theorem d_Mo_two_86 : decode b_Mo_two 86 = .ok (.iadd, 1) := by decide +kernel
theorem d_Mo_two_87 : decode b_Mo_two 87 = .ok (.iconst 3, 1) := by decide +kernel
theorem d_Mo_two_88 : decode b_Mo_two 88 = .ok (.isub, 1) := by decide +kernel
theorem d_Mo_two_89 : decode b_Mo_two 89 = .ok (.iload_n 2, 1) := by decide +kernel
theorem d_Mo_two_90 : decode b_Mo_two 90 = .ok (.iload_n 3, 1) := by decide +kernel
theorem d_Mo_two_91 : decode b_Mo_two 91 = .ok (.iconst (-1), 1) := by decide +kernel
theorem d_Mo_two_92 : decode b_Mo_two 92 = .ok (.invokevirtual 98, 3) := by decide +kernel
theorem d_Mo_two_95 : decode b_Mo_two 95 = .ok (.istore 4, 2) := by decide +kernel
theorem d_Mo_two_97 : decode b_Mo_two 97 = .ok (.aload_n 0, 1) := by decide +kernel
theorem d_Mo_two_98 : decode b_Mo_two 98 = .ok (.getfield 26, 3) := by decide +kernel
theorem d_Mo_two_101 : decode b_Mo_two 101 = .ok (.iload_n 2, 1) := by decide +kernel
theorem d_Mo_two_102 : decode b_Mo_two 102 = .ok (.iaload, 1) := by decide +kernel
theorem d_Mo_two_103 : decode b_Mo_two 103 = .ok (.aload_n 0, 1) := by decide +kernel
theorem d_Mo_two_104 : decode b_Mo_two 104 = .ok (.getfield 26, 3) := by decide +kernel
theorem d_Mo_two_107 : decode b_Mo_two 107 = .ok (.iload_n 3, 1) := by decide +kernel
theorem d_Mo_two_108 : decode b_Mo_two 108 = .ok (.iaload, 1) := by decide +kernel
theorem d_Mo_two_109 : decode b_Mo_two 109 = .ok (.invokestatic 109, 3) := by decide +kernel
theorem d_Mo_two_112 : decode b_Mo_two 112 = .ok (.istore 5, 2) := by decide +kernel
theorem d_Mo_two_114 : decode b_Mo_two 114 = .ok (.aload_n 0, 1) := by decide +kernel
theorem d_Mo_two_115 : decode b_Mo_two 115 = .ok (.getfield 26, 3) := by decide +kernel
theorem d_Mo_two_118 : decode b_Mo_two 118 = .ok (.iload 4, 2) := by decide +kernel
theorem d_Mo_two_120 : decode b_Mo_two 120 = .ok (.iload_n 1, 1) := by decide +kernel
theorem d_Mo_two_121 : decode b_Mo_two 121 = .ok (.iconst 1, 1) := by decide +kernel
theorem d_Mo_two_122 : decode b_Mo_two 122 = .ok (.if_icmp .ne 11, 3) := by decide +kernel
theorem d_Mo_two_125 : decode b_Mo_two 125 = .ok (.iload 5, 2) := by decide +kernel
theorem d_Mo_two_127 : decode b_Mo_two 127 = .ok (.invokestatic 106, 3) := by decide +kernel
theorem d_Mo_two_130 : decode b_Mo_two 130 = .ok (.goto 5, 3) := by decide +kernel
theorem d_Mo_two_133 : decode b_Mo_two 133 = .ok (.iload 5, 2) := by decide +kernel
theorem d_Mo_two_135 : decode b_Mo_two 135 = .ok (.iastore, 1) := by decide +kernel
theorem d_Mo_two_136 : decode b_Mo_two 136 = .ok (.iload 4, 2) := by decide +kernel
theorem d_Mo_two_138 : decode b_Mo_two 138 = .ok (.ireturn, 1) := by decide +kernel
theorem d_Mo_choose_0 : decode b_Mo_choose 0 = .ok (.aload_n 0, 1) := by decide +kernel
theorem d_Mo_choose_1 : decode b_Mo_choose 1 = .ok (.iload_n 1, 1) := by decide +kernel
theorem d_Mo_choose_2 : decode b_Mo_choose 2 = .ok (.invokevirtual 102, 3) := by decide +kernel
theorem d_Mo_choose_5 : decode b_Mo_choose 5 = .ok (.ifCond .eq 19, 3) := by decide +kernel
theorem d_Mo_choose_8 : decode b_Mo_choose 8 = .ok (.aload_n 0, 1) := by decide +kernel
theorem d_Mo_choose_9 : decode b_Mo_choose 9 = .ok (.iload_n 2, 1) := by decide +kernel
theorem d_Mo_choose_10 : decode b_Mo_choose 10 = .ok (.invokevirtual 102, 3) := by decide +kernel
theorem d_Mo_choose_13 : decode b_Mo_choose 13 = .ok (.ifCond .eq 11, 3) := by decide +kernel
theorem d_Mo_choose_16 : decode b_Mo_choose 16 = .ok (.aload_n 0, 1) := by decide +kernel
theorem d_Mo_choose_17 : decode b_Mo_choose 17 = .ok (.iload_n 3, 1) := by decide +kernel
theorem d_Mo_choose_18 : decode b_Mo_choose 18 = .ok (.invokevirtual 102, 3) := by decide +kernel
theorem d_Mo_choose_21 : decode b_Mo_choose 21 = .ok (.ifCond .ne 9, 3) := by decide +kernel
theorem d_Mo_choose_24 : decode b_Mo_choose 24 = .ok (.aload_n 0, 1) := by decide +kernel
theorem d_Mo_choose_25 : decode b_Mo_choose 25 = .ok (.iconst 1, 1) := by decide +kernel
theorem d_Mo_choose_26 : decode b_Mo_choose 26 = .ok (.invokevirtual 94, 3) := by decide +kernel
theorem d_Mo_choose_29 : decode b_Mo_choose 29 = .ok (.ireturn, 1) := by decide +kernel
theorem d_Mo_choose_30 : decode b_Mo_choose 30 = .ok (.aload_n 0, 1) := by decide +kernel
theorem d_Mo_choose_31 : decode b_Mo_choose 31 = .ok (.getfield 91, 3) := by decide +kernel
theorem d_Mo_choose_34 : decode b_Mo_choose 34 = .ok (.sipush 200, 3) := by decide +kernel
theorem d_Mo_choose_37 : decode b_Mo_choose 37 = .ok (.if_icmp .ne 9, 3) := by decide +kernel
theorem d_Mo_choose_40 : decode b_Mo_choose 40 = .ok (.aload_n 0, 1) := by decide +kernel
theorem d_Mo_choose_41 : decode b_Mo_choose 41 = .ok (.iconst 2, 1) := by decide +kernel
theorem d_Mo_choose_42 : decode b_Mo_choose 42 = .ok (.invokevirtual 94, 3) := by decide +kernel
theorem d_Mo_choose_45 : decode b_Mo_choose 45 = .ok (.ireturn, 1) := by decide +kernel
theorem d_Mo_choose_46 : decode b_Mo_choose 46 = .ok (.aload_n 0, 1) := by decide +kernel
theorem d_Mo_choose_47 : decode b_Mo_choose 47 = .ok (.bipush 14, 2) := by decide +kernel
theorem d_Mo_choose_49 : decode b_Mo_choose 49 = .ok (.iload_n 2, 1) := by decide +kernel
theorem d_Mo_choose_50 : decode b_Mo_choose 50 = .ok (.iload_n 3, 1) := by decide +kernel
theorem d_Mo_choose_51 : decode b_Mo_choose 51 = .ok (.iload_n 1, 1) := by decide +kernel
theorem d_Mo_choose_52 : decode b_Mo_choose 52 = .ok (.invokevirtual 98, 3) := by decide +kernel
theorem d_Mo_choose_55 : decode b_Mo_choose 55 = .ok (.istore 4, 2) := by decide +kernel
theorem d_Mo_choose_57 : decode b_Mo_choose 57 = .ok (.aload_n 0, 1) := by decide +kernel
theorem d_Mo_choose_58 : decode b_Mo_choose 58 = .ok (.getfield 26, 3) := by decide +kernel
theorem d_Mo_choose_61 : decode b_Mo_choose 61 = .ok (.iload 4, 2) := by decide +kernel
theorem d_Mo_choose_63 : decode b_Mo_choose 63 = .ok (.aload_n 0, 1) := by decide +kernel
theorem d_Mo_choose_64 : decode b_Mo_choose 64 = .ok (.getfield 26, 3) := by decide +kernel
theorem d_Mo_choose_67 : decode b_Mo_choose 67 = .ok (.iload_n 1, 1) := by decide +kernel
theorem d_Mo_choose_68 : decode b_Mo_choose 68 = .ok (.iaload, 1) := by decide +kernel
theorem d_Mo_choose_69 : decode b_Mo_choose 69 = .ok (.aload_n 0, 1) := by decide +kernel
theorem d_Mo_choose_70 : decode b_Mo_choose 70 = .ok (.getfield 26, 3) := by decide +kernel
theorem d_Mo_choose_73 : decode b_Mo_choose 73 = .ok (.iload_n 2, 1) := by decide +kernel
theorem d_Mo_choose_74 : decode b_Mo_choose 74 = .ok (.iaload, 1) := by decide +kernel
theorem d_Mo_choose_75 : decode b_Mo_choose 75 = .ok (.aload_n 0, 1) := by decide +kernel
theorem d_Mo_choose_76 : decode b_Mo_choose 76 = .ok (.getfield 26, 3) := by decide +kernel
theorem d_Mo_choose_79 : decode b_Mo_choose 79 = .ok (.iload_n 3, 1) := by decide +kernel
theorem d_Mo_choose_80 : decode b_Mo_choose 80 = .ok (.iaload, 1) := by decide +kernel
theorem d_Mo_choose_81 : decode b_Mo_choose 81 = .ok (.invokestatic 109, 3) := by decide +kernel
theorem d_Mo_choose_84 : decode b_Mo_choose 84 = .ok (.invokestatic 109, 3) := by decide +kernel
theorem d_Mo_choose_87 : decode b_Mo_choose 87 = .ok (.iastore, 1) := by decide +kernel
theorem d_Mo_choose_88 : decode b_Mo_choose 88 = .ok (.iload 4, 2) := by decide +kernel
theorem d_Mo_choose_90 : decode b_Mo_choose 90 = .ok (.ireturn, 1) := by decide +kernel
theorem d_Mo_lacks_0 : decode b_Mo_lacks 0 = .ok (.aload_n 0, 1) := by decide +kernel
theorem d_Mo_lacks_1 : decode b_Mo_lacks 1 = .ok (.iload_n 1, 1) := by decide +kernel
theorem d_Mo_lacks_2 : decode b_Mo_lacks 2 = .ok (.invokevirtual 102, 3) := by decide +kernel
theorem d_Mo_lacks_5 : decode b_Mo_lacks 5 = .ok (.ifCond .ne 9, 3) := by decide +kernel
theorem d_Mo_lacks_8 : decode b_Mo_lacks 8 = .ok (.aload_n 0, 1) := by decide +kernel
theorem d_Mo_lacks_9 : decode b_Mo_lacks 9 = .ok (.iconst 1, 1) := by decide +kernel
theorem d_Mo_lacks_10 : decode b_Mo_lacks 10 = .ok (.invokevirtual 94, 3) := by decide +kernel
theorem d_Mo_lacks_13 : decode b_Mo_lacks 13 = .ok (.ireturn, 1) := by decide +kernel
theorem d_Mo_lacks_14 : decode b_Mo_lacks 14 = .ok (.aload_n 0, 1) := by decide +kernel
theorem d_Mo_lacks_15 : decode b_Mo_lacks 15 = .ok (.iconst 0, 1) := by decide +kernel
theorem d_Mo_lacks_16 : decode b_Mo_lacks 16 = .ok (.putfield 87, 3) := by decide +kernel
theorem d_Mo_lacks_19 : decode b_Mo_lacks 19 = .ok (.aload_n 0, 1) := by decide +kernel
theorem d_Mo_lacks_20 : decode b_Mo_lacks 20 = .ok (.getfield 26, 3) := by decide +kernel
theorem d_Mo_lacks_23 : decode b_Mo_lacks 23 = .ok (.iload_n 1, 1) := by decide +kernel
theorem d_Mo_lacks_24 : decode b_Mo_lacks 24 = .ok (.iaload, 1) := by decide +kernel
theorem d_Mo_lacks_25 : decode b_Mo_lacks 25 = .ok (.ireturn, 1) := by decide +kernel
theorem d_Mo_atHand_0 : decode b_Mo_atHand 0 = .ok (.aload_n 0, 1) := by decide +kernel
theorem d_Mo_atHand_1 : decode b_Mo_atHand 1 = .ok (.iconst 0, 1) := by decide +kernel
theorem d_Mo_atHand_2 : decode b_Mo_atHand 2 = .ok (.putfield 148, 3) := by decide +kernel
theorem d_Mo_atHand_5 : decode b_Mo_atHand 5 = .ok (.aload_n 0, 1) := by decide +kernel
theorem d_Mo_atHand_6 : decode b_Mo_atHand 6 = .ok (.iload_n 1, 1) := by decide +kernel
theorem d_Mo_atHand_7 : decode b_Mo_atHand 7 = .ok (.putfield 151, 3) := by decide +kernel
theorem d_Mo_atHand_10 : decode b_Mo_atHand 10 = .ok (.aload_n 0, 1) := by decide +kernel
theorem d_Mo_atHand_11 : decode b_Mo_atHand 11 = .ok (.iload_n 2, 1) := by decide +kernel
theorem d_Mo_atHand_12 : decode b_Mo_atHand 12 = .ok (.putfield 154, 3) := by decide +kernel
theorem d_Mo_atHand_15 : decode b_Mo_atHand 15 = .ok (.return_, 1) := by decide +kernel
theorem d_Mo_begin_0 : decode b_Mo_begin 0 = .ok (.aload_n 0, 1) := by decide +kernel
theorem d_Mo_begin_1 : decode b_Mo_begin 1 = .ok (.iload_n 1, 1) := by decide +kernel
theorem d_Mo_begin_2 : decode b_Mo_begin 2 = .ok (.invokevirtual 102, 3) := by decide +kernel
theorem d_Mo_begin_5 : decode b_Mo_begin 5 = .ok (.ifCond .ne 9, 3) := by decide +kernel
theorem d_Mo_begin_8 : decode b_Mo_begin 8 = .ok (.aload_n 0, 1) := by decide +kernel
theorem d_Mo_begin_9 : decode b_Mo_begin 9 = .ok (.iconst 1, 1) := by decide +kernel
theorem d_Mo_begin_10 : decode b_Mo_begin 10 = .ok (.putfield 87, 3) := by decide +kernel
theorem d_Mo_begin_13 : decode b_Mo_begin 13 = .ok (.return_, 1) := by decide +kernel
theorem d_Mo_begin_14 : decode b_Mo_begin 14 = .ok (.aload_n 0, 1) := by decide +kernel
theorem d_Mo_begin_15 : decode b_Mo_begin 15 = .ok (.getfield 26, 3) := by decide +kernel
theorem d_Mo_begin_18 : decode b_Mo_begin 18 = .ok (.iload_n 1, 1) := by decide +kernel
theorem d_Mo_begin_19 : decode b_Mo_begin 19 = .ok (.iaload, 1) := by decide +kernel
theorem d_Mo_begin_20 : decode b_Mo_begin 20 = .ok (.ifCond .le 9, 3) := by decide +kernel
theorem d_Mo_begin_23 : decode b_Mo_begin 23 = .ok (.aload_n 0, 1) := by decide +kernel
theorem d_Mo_begin_24 : decode b_Mo_begin 24 = .ok (.iconst 2, 1) := by decide +kernel
theorem d_Mo_begin_25 : decode b_Mo_begin 25 = .ok (.putfield 87, 3) := by decide +kernel
theorem d_Mo_begin_28 : decode b_Mo_begin 28 = .ok (.return_, 1) := by decide +kernel
theorem d_Mo_begin_29 : decode b_Mo_begin 29 = .ok (.aload_n 0, 1) := by decide +kernel
theorem d_Mo_begin_30 : decode b_Mo_begin 30 = .ok (.iconst 0, 1) := by decide +kernel
theorem d_Mo_begin_31 : decode b_Mo_begin 31 = .ok (.putfield 87, 3) := by decide +kernel
theorem d_Mo_begin_34 : decode b_Mo_begin 34 = .ok (.aload_n 0, 1) := by decide +kernel
theorem d_Mo_begin_35 : decode b_Mo_begin 35 = .ok (.iconst 0, 1) := by decide +kernel
theorem d_Mo_begin_36 : decode b_Mo_begin 36 = .ok (.putfield 113, 3) := by decide +kernel
theorem d_Mo_begin_39 : decode b_Mo_begin 39 = .ok (.aload_n 0, 1) := by decide +kernel
theorem d_Mo_begin_40 : decode b_Mo_begin 40 = .ok (.iconst 0, 1) := by decide +kernel
theorem d_Mo_begin_41 : decode b_Mo_begin 41 = .ok (.putfield 116, 3) := by decide +kernel
theorem d_Mo_begin_44 : decode b_Mo_begin 44 = .ok (.aload_n 0, 1) := by decide +kernel
theorem d_Mo_begin_45 : decode b_Mo_begin 45 = .ok (.iconst 0, 1) := by decide +kernel
theorem d_Mo_begin_46 : decode b_Mo_begin 46 = .ok (.putfield 119, 3) := by decide +kernel
theorem d_Mo_begin_49 : decode b_Mo_begin 49 = .ok (.aload_n 0, 1) := by decide +kernel
theorem d_Mo_begin_50 : decode b_Mo_begin 50 = .ok (.iconst 0, 1) := by decide +kernel
theorem d_Mo_begin_51 : decode b_Mo_begin 51 = .ok (.putfield 122, 3) := by decide +kernel
theorem d_Mo_begin_54 : decode b_Mo_begin 54 = .ok (.aload_n 0, 1) := by decide +kernel
theorem d_Mo_begin_55 : decode b_Mo_begin 55 = .ok (.iconst 0, 1) := by decide +kernel
theorem d_Mo_begin_56 : decode b_Mo_begin 56 = .ok (.putfield 125, 3) := by decide +kernel
theorem d_Mo_begin_59 : decode b_Mo_begin 59 = .ok (.aload_n 0, 1) := by decide +kernel
theorem d_Mo_begin_60 : decode b_Mo_begin 60 = .ok (.iconst 0, 1) := by decide +kernel
theorem d_Mo_begin_61 : decode b_Mo_begin 61 = .ok (.putfield 128, 3) := by decide +kernel
theorem d_Mo_begin_64 : decode b_Mo_begin 64 = .ok (.aload_n 0, 1) := by decide +kernel
theorem d_Mo_begin_65 : decode b_Mo_begin 65 = .ok (.iconst 0, 1) := by decide +kernel
theorem d_Mo_begin_66 : decode b_Mo_begin 66 = .ok (.putfield 131, 3) := by decide +kernel
theorem d_Mo_begin_69 : decode b_Mo_begin 69 = .ok (.aload_n 0, 1) := by decide +kernel
theorem d_Mo_begin_70 : decode b_Mo_begin 70 = .ok (.iconst 0, 1) := by decide +kernel
theorem d_Mo_begin_71 : decode b_Mo_begin 71 = .ok (.putfield 134, 3) := by decide +kernel
theorem d_Mo_begin_74 : decode b_Mo_begin 74 = .ok (.aload_n 0, 1) := by decide +kernel
theorem d_Mo_begin_75 : decode b_Mo_begin 75 = .ok (.iload_n 2, 1) := by decide +kernel
theorem d_Mo_begin_76 : decode b_Mo_begin 76 = .ok (.putfield 137, 3) := by decide +kernel
theorem d_Mo_begin_79 : decode b_Mo_begin 79 = .ok (.aload_n 0, 1) := by decide +kernel
theorem d_Mo_begin_80 : decode b_Mo_begin 80 = .ok (.iconst 1, 1) := by decide +kernel
theorem d_Mo_begin_81 : decode b_Mo_begin 81 = .ok (.putfield 141, 3) := by decide +kernel
theorem d_Mo_begin_84 : decode b_Mo_begin 84 = .ok (.aload_n 0, 1) := by decide +kernel
theorem d_Mo_begin_85 : decode b_Mo_begin 85 = .ok (.iload_n 1, 1) := by decide +kernel
theorem d_Mo_begin_86 : decode b_Mo_begin 86 = .ok (.iconst (-1), 1) := by decide +kernel
theorem d_Mo_begin_87 : decode b_Mo_begin 87 = .ok (.invokevirtual 144, 3) := by decide +kernel
theorem d_Mo_begin_90 : decode b_Mo_begin 90 = .ok (.return_, 1) := by decide +kernel
theorem d_Mo_valueAtHand_0 : decode b_Mo_valueAtHand 0 = .ok (.aload_n 0, 1) := by decide +kernel
theorem d_Mo_valueAtHand_1 : decode b_Mo_valueAtHand 1 = .ok (.iconst 1, 1) := by decide +kernel
theorem d_Mo_valueAtHand_2 : decode b_Mo_valueAtHand 2 = .ok (.putfield 148, 3) := by decide +kernel
theorem d_Mo_valueAtHand_5 : decode b_Mo_valueAtHand 5 = .ok (.aload_n 0, 1) := by decide +kernel
theorem d_Mo_valueAtHand_6 : decode b_Mo_valueAtHand 6 = .ok (.iload_n 1, 1) := by decide +kernel
theorem d_Mo_valueAtHand_7 : decode b_Mo_valueAtHand 7 = .ok (.putfield 157, 3) := by decide +kernel
theorem d_Mo_valueAtHand_10 : decode b_Mo_valueAtHand 10 = .ok (.aload_n 0, 1) := by decide +kernel
theorem d_Mo_valueAtHand_11 : decode b_Mo_valueAtHand 11 = .ok (.lload_n 2, 1) := by decide +kernel
theorem d_Mo_valueAtHand_12 : decode b_Mo_valueAtHand 12 = .ok (.putfield 160, 3) := by decide +kernel
theorem d_Mo_valueAtHand_15 : decode b_Mo_valueAtHand 15 = .ok (.aload_n 0, 1) := by decide +kernel
theorem d_Mo_valueAtHand_16 : decode b_Mo_valueAtHand 16 = .ok (.iload 4, 2) := by decide +kernel
theorem d_Mo_valueAtHand_18 : decode b_Mo_valueAtHand 18 = .ok (.putfield 164, 3) := by decide +kernel
theorem d_Mo_valueAtHand_21 : decode b_Mo_valueAtHand 21 = .ok (.aload_n 0, 1) := by decide +kernel
theorem d_Mo_valueAtHand_22 : decode b_Mo_valueAtHand 22 = .ok (.iload 5, 2) := by decide +kernel
theorem d_Mo_valueAtHand_24 : decode b_Mo_valueAtHand 24 = .ok (.putfield 167, 3) := by decide +kernel
theorem d_Mo_valueAtHand_27 : decode b_Mo_valueAtHand 27 = .ok (.return_, 1) := by decide +kernel
theorem d_Mo_reach_0 : decode b_Mo_reach 0 = .ok (.aload_n 0, 1) := by decide +kernel
theorem d_Mo_reach_1 : decode b_Mo_reach 1 = .ok (.getfield 78, 3) := by decide +kernel
theorem d_Mo_reach_4 : decode b_Mo_reach 4 = .ok (.iload_n 1, 1) := by decide +kernel
theorem d_Mo_reach_5 : decode b_Mo_reach 5 = .ok (.baload, 1) := by decide +kernel
theorem d_Mo_reach_6 : decode b_Mo_reach 6 = .ok (.ifCond .ne 30, 3) := by decide +kernel
theorem d_Mo_reach_9 : decode b_Mo_reach 9 = .ok (.aload_n 0, 1) := by decide +kernel
theorem d_Mo_reach_10 : decode b_Mo_reach 10 = .ok (.getfield 78, 3) := by decide +kernel
theorem d_Mo_reach_13 : decode b_Mo_reach 13 = .ok (.iload_n 1, 1) := by decide +kernel
theorem d_Mo_reach_14 : decode b_Mo_reach 14 = .ok (.iconst 1, 1) := by decide +kernel
theorem d_Mo_reach_15 : decode b_Mo_reach 15 = .ok (.bastore, 1) := by decide +kernel
theorem d_Mo_reach_16 : decode b_Mo_reach 16 = .ok (.aload_n 0, 1) := by decide +kernel
theorem d_Mo_reach_17 : decode b_Mo_reach 17 = .ok (.getfield 84, 3) := by decide +kernel
theorem d_Mo_reach_20 : decode b_Mo_reach 20 = .ok (.aload_n 0, 1) := by decide +kernel
theorem d_Mo_reach_21 : decode b_Mo_reach 21 = .ok (.getfield 233, 3) := by decide +kernel
theorem d_Mo_reach_24 : decode b_Mo_reach 24 = .ok (.iload_n 1, 1) := by decide +kernel
theorem d_Mo_reach_25 : decode b_Mo_reach 25 = .ok (.iastore, 1) := by decide +kernel
theorem d_Mo_reach_26 : decode b_Mo_reach 26 = .ok (.aload_n 0, 1) := by decide +kernel
theorem d_Mo_reach_27 : decode b_Mo_reach 27 = .ok (.dup, 1) := by decide +kernel
theorem d_Mo_reach_28 : decode b_Mo_reach 28 = .ok (.getfield 233, 3) := by decide +kernel
theorem d_Mo_reach_31 : decode b_Mo_reach 31 = .ok (.iconst 1, 1) := by decide +kernel
theorem d_Mo_reach_32 : decode b_Mo_reach 32 = .ok (.iadd, 1) := by decide +kernel
theorem d_Mo_reach_33 : decode b_Mo_reach 33 = .ok (.putfield 233, 3) := by decide +kernel
theorem d_Mo_reach_36 : decode b_Mo_reach 36 = .ok (.return_, 1) := by decide +kernel
theorem d_Mo_reachPlaces_0 : decode b_Mo_reachPlaces 0 = .ok (.iload_n 1, 1) := by decide +kernel
theorem d_Mo_reachPlaces_1 : decode b_Mo_reachPlaces 1 = .ok (.istore_n 2, 1) := by decide +kernel
theorem d_Mo_reachPlaces_2 : decode b_Mo_reachPlaces 2 = .ok (.iload_n 2, 1) := by decide +kernel
theorem d_Mo_reachPlaces_3 : decode b_Mo_reachPlaces 3 = .ok (.ifCond .lt 39, 3) := by decide +kernel
theorem d_Mo_reachPlaces_6 : decode b_Mo_reachPlaces 6 = .ok (.aload_n 0, 1) := by decide +kernel
theorem d_Mo_reachPlaces_7 : decode b_Mo_reachPlaces 7 = .ok (.getfield 81, 3) := by decide +kernel
theorem d_Mo_reachPlaces_10 : decode b_Mo_reachPlaces 10 = .ok (.iload_n 2, 1) := by decide +kernel
theorem d_Mo_reachPlaces_11 : decode b_Mo_reachPlaces 11 = .ok (.baload, 1) := by decide +kernel
theorem d_Mo_reachPlaces_12 : decode b_Mo_reachPlaces 12 = .ok (.ifCond .ne 30, 3) := by decide +kernel
theorem d_Mo_reachPlaces_15 : decode b_Mo_reachPlaces 15 = .ok (.aload_n 0, 1) := by decide +kernel
theorem d_Mo_reachPlaces_16 : decode b_Mo_reachPlaces 16 = .ok (.getfield 81, 3) := by decide +kernel
theorem d_Mo_reachPlaces_19 : decode b_Mo_reachPlaces 19 = .ok (.iload_n 2, 1) := by decide +kernel
theorem d_Mo_reachPlaces_20 : decode b_Mo_reachPlaces 20 = .ok (.iconst 1, 1) := by decide +kernel
theorem d_Mo_reachPlaces_21 : decode b_Mo_reachPlaces 21 = .ok (.bastore, 1) := by decide +kernel
theorem d_Mo_reachPlaces_22 : decode b_Mo_reachPlaces 22 = .ok (.aload_n 0, 1) := by decide +kernel
theorem d_Mo_reachPlaces_23 : decode b_Mo_reachPlaces 23 = .ok (.aload_n 0, 1) := by decide +kernel
theorem d_Mo_reachPlaces_24 : decode b_Mo_reachPlaces 24 = .ok (.getfield 60, 3) := by decide +kernel
theorem d_Mo_reachPlaces_27 : decode b_Mo_reachPlaces 27 = .ok (.iload_n 2, 1) := by decide +kernel
theorem d_Mo_reachPlaces_28 : decode b_Mo_reachPlaces 28 = .ok (.iaload, 1) := by decide +kernel
theorem d_Mo_reachPlaces_29 : decode b_Mo_reachPlaces 29 = .ok (.invokevirtual 236, 3) := by decide +kernel
theorem d_Mo_reachPlaces_32 : decode b_Mo_reachPlaces 32 = .ok (.aload_n 0, 1) := by decide +kernel
theorem d_Mo_reachPlaces_33 : decode b_Mo_reachPlaces 33 = .ok (.getfield 63, 3) := by decide +kernel
theorem d_Mo_reachPlaces_36 : decode b_Mo_reachPlaces 36 = .ok (.iload_n 2, 1) := by decide +kernel
theorem d_Mo_reachPlaces_37 : decode b_Mo_reachPlaces 37 = .ok (.iaload, 1) := by decide +kernel
theorem d_Mo_reachPlaces_38 : decode b_Mo_reachPlaces 38 = .ok (.istore_n 2, 1) := by decide +kernel
theorem d_Mo_reachPlaces_39 : decode b_Mo_reachPlaces 39 = .ok (.goto (-37), 3) := by decide +kernel
theorem d_Mo_reachPlaces_42 : decode b_Mo_reachPlaces 42 = .ok (.return_, 1) := by decide +kernel
theorem d_Mo_reachValue_0 : decode b_Mo_reachValue 0 = .ok (.iload_n 1, 1) := by decide +kernel
theorem d_Mo_reachValue_1 : decode b_Mo_reachValue 1 = .ok (.iconst 1, 1) := by decide +kernel
theorem d_Mo_reachValue_2 : decode b_Mo_reachValue 2 = .ok (.if_icmp .ne 11, 3) := by decide +kernel
theorem d_Mo_reachValue_5 : decode b_Mo_reachValue 5 = .ok (.aload_n 0, 1) := by decide +kernel
theorem d_Mo_reachValue_6 : decode b_Mo_reachValue 6 = .ok (.iload_n 3, 1) := by decide +kernel
theorem d_Mo_reachValue_7 : decode b_Mo_reachValue 7 = .ok (.invokevirtual 240, 3) := by decide +kernel
theorem d_Mo_reachValue_10 : decode b_Mo_reachValue 10 = .ok (.goto 18, 3) := by decide +kernel
theorem d_Mo_reachValue_13 : decode b_Mo_reachValue 13 = .ok (.iload_n 1, 1) := by decide +kernel
theorem d_Mo_reachValue_14 : decode b_Mo_reachValue 14 = .ok (.iconst 2, 1) := by decide +kernel
theorem d_Mo_reachValue_15 : decode b_Mo_reachValue 15 = .ok (.if_icmp .ne 13, 3) := by decide +kernel
theorem d_Mo_reachValue_18 : decode b_Mo_reachValue 18 = .ok (.aload_n 0, 1) := by decide +kernel
theorem d_Mo_reachValue_19 : decode b_Mo_reachValue 19 = .ok (.iload_n 2, 1) := by decide +kernel
theorem d_Mo_reachValue_20 : decode b_Mo_reachValue 20 = .ok (.invokevirtual 236, 3) := by decide +kernel
theorem d_Mo_reachValue_23 : decode b_Mo_reachValue 23 = .ok (.aload_n 0, 1) := by decide +kernel
theorem d_Mo_reachValue_24 : decode b_Mo_reachValue 24 = .ok (.iload_n 3, 1) := by decide +kernel
theorem d_Mo_reachValue_25 : decode b_Mo_reachValue 25 = .ok (.invokevirtual 236, 3) := by decide +kernel
theorem d_Mo_reachValue_28 : decode b_Mo_reachValue 28 = .ok (.return_, 1) := by decide +kernel
theorem d_Mo_reachHand_0 : decode b_Mo_reachHand 0 = .ok (.aload_n 0, 1) := by decide +kernel
theorem d_Mo_reachHand_1 : decode b_Mo_reachHand 1 = .ok (.getfield 148, 3) := by decide +kernel
theorem d_Mo_reachHand_4 : decode b_Mo_reachHand 4 = .ok (.ifCond .ne 14, 3) := by decide +kernel
theorem d_Mo_reachHand_7 : decode b_Mo_reachHand 7 = .ok (.aload_n 0, 1) := by decide +kernel
theorem d_Mo_reachHand_8 : decode b_Mo_reachHand 8 = .ok (.aload_n 0, 1) := by decide +kernel
theorem d_Mo_reachHand_9 : decode b_Mo_reachHand 9 = .ok (.getfield 154, 3) := by decide +kernel
theorem d_Mo_reachHand_12 : decode b_Mo_reachHand 12 = .ok (.invokevirtual 240, 3) := by decide +kernel
theorem d_Mo_reachHand_15 : decode b_Mo_reachHand 15 = .ok (.goto 38, 3) := by decide +kernel
theorem d_Mo_reachHand_18 : decode b_Mo_reachHand 18 = .ok (.aload_n 0, 1) := by decide +kernel
theorem d_Mo_reachHand_19 : decode b_Mo_reachHand 19 = .ok (.getfield 148, 3) := by decide +kernel
theorem d_Mo_reachHand_22 : decode b_Mo_reachHand 22 = .ok (.iconst 1, 1) := by decide +kernel
theorem d_Mo_reachHand_23 : decode b_Mo_reachHand 23 = .ok (.if_icmp .ne 22, 3) := by decide +kernel
theorem d_Mo_reachHand_26 : decode b_Mo_reachHand 26 = .ok (.aload_n 0, 1) := by decide +kernel
theorem d_Mo_reachHand_27 : decode b_Mo_reachHand 27 = .ok (.aload_n 0, 1) := by decide +kernel
theorem d_Mo_reachHand_28 : decode b_Mo_reachHand 28 = .ok (.getfield 157, 3) := by decide +kernel
theorem d_Mo_reachHand_31 : decode b_Mo_reachHand 31 = .ok (.aload_n 0, 1) := by decide +kernel
theorem d_Mo_reachHand_32 : decode b_Mo_reachHand 32 = .ok (.getfield 164, 3) := by decide +kernel
theorem d_Mo_reachHand_35 : decode b_Mo_reachHand 35 = .ok (.aload_n 0, 1) := by decide +kernel
theorem d_Mo_reachHand_36 : decode b_Mo_reachHand 36 = .ok (.getfield 167, 3) := by decide +kernel
theorem d_Mo_reachHand_39 : decode b_Mo_reachHand 39 = .ok (.invokevirtual 243, 3) := by decide +kernel
theorem d_Mo_reachHand_42 : decode b_Mo_reachHand 42 = .ok (.goto 11, 3) := by decide +kernel
theorem d_Mo_reachHand_45 : decode b_Mo_reachHand 45 = .ok (.aload_n 0, 1) := by decide +kernel
theorem d_Mo_reachHand_46 : decode b_Mo_reachHand 46 = .ok (.aload_n 0, 1) := by decide +kernel
theorem d_Mo_reachHand_47 : decode b_Mo_reachHand 47 = .ok (.getfield 180, 3) := by decide +kernel
theorem d_Mo_reachHand_50 : decode b_Mo_reachHand 50 = .ok (.invokevirtual 236, 3) := by decide +kernel
theorem d_Mo_reachHand_53 : decode b_Mo_reachHand 53 = .ok (.iconst 0, 1) := by decide +kernel
theorem d_Mo_reachHand_54 : decode b_Mo_reachHand 54 = .ok (.istore_n 1, 1) := by decide +kernel
theorem d_Mo_reachHand_55 : decode b_Mo_reachHand 55 = .ok (.iload_n 1, 1) := by decide +kernel
theorem d_Mo_reachHand_56 : decode b_Mo_reachHand 56 = .ok (.aload_n 0, 1) := by decide +kernel
theorem d_Mo_reachHand_57 : decode b_Mo_reachHand 57 = .ok (.getfield 122, 3) := by decide +kernel
theorem d_Mo_reachHand_60 : decode b_Mo_reachHand 60 = .ok (.if_icmp .ge 62, 3) := by decide +kernel
theorem d_Mo_reachHand_63 : decode b_Mo_reachHand 63 = .ok (.aload_n 0, 1) := by decide +kernel
theorem d_Mo_reachHand_64 : decode b_Mo_reachHand 64 = .ok (.getfield 66, 3) := by decide +kernel
theorem d_Mo_reachHand_67 : decode b_Mo_reachHand 67 = .ok (.iload_n 1, 1) := by decide +kernel
theorem d_Mo_reachHand_68 : decode b_Mo_reachHand 68 = .ok (.iaload, 1) := by decide +kernel
theorem d_Mo_reachHand_69 : decode b_Mo_reachHand 69 = .ok (.iconst 2, 1) := by decide +kernel
theorem d_Mo_reachHand_70 : decode b_Mo_reachHand 70 = .ok (.if_icmp .ge 16, 3) := by decide +kernel
theorem d_Mo_reachHand_73 : decode b_Mo_reachHand 73 = .ok (.aload_n 0, 1) := by decide +kernel
theorem d_Mo_reachHand_74 : decode b_Mo_reachHand 74 = .ok (.aload_n 0, 1) := by decide +kernel
theorem d_Mo_reachHand_75 : decode b_Mo_reachHand 75 = .ok (.getfield 69, 3) := by decide +kernel
theorem d_Mo_reachHand_78 : decode b_Mo_reachHand 78 = .ok (.iload_n 1, 1) := by decide +kernel
theorem d_Mo_reachHand_79 : decode b_Mo_reachHand 79 = .ok (.iaload, 1) := by decide +kernel
theorem d_Mo_reachHand_80 : decode b_Mo_reachHand 80 = .ok (.invokevirtual 236, 3) := by decide +kernel
theorem d_Mo_reachHand_83 : decode b_Mo_reachHand 83 = .ok (.goto 33, 3) := by decide +kernel
theorem d_Mo_reachHand_86 : decode b_Mo_reachHand 86 = .ok (.aload_n 0, 1) := by decide +kernel
theorem d_Mo_reachHand_87 : decode b_Mo_reachHand 87 = .ok (.getfield 66, 3) := by decide +kernel
theorem d_Mo_reachHand_90 : decode b_Mo_reachHand 90 = .ok (.iload_n 1, 1) := by decide +kernel
theorem d_Mo_reachHand_91 : decode b_Mo_reachHand 91 = .ok (.iaload, 1) := by decide +kernel
theorem d_Mo_reachHand_92 : decode b_Mo_reachHand 92 = .ok (.iconst 2, 1) := by decide +kernel
theorem d_Mo_reachHand_93 : decode b_Mo_reachHand 93 = .ok (.if_icmp .eq 13, 3) := by decide +kernel
theorem d_Mo_reachHand_96 : decode b_Mo_reachHand 96 = .ok (.aload_n 0, 1) := by decide +kernel
theorem d_Mo_reachHand_97 : decode b_Mo_reachHand 97 = .ok (.getfield 66, 3) := by decide +kernel
theorem d_Mo_reachHand_100 : decode b_Mo_reachHand 100 = .ok (.iload_n 1, 1) := by decide +kernel
theorem d_Mo_reachHand_101 : decode b_Mo_reachHand 101 = .ok (.iaload, 1) := by decide +kernel
theorem d_Mo_reachHand_102 : decode b_Mo_reachHand 102 = .ok (.iconst 4, 1) := by decide +kernel
theorem d_Mo_reachHand_103 : decode b_Mo_reachHand 103 = .ok (.if_icmp .ne 13, 3) := by decide +kernel
theorem d_Mo_reachHand_106 : decode b_Mo_reachHand 106 = .ok (.aload_n 0, 1) := by decide +kernel
theorem d_Mo_reachHand_107 : decode b_Mo_reachHand 107 = .ok (.aload_n 0, 1) := by decide +kernel
theorem d_Mo_reachHand_108 : decode b_Mo_reachHand 108 = .ok (.getfield 72, 3) := by decide +kernel
theorem d_Mo_reachHand_111 : decode b_Mo_reachHand 111 = .ok (.iload_n 1, 1) := by decide +kernel
theorem d_Mo_reachHand_112 : decode b_Mo_reachHand 112 = .ok (.iaload, 1) := by decide +kernel
theorem d_Mo_reachHand_113 : decode b_Mo_reachHand 113 = .ok (.invokevirtual 240, 3) := by decide +kernel
theorem d_Mo_reachHand_116 : decode b_Mo_reachHand 116 = .ok (.iinc 1 1, 3) := by decide +kernel
theorem d_Mo_reachHand_119 : decode b_Mo_reachHand 119 = .ok (.goto (-64), 3) := by decide +kernel
theorem d_Mo_reachHand_122 : decode b_Mo_reachHand 122 = .ok (.return_, 1) := by decide +kernel
theorem d_Mo_sweep_0 : decode b_Mo_sweep 0 = .ok (.iconst 0, 1) := by decide +kernel
theorem d_Mo_sweep_1 : decode b_Mo_sweep 1 = .ok (.istore_n 1, 1) := by decide +kernel
theorem d_Mo_sweep_2 : decode b_Mo_sweep 2 = .ok (.iload_n 1, 1) := by decide +kernel
theorem d_Mo_sweep_3 : decode b_Mo_sweep 3 = .ok (.aload_n 0, 1) := by decide +kernel
theorem d_Mo_sweep_4 : decode b_Mo_sweep 4 = .ok (.getfield 113, 3) := by decide +kernel
theorem d_Mo_sweep_7 : decode b_Mo_sweep 7 = .ok (.if_icmp .ge 16, 3) := by decide +kernel
theorem d_Mo_sweep_10 : decode b_Mo_sweep 10 = .ok (.aload_n 0, 1) := by decide +kernel
theorem d_Mo_sweep_11 : decode b_Mo_sweep 11 = .ok (.getfield 78, 3) := by decide +kernel
theorem d_Mo_sweep_14 : decode b_Mo_sweep 14 = .ok (.iload_n 1, 1) := by decide +kernel
theorem d_Mo_sweep_15 : decode b_Mo_sweep 15 = .ok (.iconst 0, 1) := by decide +kernel
theorem d_Mo_sweep_16 : decode b_Mo_sweep 16 = .ok (.bastore, 1) := by decide +kernel
theorem d_Mo_sweep_17 : decode b_Mo_sweep 17 = .ok (.iinc 1 1, 3) := by decide +kernel
theorem d_Mo_sweep_20 : decode b_Mo_sweep 20 = .ok (.goto (-18), 3) := by decide +kernel
theorem d_Mo_sweep_23 : decode b_Mo_sweep 23 = .ok (.iconst 0, 1) := by decide +kernel
theorem d_Mo_sweep_24 : decode b_Mo_sweep 24 = .ok (.istore_n 1, 1) := by decide +kernel
theorem d_Mo_sweep_25 : decode b_Mo_sweep 25 = .ok (.iload_n 1, 1) := by decide +kernel
theorem d_Mo_sweep_26 : decode b_Mo_sweep 26 = .ok (.aload_n 0, 1) := by decide +kernel
theorem d_Mo_sweep_27 : decode b_Mo_sweep 27 = .ok (.getfield 119, 3) := by decide +kernel
theorem d_Mo_sweep_30 : decode b_Mo_sweep 30 = .ok (.if_icmp .ge 16, 3) := by decide +kernel
theorem d_Mo_sweep_33 : decode b_Mo_sweep 33 = .ok (.aload_n 0, 1) := by decide +kernel
theorem d_Mo_sweep_34 : decode b_Mo_sweep 34 = .ok (.getfield 81, 3) := by decide +kernel
theorem d_Mo_sweep_37 : decode b_Mo_sweep 37 = .ok (.iload_n 1, 1) := by decide +kernel
theorem d_Mo_sweep_38 : decode b_Mo_sweep 38 = .ok (.iconst 0, 1) := by decide +kernel
theorem d_Mo_sweep_39 : decode b_Mo_sweep 39 = .ok (.bastore, 1) := by decide +kernel
theorem d_Mo_sweep_40 : decode b_Mo_sweep 40 = .ok (.iinc 1 1, 3) := by decide +kernel
theorem d_Mo_sweep_43 : decode b_Mo_sweep 43 = .ok (.goto (-18), 3) := by decide +kernel
theorem d_Mo_sweep_46 : decode b_Mo_sweep 46 = .ok (.aload_n 0, 1) := by decide +kernel
theorem d_Mo_sweep_47 : decode b_Mo_sweep 47 = .ok (.iconst 0, 1) := by decide +kernel
theorem d_Mo_sweep_48 : decode b_Mo_sweep 48 = .ok (.putfield 233, 3) := by decide +kernel
theorem d_Mo_sweep_51 : decode b_Mo_sweep 51 = .ok (.aload_n 0, 1) := by decide +kernel
theorem d_Mo_sweep_52 : decode b_Mo_sweep 52 = .ok (.invokevirtual 247, 3) := by decide +kernel
theorem d_Mo_sweep_55 : decode b_Mo_sweep 55 = .ok (.iconst 0, 1) := by decide +kernel
theorem d_Mo_sweep_56 : decode b_Mo_sweep 56 = .ok (.istore_n 1, 1) := by decide +kernel
theorem d_Mo_sweep_57 : decode b_Mo_sweep 57 = .ok (.iload_n 1, 1) := by decide +kernel
theorem d_Mo_sweep_58 : decode b_Mo_sweep 58 = .ok (.aload_n 0, 1) := by decide +kernel
theorem d_Mo_sweep_59 : decode b_Mo_sweep 59 = .ok (.getfield 233, 3) := by decide +kernel
theorem d_Mo_sweep_62 : decode b_Mo_sweep 62 = .ok (.if_icmp .ge 70, 3) := by decide +kernel
theorem d_Mo_sweep_65 : decode b_Mo_sweep 65 = .ok (.aload_n 0, 1) := by decide +kernel
theorem d_Mo_sweep_66 : decode b_Mo_sweep 66 = .ok (.getfield 84, 3) := by decide +kernel
theorem d_Mo_sweep_69 : decode b_Mo_sweep 69 = .ok (.iload_n 1, 1) := by decide +kernel
theorem d_Mo_sweep_70 : decode b_Mo_sweep 70 = .ok (.iaload, 1) := by decide +kernel
theorem d_Mo_sweep_71 : decode b_Mo_sweep 71 = .ok (.istore_n 2, 1) := by decide +kernel
theorem d_Mo_sweep_72 : decode b_Mo_sweep 72 = .ok (.aload_n 0, 1) := by decide +kernel
theorem d_Mo_sweep_73 : decode b_Mo_sweep 73 = .ok (.getfield 29, 3) := by decide +kernel
theorem d_Mo_sweep_76 : decode b_Mo_sweep 76 = .ok (.iload_n 2, 1) := by decide +kernel
theorem d_Mo_sweep_77 : decode b_Mo_sweep 77 = .ok (.iaload, 1) := by decide +kernel
theorem d_Mo_sweep_78 : decode b_Mo_sweep 78 = .ok (.ifCond .ne 16, 3) := by decide +kernel
theorem d_Mo_sweep_81 : decode b_Mo_sweep 81 = .ok (.aload_n 0, 1) := by decide +kernel
theorem d_Mo_sweep_82 : decode b_Mo_sweep 82 = .ok (.aload_n 0, 1) := by decide +kernel
theorem d_Mo_sweep_83 : decode b_Mo_sweep 83 = .ok (.getfield 35, 3) := by decide +kernel
theorem d_Mo_sweep_86 : decode b_Mo_sweep 86 = .ok (.iload_n 2, 1) := by decide +kernel
theorem d_Mo_sweep_87 : decode b_Mo_sweep 87 = .ok (.iaload, 1) := by decide +kernel
theorem d_Mo_sweep_88 : decode b_Mo_sweep 88 = .ok (.invokevirtual 240, 3) := by decide +kernel
theorem d_Mo_sweep_91 : decode b_Mo_sweep 91 = .ok (.goto 35, 3) := by decide +kernel
theorem d_Mo_sweep_94 : decode b_Mo_sweep 94 = .ok (.aload_n 0, 1) := by decide +kernel
theorem d_Mo_sweep_95 : decode b_Mo_sweep 95 = .ok (.getfield 29, 3) := by decide +kernel
theorem d_Mo_sweep_98 : decode b_Mo_sweep 98 = .ok (.iload_n 2, 1) := by decide +kernel
theorem d_Mo_sweep_99 : decode b_Mo_sweep 99 = .ok (.iaload, 1) := by decide +kernel
theorem d_Mo_sweep_100 : decode b_Mo_sweep 100 = .ok (.iconst 2, 1) := by decide +kernel
theorem d_Mo_sweep_101 : decode b_Mo_sweep 101 = .ok (.if_icmp .ne 25, 3) := by decide +kernel
theorem d_Mo_sweep_104 : decode b_Mo_sweep 104 = .ok (.aload_n 0, 1) := by decide +kernel
theorem d_Mo_sweep_105 : decode b_Mo_sweep 105 = .ok (.aload_n 0, 1) := by decide +kernel
theorem d_Mo_sweep_106 : decode b_Mo_sweep 106 = .ok (.getfield 38, 3) := by decide +kernel
theorem d_Mo_sweep_109 : decode b_Mo_sweep 109 = .ok (.iload_n 2, 1) := by decide +kernel
theorem d_Mo_sweep_110 : decode b_Mo_sweep 110 = .ok (.iaload, 1) := by decide +kernel
theorem d_Mo_sweep_111 : decode b_Mo_sweep 111 = .ok (.aload_n 0, 1) := by decide +kernel
theorem d_Mo_sweep_112 : decode b_Mo_sweep 112 = .ok (.getfield 44, 3) := by decide +kernel
theorem d_Mo_sweep_115 : decode b_Mo_sweep 115 = .ok (.iload_n 2, 1) := by decide +kernel
theorem d_Mo_sweep_116 : decode b_Mo_sweep 116 = .ok (.iaload, 1) := by decide +kernel
theorem d_Mo_sweep_117 : decode b_Mo_sweep 117 = .ok (.aload_n 0, 1) := by decide +kernel
theorem d_Mo_sweep_118 : decode b_Mo_sweep 118 = .ok (.getfield 47, 3) := by decide +kernel
theorem d_Mo_sweep_121 : decode b_Mo_sweep 121 = .ok (.iload_n 2, 1) := by decide +kernel
theorem d_Mo_sweep_122 : decode b_Mo_sweep 122 = .ok (.iaload, 1) := by decide +kernel
theorem d_Mo_sweep_123 : decode b_Mo_sweep 123 = .ok (.invokevirtual 243, 3) := by decide +kernel
theorem d_Mo_sweep_126 : decode b_Mo_sweep 126 = .ok (.iinc 1 1, 3) := by decide +kernel
theorem d_Mo_sweep_129 : decode b_Mo_sweep 129 = .ok (.goto (-72), 3) := by decide +kernel
theorem d_Mo_sweep_132 : decode b_Mo_sweep 132 = .ok (.iconst 0, 1) := by decide +kernel
theorem d_Mo_sweep_133 : decode b_Mo_sweep 133 = .ok (.istore_n 1, 1) := by decide +kernel
theorem d_Mo_sweep_134 : decode b_Mo_sweep 134 = .ok (.iconst 0, 1) := by decide +kernel
theorem d_Mo_sweep_135 : decode b_Mo_sweep 135 = .ok (.istore_n 2, 1) := by decide +kernel
theorem d_Mo_sweep_136 : decode b_Mo_sweep 136 = .ok (.iload_n 2, 1) := by decide +kernel
theorem d_Mo_sweep_137 : decode b_Mo_sweep 137 = .ok (.aload_n 0, 1) := by decide +kernel
theorem d_Mo_sweep_138 : decode b_Mo_sweep 138 = .ok (.getfield 113, 3) := by decide +kernel
theorem d_Mo_sweep_141 : decode b_Mo_sweep 141 = .ok (.if_icmp .ge 38, 3) := by decide +kernel
theorem d_Mo_sweep_144 : decode b_Mo_sweep 144 = .ok (.aload_n 0, 1) := by decide +kernel
theorem d_Mo_sweep_145 : decode b_Mo_sweep 145 = .ok (.getfield 78, 3) := by decide +kernel
theorem d_Mo_sweep_148 : decode b_Mo_sweep 148 = .ok (.iload_n 2, 1) := by decide +kernel
theorem d_Mo_sweep_149 : decode b_Mo_sweep 149 = .ok (.baload, 1) := by decide +kernel
theorem d_Mo_sweep_150 : decode b_Mo_sweep 150 = .ok (.ifCond .ne 23, 3) := by decide +kernel
theorem d_Mo_sweep_153 : decode b_Mo_sweep 153 = .ok (.aload_n 0, 1) := by decide +kernel
theorem d_Mo_sweep_154 : decode b_Mo_sweep 154 = .ok (.getfield 29, 3) := by decide +kernel
theorem d_Mo_sweep_157 : decode b_Mo_sweep 157 = .ok (.iload_n 2, 1) := by decide +kernel
theorem d_Mo_sweep_158 : decode b_Mo_sweep 158 = .ok (.iaload, 1) := by decide +kernel
theorem d_Mo_sweep_159 : decode b_Mo_sweep 159 = .ok (.iconst 3, 1) := by decide +kernel
theorem d_Mo_sweep_160 : decode b_Mo_sweep 160 = .ok (.if_icmp .eq 13, 3) := by decide +kernel
theorem d_Mo_sweep_163 : decode b_Mo_sweep 163 = .ok (.aload_n 0, 1) := by decide +kernel
theorem d_Mo_sweep_164 : decode b_Mo_sweep 164 = .ok (.getfield 29, 3) := by decide +kernel
theorem d_Mo_sweep_167 : decode b_Mo_sweep 167 = .ok (.iload_n 2, 1) := by decide +kernel
theorem d_Mo_sweep_168 : decode b_Mo_sweep 168 = .ok (.iconst 3, 1) := by decide +kernel
theorem d_Mo_sweep_169 : decode b_Mo_sweep 169 = .ok (.iastore, 1) := by decide +kernel
theorem d_Mo_sweep_170 : decode b_Mo_sweep 170 = .ok (.iinc 1 1, 3) := by decide +kernel
theorem d_Mo_sweep_173 : decode b_Mo_sweep 173 = .ok (.iinc 2 1, 3) := by decide +kernel
theorem d_Mo_sweep_176 : decode b_Mo_sweep 176 = .ok (.goto (-40), 3) := by decide +kernel
theorem d_Mo_sweep_179 : decode b_Mo_sweep 179 = .ok (.aload_n 0, 1) := by decide +kernel
theorem d_Mo_sweep_180 : decode b_Mo_sweep 180 = .ok (.dup, 1) := by decide +kernel
theorem d_Mo_sweep_181 : decode b_Mo_sweep 181 = .ok (.getfield 116, 3) := by decide +kernel
theorem d_Mo_sweep_184 : decode b_Mo_sweep 184 = .ok (.iload_n 1, 1) := by decide +kernel
theorem d_Mo_sweep_185 : decode b_Mo_sweep 185 = .ok (.isub, 1) := by decide +kernel
theorem d_Mo_sweep_186 : decode b_Mo_sweep 186 = .ok (.putfield 116, 3) := by decide +kernel
theorem d_Mo_sweep_189 : decode b_Mo_sweep 189 = .ok (.iload_n 1, 1) := by decide +kernel
theorem d_Mo_sweep_190 : decode b_Mo_sweep 190 = .ok (.ireturn, 1) := by decide +kernel
theorem d_Mo_latestInWork_0 : decode b_Mo_latestInWork 0 = .ok (.aload_n 0, 1) := by decide +kernel
theorem d_Mo_latestInWork_1 : decode b_Mo_latestInWork 1 = .ok (.getfield 122, 3) := by decide +kernel
theorem d_Mo_latestInWork_4 : decode b_Mo_latestInWork 4 = .ok (.iconst 1, 1) := by decide +kernel
theorem d_Mo_latestInWork_5 : decode b_Mo_latestInWork 5 = .ok (.isub, 1) := by decide +kernel
theorem d_Mo_latestInWork_6 : decode b_Mo_latestInWork 6 = .ok (.istore_n 1, 1) := by decide +kernel
theorem d_Mo_latestInWork_7 : decode b_Mo_latestInWork 7 = .ok (.iload_n 1, 1) := by decide +kernel
theorem d_Mo_latestInWork_8 : decode b_Mo_latestInWork 8 = .ok (.ifCond .lt 18, 3) := by decide +kernel
theorem d_Mo_latestInWork_11 : decode b_Mo_latestInWork 11 = .ok (.aload_n 0, 1) := by decide +kernel
theorem d_Mo_latestInWork_12 : decode b_Mo_latestInWork 12 = .ok (.getfield 66, 3) := by decide +kernel
theorem d_Mo_latestInWork_15 : decode b_Mo_latestInWork 15 = .ok (.iload_n 1, 1) := by decide +kernel
theorem d_Mo_latestInWork_16 : decode b_Mo_latestInWork 16 = .ok (.iaload, 1) := by decide +kernel
theorem d_Mo_latestInWork_17 : decode b_Mo_latestInWork 17 = .ok (.ifCond .eq 9, 3) := by decide +kernel
theorem d_Mo_latestInWork_20 : decode b_Mo_latestInWork 20 = .ok (.iinc 1 (-1), 3) := by decide +kernel
theorem d_Mo_latestInWork_23 : decode b_Mo_latestInWork 23 = .ok (.goto (-16), 3) := by decide +kernel
theorem d_Mo_latestInWork_26 : decode b_Mo_latestInWork 26 = .ok (.iload_n 1, 1) := by decide +kernel
theorem d_Mo_latestInWork_27 : decode b_Mo_latestInWork 27 = .ok (.ifCond .ge 7, 3) := by decide +kernel
theorem d_Mo_latestInWork_30 : decode b_Mo_latestInWork 30 = .ok (.iconst (-1), 1) := by decide +kernel
theorem d_Mo_latestInWork_31 : decode b_Mo_latestInWork 31 = .ok (.goto 9, 3) := by decide +kernel
theorem d_Mo_latestInWork_34 : decode b_Mo_latestInWork 34 = .ok (.aload_n 0, 1) := by decide +kernel
theorem d_Mo_latestInWork_35 : decode b_Mo_latestInWork 35 = .ok (.getfield 69, 3) := by decide +kernel
theorem d_Mo_latestInWork_38 : decode b_Mo_latestInWork 38 = .ok (.iload_n 1, 1) := by decide +kernel
theorem d_Mo_latestInWork_39 : decode b_Mo_latestInWork 39 = .ok (.iaload, 1) := by decide +kernel
theorem d_Mo_latestInWork_40 : decode b_Mo_latestInWork 40 = .ok (.ireturn, 1) := by decide +kernel
theorem d_Mo_push_0 : decode b_Mo_push 0 = .ok (.aload_n 0, 1) := by decide +kernel
theorem d_Mo_push_1 : decode b_Mo_push 1 = .ok (.getfield 66, 3) := by decide +kernel
theorem d_Mo_push_4 : decode b_Mo_push 4 = .ok (.aload_n 0, 1) := by decide +kernel
theorem d_Mo_push_5 : decode b_Mo_push 5 = .ok (.getfield 122, 3) := by decide +kernel
theorem d_Mo_push_8 : decode b_Mo_push 8 = .ok (.iload_n 1, 1) := by decide +kernel
theorem d_Mo_push_9 : decode b_Mo_push 9 = .ok (.iastore, 1) := by decide +kernel
theorem d_Mo_push_10 : decode b_Mo_push 10 = .ok (.aload_n 0, 1) := by decide +kernel
theorem d_Mo_push_11 : decode b_Mo_push 11 = .ok (.getfield 69, 3) := by decide +kernel
theorem d_Mo_push_14 : decode b_Mo_push 14 = .ok (.aload_n 0, 1) := by decide +kernel
theorem d_Mo_push_15 : decode b_Mo_push 15 = .ok (.getfield 122, 3) := by decide +kernel
theorem d_Mo_push_18 : decode b_Mo_push 18 = .ok (.iload_n 2, 1) := by decide +kernel
theorem d_Mo_push_19 : decode b_Mo_push 19 = .ok (.iastore, 1) := by decide +kernel
theorem d_Mo_push_20 : decode b_Mo_push 20 = .ok (.aload_n 0, 1) := by decide +kernel
theorem d_Mo_push_21 : decode b_Mo_push 21 = .ok (.getfield 72, 3) := by decide +kernel
theorem d_Mo_push_24 : decode b_Mo_push 24 = .ok (.aload_n 0, 1) := by decide +kernel
theorem d_Mo_push_25 : decode b_Mo_push 25 = .ok (.getfield 122, 3) := by decide +kernel
theorem d_Mo_push_28 : decode b_Mo_push 28 = .ok (.iload_n 3, 1) := by decide +kernel
theorem d_Mo_push_29 : decode b_Mo_push 29 = .ok (.iastore, 1) := by decide +kernel
theorem d_Mo_push_30 : decode b_Mo_push 30 = .ok (.aload_n 0, 1) := by decide +kernel
theorem d_Mo_push_31 : decode b_Mo_push 31 = .ok (.getfield 75, 3) := by decide +kernel
theorem d_Mo_push_34 : decode b_Mo_push 34 = .ok (.aload_n 0, 1) := by decide +kernel
theorem d_Mo_push_35 : decode b_Mo_push 35 = .ok (.getfield 122, 3) := by decide +kernel
theorem d_Mo_push_38 : decode b_Mo_push 38 = .ok (.lload 4, 2) := by decide +kernel
theorem d_Mo_push_40 : decode b_Mo_push 40 = .ok (.lastore, 1) := by decide +kernel
theorem d_Mo_push_41 : decode b_Mo_push 41 = .ok (.aload_n 0, 1) := by decide +kernel
theorem d_Mo_push_42 : decode b_Mo_push 42 = .ok (.dup, 1) := by decide +kernel
theorem d_Mo_push_43 : decode b_Mo_push 43 = .ok (.getfield 122, 3) := by decide +kernel
theorem d_Mo_push_46 : decode b_Mo_push 46 = .ok (.iconst 1, 1) := by decide +kernel
theorem d_Mo_push_47 : decode b_Mo_push 47 = .ok (.iadd, 1) := by decide +kernel
theorem d_Mo_push_48 : decode b_Mo_push 48 = .ok (.putfield 122, 3) := by decide +kernel
theorem d_Mo_push_51 : decode b_Mo_push 51 = .ok (.return_, 1) := by decide +kernel
theorem d_Mo_need_0 : decode b_Mo_need 0 = .ok (.iload_n 2, 1) := by decide +kernel
theorem d_Mo_need_1 : decode b_Mo_need 1 = .ok (.ifCond .eq 12, 3) := by decide +kernel
theorem d_Mo_need_4 : decode b_Mo_need 4 = .ok (.aload_n 0, 1) := by decide +kernel
theorem d_Mo_need_5 : decode b_Mo_need 5 = .ok (.getfield 122, 3) := by decide +kernel
theorem d_Mo_need_8 : decode b_Mo_need 8 = .ok (.iconst 1, 1) := by decide +kernel
theorem d_Mo_need_9 : decode b_Mo_need 9 = .ok (.isub, 1) := by decide +kernel
theorem d_Mo_need_10 : decode b_Mo_need 10 = .ok (.goto 7, 3) := by decide +kernel
theorem d_Mo_need_13 : decode b_Mo_need 13 = .ok (.aload_n 0, 1) := by decide +kernel
theorem d_Mo_need_14 : decode b_Mo_need 14 = .ok (.getfield 122, 3) := by decide +kernel
theorem d_Mo_need_17 : decode b_Mo_need 17 = .ok (.istore_n 3, 1) := by decide +kernel
theorem d_Mo_need_18 : decode b_Mo_need 18 = .ok (.aload_n 0, 1) := by decide +kernel
theorem d_Mo_need_19 : decode b_Mo_need 19 = .ok (.getfield 29, 3) := by decide +kernel
theorem d_Mo_need_22 : decode b_Mo_need 22 = .ok (.iload_n 1, 1) := by decide +kernel
theorem d_Mo_need_23 : decode b_Mo_need 23 = .ok (.iaload, 1) := by decide +kernel
theorem d_Mo_need_24 : decode b_Mo_need 24 = .ok (.iconst 1, 1) := by decide +kernel
theorem d_Mo_need_25 : decode b_Mo_need 25 = .ok (.if_icmp .ne 14, 3) := by decide +kernel
theorem d_Mo_need_28 : decode b_Mo_need 28 = .ok (.aload_n 0, 1) := by decide +kernel
theorem d_Mo_need_29 : decode b_Mo_need 29 = .ok (.iconst 3, 1) := by decide +kernel
theorem d_Mo_need_30 : decode b_Mo_need 30 = .ok (.putfield 141, 3) := by decide +kernel
theorem d_Mo_need_33 : decode b_Mo_need 33 = .ok (.aload_n 0, 1) := by decide +kernel
theorem d_Mo_need_34 : decode b_Mo_need 34 = .ok (.iload_n 1, 1) := by decide +kernel
theorem d_Mo_need_35 : decode b_Mo_need 35 = .ok (.putfield 193, 3) := by decide +kernel
theorem d_Mo_need_38 : decode b_Mo_need 38 = .ok (.return_, 1) := by decide +kernel
theorem d_Mo_need_39 : decode b_Mo_need 39 = .ok (.aload_n 0, 1) := by decide +kernel
theorem d_Mo_need_40 : decode b_Mo_need 40 = .ok (.getfield 29, 3) := by decide +kernel
theorem d_Mo_need_43 : decode b_Mo_need 43 = .ok (.iload_n 1, 1) := by decide +kernel
theorem d_Mo_need_44 : decode b_Mo_need 44 = .ok (.iaload, 1) := by decide +kernel
theorem d_Mo_need_45 : decode b_Mo_need 45 = .ok (.iconst 2, 1) := by decide +kernel
theorem d_Mo_need_46 : decode b_Mo_need 46 = .ok (.if_icmp .ne 47, 3) := by decide +kernel
theorem d_Mo_need_49 : decode b_Mo_need 49 = .ok (.aload_n 0, 1) := by decide +kernel
theorem d_Mo_need_50 : decode b_Mo_need 50 = .ok (.iload_n 3, 1) := by decide +kernel
theorem d_Mo_need_51 : decode b_Mo_need 51 = .ok (.putfield 122, 3) := by decide +kernel
theorem d_Mo_need_54 : decode b_Mo_need 54 = .ok (.aload_n 0, 1) := by decide +kernel
theorem d_Mo_need_55 : decode b_Mo_need 55 = .ok (.dup, 1) := by decide +kernel
theorem d_Mo_need_56 : decode b_Mo_need 56 = .ok (.getfield 131, 3) := by decide +kernel
theorem d_Mo_need_59 : decode b_Mo_need 59 = .ok (.iconst 1, 1) := by decide +kernel
theorem d_Mo_need_60 : decode b_Mo_need 60 = .ok (.iadd, 1) := by decide +kernel
theorem d_Mo_need_61 : decode b_Mo_need 61 = .ok (.putfield 131, 3) := by decide +kernel
theorem d_Mo_need_64 : decode b_Mo_need 64 = .ok (.aload_n 0, 1) := by decide +kernel
theorem d_Mo_need_65 : decode b_Mo_need 65 = .ok (.aload_n 0, 1) := by decide +kernel
theorem d_Mo_need_66 : decode b_Mo_need 66 = .ok (.getfield 38, 3) := by decide +kernel
theorem d_Mo_need_69 : decode b_Mo_need 69 = .ok (.iload_n 1, 1) := by decide +kernel
theorem d_Mo_need_70 : decode b_Mo_need 70 = .ok (.iaload, 1) := by decide +kernel
theorem d_Mo_need_71 : decode b_Mo_need 71 = .ok (.aload_n 0, 1) := by decide +kernel
theorem d_Mo_need_72 : decode b_Mo_need 72 = .ok (.getfield 41, 3) := by decide +kernel
theorem d_Mo_need_75 : decode b_Mo_need 75 = .ok (.iload_n 1, 1) := by decide +kernel
theorem d_Mo_need_76 : decode b_Mo_need 76 = .ok (.laload, 1) := by decide +kernel
theorem d_Mo_need_77 : decode b_Mo_need 77 = .ok (.aload_n 0, 1) := by decide +kernel
theorem d_Mo_need_78 : decode b_Mo_need 78 = .ok (.getfield 44, 3) := by decide +kernel
theorem d_Mo_need_81 : decode b_Mo_need 81 = .ok (.iload_n 1, 1) := by decide +kernel
theorem d_Mo_need_82 : decode b_Mo_need 82 = .ok (.iaload, 1) := by decide +kernel
theorem d_Mo_need_83 : decode b_Mo_need 83 = .ok (.aload_n 0, 1) := by decide +kernel
theorem d_Mo_need_84 : decode b_Mo_need 84 = .ok (.getfield 47, 3) := by decide +kernel
theorem d_Mo_need_87 : decode b_Mo_need 87 = .ok (.iload_n 1, 1) := by decide +kernel
theorem d_Mo_need_88 : decode b_Mo_need 88 = .ok (.iaload, 1) := by decide +kernel
theorem d_Mo_need_89 : decode b_Mo_need 89 = .ok (.invokevirtual 196, 3) := by decide +kernel
theorem d_Mo_need_92 : decode b_Mo_need 92 = .ok (.return_, 1) := by decide +kernel
theorem d_Mo_need_93 : decode b_Mo_need 93 = .ok (.aload_n 0, 1) := by decide +kernel
theorem d_Mo_need_94 : decode b_Mo_need 94 = .ok (.getfield 137, 3) := by decide +kernel
theorem d_Mo_need_97 : decode b_Mo_need 97 = .ok (.ifCond .eq 16, 3) := by decide +kernel
theorem d_Mo_need_100 : decode b_Mo_need 100 = .ok (.iload_n 3, 1) := by decide +kernel
theorem d_Mo_need_101 : decode b_Mo_need 101 = .ok (.sipush 300, 3) := by decide +kernel
theorem d_Mo_need_104 : decode b_Mo_need 104 = .ok (.if_icmp .ne 9, 3) := by decide +kernel
theorem d_Mo_need_107 : decode b_Mo_need 107 = .ok (.aload_n 0, 1) := by decide +kernel
theorem d_Mo_need_108 : decode b_Mo_need 108 = .ok (.iconst 5, 1) := by decide +kernel
theorem d_Mo_need_109 : decode b_Mo_need 109 = .ok (.putfield 141, 3) := by decide +kernel
theorem d_Mo_need_112 : decode b_Mo_need 112 = .ok (.return_, 1) := by decide +kernel
theorem d_Mo_need_113 : decode b_Mo_need 113 = .ok (.aload_n 0, 1) := by decide +kernel
theorem d_Mo_need_114 : decode b_Mo_need 114 = .ok (.iload_n 3, 1) := by decide +kernel
theorem d_Mo_need_115 : decode b_Mo_need 115 = .ok (.putfield 122, 3) := by decide +kernel
theorem d_Mo_need_118 : decode b_Mo_need 118 = .ok (.aload_n 0, 1) := by decide +kernel
theorem d_Mo_need_119 : decode b_Mo_need 119 = .ok (.dup, 1) := by decide +kernel
theorem d_Mo_need_120 : decode b_Mo_need 120 = .ok (.getfield 134, 3) := by decide +kernel
theorem d_Mo_need_123 : decode b_Mo_need 123 = .ok (.iconst 1, 1) := by decide +kernel
theorem d_Mo_need_124 : decode b_Mo_need 124 = .ok (.iadd, 1) := by decide +kernel
theorem d_Mo_need_125 : decode b_Mo_need 125 = .ok (.putfield 134, 3) := by decide +kernel
theorem d_Mo_need_128 : decode b_Mo_need 128 = .ok (.aload_n 0, 1) := by decide +kernel
theorem d_Mo_need_129 : decode b_Mo_need 129 = .ok (.getfield 50, 3) := by decide +kernel
theorem d_Mo_need_132 : decode b_Mo_need 132 = .ok (.iload_n 1, 1) := by decide +kernel
theorem d_Mo_need_133 : decode b_Mo_need 133 = .ok (.dup2, 1) := by decide +kernel
theorem d_Mo_need_134 : decode b_Mo_need 134 = .ok (.iaload, 1) := by decide +kernel
theorem d_Mo_need_135 : decode b_Mo_need 135 = .ok (.iconst 1, 1) := by decide +kernel
theorem d_Mo_need_136 : decode b_Mo_need 136 = .ok (.iadd, 1) := by decide +kernel
theorem d_Mo_need_137 : decode b_Mo_need 137 = .ok (.iastore, 1) := by decide +kernel
theorem d_Mo_need_138 : decode b_Mo_need 138 = .ok (.aload_n 0, 1) := by decide +kernel
theorem d_Mo_need_139 : decode b_Mo_need 139 = .ok (.getfield 56, 3) := by decide +kernel
theorem d_Mo_need_142 : decode b_Mo_need 142 = .ok (.iload_n 1, 1) := by decide +kernel
theorem d_Mo_need_143 : decode b_Mo_need 143 = .ok (.baload, 1) := by decide +kernel
theorem d_Mo_need_144 : decode b_Mo_need 144 = .ok (.ifCond .ne 20, 3) := by decide +kernel
theorem d_Mo_need_147 : decode b_Mo_need 147 = .ok (.aload_n 0, 1) := by decide +kernel
theorem d_Mo_need_148 : decode b_Mo_need 148 = .ok (.getfield 56, 3) := by decide +kernel
theorem d_Mo_need_151 : decode b_Mo_need 151 = .ok (.iload_n 1, 1) := by decide +kernel
theorem d_Mo_need_152 : decode b_Mo_need 152 = .ok (.iconst 1, 1) := by decide +kernel
theorem d_Mo_need_153 : decode b_Mo_need 153 = .ok (.bastore, 1) := by decide +kernel
theorem d_Mo_need_154 : decode b_Mo_need 154 = .ok (.aload_n 0, 1) := by decide +kernel
theorem d_Mo_need_155 : decode b_Mo_need 155 = .ok (.getfield 53, 3) := by decide +kernel
theorem d_Mo_need_158 : decode b_Mo_need 158 = .ok (.iload_n 1, 1) := by decide +kernel
theorem d_Mo_need_159 : decode b_Mo_need 159 = .ok (.aload_n 0, 1) := by decide +kernel
theorem d_Mo_need_160 : decode b_Mo_need 160 = .ok (.invokevirtual 200, 3) := by decide +kernel
theorem d_Mo_need_163 : decode b_Mo_need 163 = .ok (.iastore, 1) := by decide +kernel
theorem d_Mo_need_164 : decode b_Mo_need 164 = .ok (.aload_n 0, 1) := by decide +kernel
theorem d_Mo_need_165 : decode b_Mo_need 165 = .ok (.getfield 137, 3) := by decide +kernel
theorem d_Mo_need_168 : decode b_Mo_need 168 = .ok (.ifCond .eq 18, 3) := by decide +kernel
theorem d_Mo_need_171 : decode b_Mo_need 171 = .ok (.aload_n 0, 1) := by decide +kernel
theorem d_Mo_need_172 : decode b_Mo_need 172 = .ok (.getfield 29, 3) := by decide +kernel
theorem d_Mo_need_175 : decode b_Mo_need 175 = .ok (.iload_n 1, 1) := by decide +kernel
theorem d_Mo_need_176 : decode b_Mo_need 176 = .ok (.iconst 1, 1) := by decide +kernel
theorem d_Mo_need_177 : decode b_Mo_need 177 = .ok (.iastore, 1) := by decide +kernel
theorem d_Mo_need_178 : decode b_Mo_need 178 = .ok (.aload_n 0, 1) := by decide +kernel
theorem d_Mo_need_179 : decode b_Mo_need 179 = .ok (.iconst 0, 1) := by decide +kernel
theorem d_Mo_need_180 : decode b_Mo_need 180 = .ok (.iload_n 1, 1) := by decide +kernel
theorem d_Mo_need_181 : decode b_Mo_need 181 = .ok (.iconst (-1), 1) := by decide +kernel
theorem d_Mo_need_182 : decode b_Mo_need 182 = .ok (.lconst 0, 1) := by decide +kernel
theorem d_Mo_need_183 : decode b_Mo_need 183 = .ok (.invokevirtual 203, 3) := by decide +kernel
theorem d_Mo_need_186 : decode b_Mo_need 186 = .ok (.aload_n 0, 1) := by decide +kernel
theorem d_Mo_need_187 : decode b_Mo_need 187 = .ok (.aload_n 0, 1) := by decide +kernel
theorem d_Mo_need_188 : decode b_Mo_need 188 = .ok (.getfield 32, 3) := by decide +kernel
theorem d_Mo_need_191 : decode b_Mo_need 191 = .ok (.iload_n 1, 1) := by decide +kernel
theorem d_Mo_need_192 : decode b_Mo_need 192 = .ok (.iaload, 1) := by decide +kernel
theorem d_Mo_need_193 : decode b_Mo_need 193 = .ok (.aload_n 0, 1) := by decide +kernel
theorem d_Mo_need_194 : decode b_Mo_need 194 = .ok (.getfield 35, 3) := by decide +kernel
theorem d_Mo_need_197 : decode b_Mo_need 197 = .ok (.iload_n 1, 1) := by decide +kernel
theorem d_Mo_need_198 : decode b_Mo_need 198 = .ok (.iaload, 1) := by decide +kernel
theorem d_Mo_need_199 : decode b_Mo_need 199 = .ok (.invokevirtual 144, 3) := by decide +kernel
theorem d_Mo_need_202 : decode b_Mo_need 202 = .ok (.return_, 1) := by decide +kernel
theorem d_Mo_thingOfPlace_0 : decode b_Mo_thingOfPlace 0 = .ok (.iload_n 1, 1) := by decide +kernel
theorem d_Mo_thingOfPlace_1 : decode b_Mo_thingOfPlace 1 = .ok (.istore_n 3, 1) := by decide +kernel
theorem d_Mo_thingOfPlace_2 : decode b_Mo_thingOfPlace 2 = .ok (.iconst 0, 1) := by decide +kernel
theorem d_Mo_thingOfPlace_3 : decode b_Mo_thingOfPlace 3 = .ok (.istore 4, 2) := by decide +kernel
theorem d_Mo_thingOfPlace_5 : decode b_Mo_thingOfPlace 5 = .ok (.iload 4, 2) := by decide +kernel
theorem d_Mo_thingOfPlace_7 : decode b_Mo_thingOfPlace 7 = .ok (.iload_n 2, 1) := by decide +kernel
theorem d_Mo_thingOfPlace_8 : decode b_Mo_thingOfPlace 8 = .ok (.if_icmp .ge 16, 3) := by decide +kernel
theorem d_Mo_thingOfPlace_11 : decode b_Mo_thingOfPlace 11 = .ok (.aload_n 0, 1) := by decide +kernel
theorem d_Mo_thingOfPlace_12 : decode b_Mo_thingOfPlace 12 = .ok (.getfield 63, 3) := by decide +kernel
theorem d_Mo_thingOfPlace_15 : decode b_Mo_thingOfPlace 15 = .ok (.iload_n 3, 1) := by decide +kernel
theorem d_Mo_thingOfPlace_16 : decode b_Mo_thingOfPlace 16 = .ok (.iaload, 1) := by decide +kernel
theorem d_Mo_thingOfPlace_17 : decode b_Mo_thingOfPlace 17 = .ok (.istore_n 3, 1) := by decide +kernel
theorem d_Mo_thingOfPlace_18 : decode b_Mo_thingOfPlace 18 = .ok (.iinc 4 1, 3) := by decide +kernel
theorem d_Mo_thingOfPlace_21 : decode b_Mo_thingOfPlace 21 = .ok (.goto (-16), 3) := by decide +kernel
theorem d_Mo_thingOfPlace_24 : decode b_Mo_thingOfPlace 24 = .ok (.aload_n 0, 1) := by decide +kernel
theorem d_Mo_thingOfPlace_25 : decode b_Mo_thingOfPlace 25 = .ok (.getfield 60, 3) := by decide +kernel
theorem d_Mo_thingOfPlace_28 : decode b_Mo_thingOfPlace 28 = .ok (.iload_n 3, 1) := by decide +kernel
theorem d_Mo_thingOfPlace_29 : decode b_Mo_thingOfPlace 29 = .ok (.iaload, 1) := by decide +kernel
theorem d_Mo_thingOfPlace_30 : decode b_Mo_thingOfPlace 30 = .ok (.ireturn, 1) := by decide +kernel
theorem d_Mo_isNew_0 : decode b_Mo_isNew 0 = .ok (.aload_n 0, 1) := by decide +kernel
theorem d_Mo_isNew_1 : decode b_Mo_isNew 1 = .ok (.getfield 7, 3) := by decide +kernel
theorem d_Mo_isNew_4 : decode b_Mo_isNew 4 = .ok (.iload_n 1, 1) := by decide +kernel
theorem d_Mo_isNew_5 : decode b_Mo_isNew 5 = .ok (.iaload, 1) := by decide +kernel
theorem d_Mo_isNew_6 : decode b_Mo_isNew 6 = .ok (.iconst 1, 1) := by decide +kernel
theorem d_Mo_isNew_7 : decode b_Mo_isNew 7 = .ok (.if_icmp .eq 7, 3) := by decide +kernel
theorem d_Mo_isNew_10 : decode b_Mo_isNew 10 = .ok (.iconst 1, 1) := by decide +kernel
theorem d_Mo_isNew_11 : decode b_Mo_isNew 11 = .ok (.goto 4, 3) := by decide +kernel
theorem d_Mo_isNew_14 : decode b_Mo_isNew 14 = .ok (.iconst 0, 1) := by decide +kernel
theorem d_Mo_isNew_15 : decode b_Mo_isNew 15 = .ok (.ireturn, 1) := by decide +kernel
theorem d_Mo_hasRoom_0 : decode b_Mo_hasRoom 0 = .ok (.aload_n 0, 1) := by decide +kernel
theorem d_Mo_hasRoom_1 : decode b_Mo_hasRoom 1 = .ok (.getfield 113, 3) := by decide +kernel
theorem d_Mo_hasRoom_4 : decode b_Mo_hasRoom 4 = .ok (.iload_n 1, 1) := by decide +kernel
theorem d_Mo_hasRoom_5 : decode b_Mo_hasRoom 5 = .ok (.iadd, 1) := by decide +kernel
theorem d_Mo_hasRoom_6 : decode b_Mo_hasRoom 6 = .ok (.sipush 1000, 3) := by decide +kernel
theorem d_Mo_hasRoom_9 : decode b_Mo_hasRoom 9 = .ok (.if_icmp .gt 43, 3) := by decide +kernel
theorem d_Mo_hasRoom_12 : decode b_Mo_hasRoom 12 = .ok (.aload_n 0, 1) := by decide +kernel
theorem d_Mo_hasRoom_13 : decode b_Mo_hasRoom 13 = .ok (.getfield 116, 3) := by decide +kernel
theorem d_Mo_hasRoom_16 : decode b_Mo_hasRoom 16 = .ok (.iload_n 1, 1) := by decide +kernel
theorem d_Mo_hasRoom_17 : decode b_Mo_hasRoom 17 = .ok (.iadd, 1) := by decide +kernel
theorem d_Mo_hasRoom_18 : decode b_Mo_hasRoom 18 = .ok (.sipush 300, 3) := by decide +kernel
theorem d_Mo_hasRoom_21 : decode b_Mo_hasRoom 21 = .ok (.if_icmp .gt 31, 3) := by decide +kernel
theorem d_Mo_hasRoom_24 : decode b_Mo_hasRoom 24 = .ok (.aload_n 0, 1) := by decide +kernel
theorem d_Mo_hasRoom_25 : decode b_Mo_hasRoom 25 = .ok (.getfield 119, 3) := by decide +kernel
theorem d_Mo_hasRoom_28 : decode b_Mo_hasRoom 28 = .ok (.iload_n 2, 1) := by decide +kernel
theorem d_Mo_hasRoom_29 : decode b_Mo_hasRoom 29 = .ok (.iadd, 1) := by decide +kernel
theorem d_Mo_hasRoom_30 : decode b_Mo_hasRoom 30 = .ok (.sipush 1000, 3) := by decide +kernel
theorem d_Mo_hasRoom_33 : decode b_Mo_hasRoom 33 = .ok (.if_icmp .gt 19, 3) := by decide +kernel
theorem d_Mo_hasRoom_36 : decode b_Mo_hasRoom 36 = .ok (.aload_n 0, 1) := by decide +kernel
theorem d_Mo_hasRoom_37 : decode b_Mo_hasRoom 37 = .ok (.getfield 122, 3) := by decide +kernel
theorem d_Mo_hasRoom_40 : decode b_Mo_hasRoom 40 = .ok (.iload_n 3, 1) := by decide +kernel
theorem d_Mo_hasRoom_41 : decode b_Mo_hasRoom 41 = .ok (.iadd, 1) := by decide +kernel
theorem d_Mo_hasRoom_42 : decode b_Mo_hasRoom 42 = .ok (.sipush 300, 3) := by decide +kernel
theorem d_Mo_hasRoom_45 : decode b_Mo_hasRoom 45 = .ok (.if_icmp .gt 7, 3) := by decide +kernel
theorem d_Mo_hasRoom_48 : decode b_Mo_hasRoom 48 = .ok (.iconst 1, 1) := by decide +kernel
theorem d_Mo_hasRoom_49 : decode b_Mo_hasRoom 49 = .ok (.goto 4, 3) := by decide +kernel
theorem d_Mo_hasRoom_52 : decode b_Mo_hasRoom 52 = .ok (.iconst 0, 1) := by decide +kernel
theorem d_Mo_hasRoom_53 : decode b_Mo_hasRoom 53 = .ok (.istore 4, 2) := by decide +kernel
theorem d_Mo_hasRoom_55 : decode b_Mo_hasRoom 55 = .ok (.iload 4, 2) := by decide +kernel
theorem d_Mo_hasRoom_57 : decode b_Mo_hasRoom 57 = .ok (.ifCond .ne 8, 3) := by decide +kernel
theorem d_Mo_hasRoom_60 : decode b_Mo_hasRoom 60 = .ok (.aload_n 0, 1) := by decide +kernel
theorem d_Mo_hasRoom_61 : decode b_Mo_hasRoom 61 = .ok (.iconst 5, 1) := by decide +kernel
theorem d_Mo_hasRoom_62 : decode b_Mo_hasRoom 62 = .ok (.putfield 141, 3) := by decide +kernel
theorem d_Mo_hasRoom_65 : decode b_Mo_hasRoom 65 = .ok (.iload 4, 2) := by decide +kernel
theorem d_Mo_hasRoom_67 : decode b_Mo_hasRoom 67 = .ok (.ireturn, 1) := by decide +kernel
theorem d_Mo_newThing_0 : decode b_Mo_newThing 0 = .ok (.aload_n 0, 1) := by decide +kernel
theorem d_Mo_newThing_1 : decode b_Mo_newThing 1 = .ok (.getfield 29, 3) := by decide +kernel
theorem d_Mo_newThing_4 : decode b_Mo_newThing 4 = .ok (.aload_n 0, 1) := by decide +kernel
theorem d_Mo_newThing_5 : decode b_Mo_newThing 5 = .ok (.getfield 113, 3) := by decide +kernel
theorem d_Mo_newThing_8 : decode b_Mo_newThing 8 = .ok (.iconst 0, 1) := by decide +kernel
theorem d_Mo_newThing_9 : decode b_Mo_newThing 9 = .ok (.iastore, 1) := by decide +kernel
theorem d_Mo_newThing_10 : decode b_Mo_newThing 10 = .ok (.aload_n 0, 1) := by decide +kernel
theorem d_Mo_newThing_11 : decode b_Mo_newThing 11 = .ok (.getfield 32, 3) := by decide +kernel
theorem d_Mo_newThing_14 : decode b_Mo_newThing 14 = .ok (.aload_n 0, 1) := by decide +kernel
theorem d_Mo_newThing_15 : decode b_Mo_newThing 15 = .ok (.getfield 113, 3) := by decide +kernel
theorem d_Mo_newThing_18 : decode b_Mo_newThing 18 = .ok (.iload_n 1, 1) := by decide +kernel
theorem d_Mo_newThing_19 : decode b_Mo_newThing 19 = .ok (.iastore, 1) := by decide +kernel
theorem d_Mo_newThing_20 : decode b_Mo_newThing 20 = .ok (.aload_n 0, 1) := by decide +kernel
theorem d_Mo_newThing_21 : decode b_Mo_newThing 21 = .ok (.getfield 35, 3) := by decide +kernel
theorem d_Mo_newThing_24 : decode b_Mo_newThing 24 = .ok (.aload_n 0, 1) := by decide +kernel
theorem d_Mo_newThing_25 : decode b_Mo_newThing 25 = .ok (.getfield 113, 3) := by decide +kernel
theorem d_Mo_newThing_28 : decode b_Mo_newThing 28 = .ok (.iload_n 2, 1) := by decide +kernel
theorem d_Mo_newThing_29 : decode b_Mo_newThing 29 = .ok (.iastore, 1) := by decide +kernel
theorem d_Mo_newThing_30 : decode b_Mo_newThing 30 = .ok (.aload_n 0, 1) := by decide +kernel
theorem d_Mo_newThing_31 : decode b_Mo_newThing 31 = .ok (.getfield 50, 3) := by decide +kernel
theorem d_Mo_newThing_34 : decode b_Mo_newThing 34 = .ok (.aload_n 0, 1) := by decide +kernel
theorem d_Mo_newThing_35 : decode b_Mo_newThing 35 = .ok (.getfield 113, 3) := by decide +kernel
theorem d_Mo_newThing_38 : decode b_Mo_newThing 38 = .ok (.iconst 0, 1) := by decide +kernel
theorem d_Mo_newThing_39 : decode b_Mo_newThing 39 = .ok (.iastore, 1) := by decide +kernel
theorem d_Mo_newThing_40 : decode b_Mo_newThing 40 = .ok (.aload_n 0, 1) := by decide +kernel
theorem d_Mo_newThing_41 : decode b_Mo_newThing 41 = .ok (.getfield 56, 3) := by decide +kernel
theorem d_Mo_newThing_44 : decode b_Mo_newThing 44 = .ok (.aload_n 0, 1) := by decide +kernel
theorem d_Mo_newThing_45 : decode b_Mo_newThing 45 = .ok (.getfield 113, 3) := by decide +kernel
theorem d_Mo_newThing_48 : decode b_Mo_newThing 48 = .ok (.iconst 0, 1) := by decide +kernel
theorem d_Mo_newThing_49 : decode b_Mo_newThing 49 = .ok (.bastore, 1) := by decide +kernel
theorem d_Mo_newThing_50 : decode b_Mo_newThing 50 = .ok (.aload_n 0, 1) := by decide +kernel
theorem d_Mo_newThing_51 : decode b_Mo_newThing 51 = .ok (.getfield 53, 3) := by decide +kernel
theorem d_Mo_newThing_54 : decode b_Mo_newThing 54 = .ok (.aload_n 0, 1) := by decide +kernel
theorem d_Mo_newThing_55 : decode b_Mo_newThing 55 = .ok (.getfield 113, 3) := by decide +kernel
theorem d_Mo_newThing_58 : decode b_Mo_newThing 58 = .ok (.iconst (-1), 1) := by decide +kernel
theorem d_Mo_newThing_59 : decode b_Mo_newThing 59 = .ok (.iastore, 1) := by decide +kernel
theorem d_Mo_newThing_60 : decode b_Mo_newThing 60 = .ok (.aload_n 0, 1) := by decide +kernel
theorem d_Mo_newThing_61 : decode b_Mo_newThing 61 = .ok (.dup, 1) := by decide +kernel
theorem d_Mo_newThing_62 : decode b_Mo_newThing 62 = .ok (.getfield 113, 3) := by decide +kernel
theorem d_Mo_newThing_65 : decode b_Mo_newThing 65 = .ok (.iconst 1, 1) := by decide +kernel
theorem d_Mo_newThing_66 : decode b_Mo_newThing 66 = .ok (.iadd, 1) := by decide +kernel
theorem d_Mo_newThing_67 : decode b_Mo_newThing 67 = .ok (.putfield 113, 3) := by decide +kernel
theorem d_Mo_newThing_70 : decode b_Mo_newThing 70 = .ok (.aload_n 0, 1) := by decide +kernel
theorem d_Mo_newThing_71 : decode b_Mo_newThing 71 = .ok (.dup, 1) := by decide +kernel
theorem d_Mo_newThing_72 : decode b_Mo_newThing 72 = .ok (.getfield 116, 3) := by decide +kernel
theorem d_Mo_newThing_75 : decode b_Mo_newThing 75 = .ok (.iconst 1, 1) := by decide +kernel
theorem d_Mo_newThing_76 : decode b_Mo_newThing 76 = .ok (.iadd, 1) := by decide +kernel
theorem d_Mo_newThing_77 : decode b_Mo_newThing 77 = .ok (.putfield 116, 3) := by decide +kernel
theorem d_Mo_newThing_80 : decode b_Mo_newThing 80 = .ok (.aload_n 0, 1) := by decide +kernel
theorem d_Mo_newThing_81 : decode b_Mo_newThing 81 = .ok (.getfield 113, 3) := by decide +kernel
theorem d_Mo_newThing_84 : decode b_Mo_newThing 84 = .ok (.iconst 1, 1) := by decide +kernel
theorem d_Mo_newThing_85 : decode b_Mo_newThing 85 = .ok (.isub, 1) := by decide +kernel
theorem d_Mo_newThing_86 : decode b_Mo_newThing 86 = .ok (.ireturn, 1) := by decide +kernel
theorem d_Mo_thingOf_0 : decode b_Mo_thingOf 0 = .ok (.aload_n 0, 1) := by decide +kernel
theorem d_Mo_thingOf_1 : decode b_Mo_thingOf 1 = .ok (.iload_n 1, 1) := by decide +kernel
theorem d_Mo_thingOf_2 : decode b_Mo_thingOf 2 = .ok (.invokevirtual 207, 3) := by decide +kernel
theorem d_Mo_thingOf_5 : decode b_Mo_thingOf 5 = .ok (.ifCond .eq 15, 3) := by decide +kernel
theorem d_Mo_thingOf_8 : decode b_Mo_thingOf 8 = .ok (.aload_n 0, 1) := by decide +kernel
theorem d_Mo_thingOf_9 : decode b_Mo_thingOf 9 = .ok (.iload_n 1, 1) := by decide +kernel
theorem d_Mo_thingOf_10 : decode b_Mo_thingOf 10 = .ok (.aload_n 0, 1) := by decide +kernel
theorem d_Mo_thingOf_11 : decode b_Mo_thingOf 11 = .ok (.getfield 154, 3) := by decide +kernel
theorem d_Mo_thingOf_14 : decode b_Mo_thingOf 14 = .ok (.invokevirtual 210, 3) := by decide +kernel
theorem d_Mo_thingOf_17 : decode b_Mo_thingOf 17 = .ok (.goto 17, 3) := by decide +kernel
theorem d_Mo_thingOf_20 : decode b_Mo_thingOf 20 = .ok (.aload_n 0, 1) := by decide +kernel
theorem d_Mo_thingOf_21 : decode b_Mo_thingOf 21 = .ok (.aload_n 0, 1) := by decide +kernel
theorem d_Mo_thingOf_22 : decode b_Mo_thingOf 22 = .ok (.getfield 154, 3) := by decide +kernel
theorem d_Mo_thingOf_25 : decode b_Mo_thingOf 25 = .ok (.aload_n 0, 1) := by decide +kernel
theorem d_Mo_thingOf_26 : decode b_Mo_thingOf 26 = .ok (.getfield 13, 3) := by decide +kernel
theorem d_Mo_thingOf_29 : decode b_Mo_thingOf 29 = .ok (.iload_n 1, 1) := by decide +kernel
theorem d_Mo_thingOf_30 : decode b_Mo_thingOf 30 = .ok (.iaload, 1) := by decide +kernel
theorem d_Mo_thingOf_31 : decode b_Mo_thingOf 31 = .ok (.invokevirtual 213, 3) := by decide +kernel
theorem d_Mo_thingOf_34 : decode b_Mo_thingOf 34 = .ok (.ireturn, 1) := by decide +kernel
theorem d_Mo_newPlace_0 : decode b_Mo_newPlace 0 = .ok (.aload_n 0, 1) := by decide +kernel
theorem d_Mo_newPlace_1 : decode b_Mo_newPlace 1 = .ok (.getfield 60, 3) := by decide +kernel
theorem d_Mo_newPlace_4 : decode b_Mo_newPlace 4 = .ok (.aload_n 0, 1) := by decide +kernel
theorem d_Mo_newPlace_5 : decode b_Mo_newPlace 5 = .ok (.getfield 119, 3) := by decide +kernel
theorem d_Mo_newPlace_8 : decode b_Mo_newPlace 8 = .ok (.iload_n 1, 1) := by decide +kernel
theorem d_Mo_newPlace_9 : decode b_Mo_newPlace 9 = .ok (.iastore, 1) := by decide +kernel
theorem d_Mo_newPlace_10 : decode b_Mo_newPlace 10 = .ok (.aload_n 0, 1) := by decide +kernel
theorem d_Mo_newPlace_11 : decode b_Mo_newPlace 11 = .ok (.getfield 63, 3) := by decide +kernel
theorem d_Mo_newPlace_14 : decode b_Mo_newPlace 14 = .ok (.aload_n 0, 1) := by decide +kernel
theorem d_Mo_newPlace_15 : decode b_Mo_newPlace 15 = .ok (.getfield 119, 3) := by decide +kernel
theorem d_Mo_newPlace_18 : decode b_Mo_newPlace 18 = .ok (.iload_n 2, 1) := by decide +kernel
theorem d_Mo_newPlace_19 : decode b_Mo_newPlace 19 = .ok (.iastore, 1) := by decide +kernel
theorem d_Mo_newPlace_20 : decode b_Mo_newPlace 20 = .ok (.aload_n 0, 1) := by decide +kernel
theorem d_Mo_newPlace_21 : decode b_Mo_newPlace 21 = .ok (.dup, 1) := by decide +kernel
theorem d_Mo_newPlace_22 : decode b_Mo_newPlace 22 = .ok (.getfield 119, 3) := by decide +kernel
theorem d_Mo_newPlace_25 : decode b_Mo_newPlace 25 = .ok (.iconst 1, 1) := by decide +kernel
theorem d_Mo_newPlace_26 : decode b_Mo_newPlace 26 = .ok (.iadd, 1) := by decide +kernel
theorem d_Mo_newPlace_27 : decode b_Mo_newPlace 27 = .ok (.putfield 119, 3) := by decide +kernel
theorem d_Mo_newPlace_30 : decode b_Mo_newPlace 30 = .ok (.aload_n 0, 1) := by decide +kernel
theorem d_Mo_newPlace_31 : decode b_Mo_newPlace 31 = .ok (.getfield 119, 3) := by decide +kernel
theorem d_Mo_newPlace_34 : decode b_Mo_newPlace 34 = .ok (.iconst 1, 1) := by decide +kernel
theorem d_Mo_newPlace_35 : decode b_Mo_newPlace 35 = .ok (.isub, 1) := by decide +kernel
theorem d_Mo_newPlace_36 : decode b_Mo_newPlace 36 = .ok (.ireturn, 1) := by decide +kernel
theorem d_Mo_goOnWithTerm_0 : decode b_Mo_goOnWithTerm 0 = .ok (.aload_n 0, 1) := by decide +kernel
theorem d_Mo_goOnWithTerm_1 : decode b_Mo_goOnWithTerm 1 = .ok (.getfield 151, 3) := by decide +kernel
theorem d_Mo_goOnWithTerm_4 : decode b_Mo_goOnWithTerm 4 = .ok (.istore_n 1, 1) := by decide +kernel
theorem d_Mo_goOnWithTerm_5 : decode b_Mo_goOnWithTerm 5 = .ok (.aload_n 0, 1) := by decide +kernel
theorem d_Mo_goOnWithTerm_6 : decode b_Mo_goOnWithTerm 6 = .ok (.getfield 7, 3) := by decide +kernel
theorem d_Mo_goOnWithTerm_9 : decode b_Mo_goOnWithTerm 9 = .ok (.iload_n 1, 1) := by decide +kernel
theorem d_Mo_goOnWithTerm_10 : decode b_Mo_goOnWithTerm 10 = .ok (.iaload, 1) := by decide +kernel
theorem d_Mo_goOnWithTerm_11 : decode b_Mo_goOnWithTerm 11 = .ok (.istore_n 2, 1) := by decide +kernel
theorem d_Mo_goOnWithTerm_12 : decode b_Mo_goOnWithTerm 12 = .ok (.iload_n 2, 1) := by decide +kernel
theorem d_Mo_goOnWithTerm_13 : decode b_Mo_goOnWithTerm 13 = .ok (.ifCond .ne 19, 3) := by decide +kernel
theorem d_Mo_goOnWithTerm_16 : decode b_Mo_goOnWithTerm 16 = .ok (.aload_n 0, 1) := by decide +kernel
theorem d_Mo_goOnWithTerm_17 : decode b_Mo_goOnWithTerm 17 = .ok (.iconst 0, 1) := by decide +kernel
theorem d_Mo_goOnWithTerm_18 : decode b_Mo_goOnWithTerm 18 = .ok (.aload_n 0, 1) := by decide +kernel
theorem d_Mo_goOnWithTerm_19 : decode b_Mo_goOnWithTerm 19 = .ok (.getfield 22, 3) := by decide +kernel
theorem d_Mo_goOnWithTerm_22 : decode b_Mo_goOnWithTerm 22 = .ok (.iload_n 1, 1) := by decide +kernel
theorem d_Mo_goOnWithTerm_23 : decode b_Mo_goOnWithTerm 23 = .ok (.laload, 1) := by decide +kernel
theorem d_Mo_goOnWithTerm_24 : decode b_Mo_goOnWithTerm 24 = .ok (.iconst (-1), 1) := by decide +kernel
theorem d_Mo_goOnWithTerm_25 : decode b_Mo_goOnWithTerm 25 = .ok (.iconst (-1), 1) := by decide +kernel
theorem d_Mo_goOnWithTerm_26 : decode b_Mo_goOnWithTerm 26 = .ok (.invokevirtual 196, 3) := by decide +kernel
theorem d_Mo_goOnWithTerm_29 : decode b_Mo_goOnWithTerm 29 = .ok (.goto 342, 3) := by decide +kernel
theorem d_Mo_goOnWithTerm_32 : decode b_Mo_goOnWithTerm 32 = .ok (.iload_n 2, 1) := by decide +kernel
theorem d_Mo_goOnWithTerm_33 : decode b_Mo_goOnWithTerm 33 = .ok (.iconst 2, 1) := by decide +kernel
theorem d_Mo_goOnWithTerm_34 : decode b_Mo_goOnWithTerm 34 = .ok (.if_icmp .ne 22, 3) := by decide +kernel
theorem d_Mo_goOnWithTerm_37 : decode b_Mo_goOnWithTerm 37 = .ok (.aload_n 0, 1) := by decide +kernel
theorem d_Mo_goOnWithTerm_38 : decode b_Mo_goOnWithTerm 38 = .ok (.iconst 1, 1) := by decide +kernel
theorem d_Mo_goOnWithTerm_39 : decode b_Mo_goOnWithTerm 39 = .ok (.lconst 0, 1) := by decide +kernel
theorem d_Mo_goOnWithTerm_40 : decode b_Mo_goOnWithTerm 40 = .ok (.aload_n 0, 1) := by decide +kernel
theorem d_Mo_goOnWithTerm_41 : decode b_Mo_goOnWithTerm 41 = .ok (.getfield 13, 3) := by decide +kernel
theorem d_Mo_goOnWithTerm_44 : decode b_Mo_goOnWithTerm 44 = .ok (.iload_n 1, 1) := by decide +kernel
theorem d_Mo_goOnWithTerm_45 : decode b_Mo_goOnWithTerm 45 = .ok (.iaload, 1) := by decide +kernel
theorem d_Mo_goOnWithTerm_46 : decode b_Mo_goOnWithTerm 46 = .ok (.aload_n 0, 1) := by decide +kernel
theorem d_Mo_goOnWithTerm_47 : decode b_Mo_goOnWithTerm 47 = .ok (.getfield 154, 3) := by decide +kernel
theorem d_Mo_goOnWithTerm_50 : decode b_Mo_goOnWithTerm 50 = .ok (.invokevirtual 196, 3) := by decide +kernel
theorem d_Mo_goOnWithTerm_53 : decode b_Mo_goOnWithTerm 53 = .ok (.goto 318, 3) := by decide +kernel
theorem d_Mo_goOnWithTerm_56 : decode b_Mo_goOnWithTerm 56 = .ok (.iload_n 2, 1) := by decide +kernel
theorem d_Mo_goOnWithTerm_57 : decode b_Mo_goOnWithTerm 57 = .ok (.iconst 1, 1) := by decide +kernel
theorem d_Mo_goOnWithTerm_58 : decode b_Mo_goOnWithTerm 58 = .ok (.if_icmp .ne 25, 3) := by decide +kernel
theorem d_Mo_goOnWithTerm_61 : decode b_Mo_goOnWithTerm 61 = .ok (.aload_n 0, 1) := by decide +kernel
theorem d_Mo_goOnWithTerm_62 : decode b_Mo_goOnWithTerm 62 = .ok (.aload_n 0, 1) := by decide +kernel
theorem d_Mo_goOnWithTerm_63 : decode b_Mo_goOnWithTerm 63 = .ok (.aload_n 0, 1) := by decide +kernel
theorem d_Mo_goOnWithTerm_64 : decode b_Mo_goOnWithTerm 64 = .ok (.getfield 154, 3) := by decide +kernel
theorem d_Mo_goOnWithTerm_67 : decode b_Mo_goOnWithTerm 67 = .ok (.aload_n 0, 1) := by decide +kernel
theorem d_Mo_goOnWithTerm_68 : decode b_Mo_goOnWithTerm 68 = .ok (.getfield 13, 3) := by decide +kernel
theorem d_Mo_goOnWithTerm_71 : decode b_Mo_goOnWithTerm 71 = .ok (.iload_n 1, 1) := by decide +kernel
theorem d_Mo_goOnWithTerm_72 : decode b_Mo_goOnWithTerm 72 = .ok (.iaload, 1) := by decide +kernel
theorem d_Mo_goOnWithTerm_73 : decode b_Mo_goOnWithTerm 73 = .ok (.invokevirtual 213, 3) := by decide +kernel
theorem d_Mo_goOnWithTerm_76 : decode b_Mo_goOnWithTerm 76 = .ok (.iconst 0, 1) := by decide +kernel
theorem d_Mo_goOnWithTerm_77 : decode b_Mo_goOnWithTerm 77 = .ok (.invokevirtual 183, 3) := by decide +kernel
theorem d_Mo_goOnWithTerm_80 : decode b_Mo_goOnWithTerm 80 = .ok (.goto 291, 3) := by decide +kernel
theorem d_Mo_goOnWithTerm_83 : decode b_Mo_goOnWithTerm 83 = .ok (.iload_n 2, 1) := by decide +kernel
theorem d_Mo_goOnWithTerm_84 : decode b_Mo_goOnWithTerm 84 = .ok (.bipush 7, 2) := by decide +kernel
theorem d_Mo_goOnWithTerm_86 : decode b_Mo_goOnWithTerm 86 = .ok (.if_icmp .ne 84, 3) := by decide +kernel
theorem d_Mo_goOnWithTerm_89 : decode b_Mo_goOnWithTerm 89 = .ok (.aload_n 0, 1) := by decide +kernel
theorem d_Mo_goOnWithTerm_90 : decode b_Mo_goOnWithTerm 90 = .ok (.aload_n 0, 1) := by decide +kernel
theorem d_Mo_goOnWithTerm_91 : decode b_Mo_goOnWithTerm 91 = .ok (.aload_n 0, 1) := by decide +kernel
theorem d_Mo_goOnWithTerm_92 : decode b_Mo_goOnWithTerm 92 = .ok (.getfield 13, 3) := by decide +kernel
theorem d_Mo_goOnWithTerm_95 : decode b_Mo_goOnWithTerm 95 = .ok (.iload_n 1, 1) := by decide +kernel
theorem d_Mo_goOnWithTerm_96 : decode b_Mo_goOnWithTerm 96 = .ok (.iaload, 1) := by decide +kernel
theorem d_Mo_goOnWithTerm_97 : decode b_Mo_goOnWithTerm 97 = .ok (.invokevirtual 207, 3) := by decide +kernel
theorem d_Mo_goOnWithTerm_100 : decode b_Mo_goOnWithTerm 100 = .ok (.ifCond .eq 7, 3) := by decide +kernel
theorem d_Mo_goOnWithTerm_103 : decode b_Mo_goOnWithTerm 103 = .ok (.iconst 1, 1) := by decide +kernel
theorem d_Mo_goOnWithTerm_104 : decode b_Mo_goOnWithTerm 104 = .ok (.goto 4, 3) := by decide +kernel
theorem d_Mo_goOnWithTerm_107 : decode b_Mo_goOnWithTerm 107 = .ok (.iconst 0, 1) := by decide +kernel
theorem d_Mo_goOnWithTerm_108 : decode b_Mo_goOnWithTerm 108 = .ok (.aload_n 0, 1) := by decide +kernel
theorem d_Mo_goOnWithTerm_109 : decode b_Mo_goOnWithTerm 109 = .ok (.aload_n 0, 1) := by decide +kernel
theorem d_Mo_goOnWithTerm_110 : decode b_Mo_goOnWithTerm 110 = .ok (.getfield 16, 3) := by decide +kernel
theorem d_Mo_goOnWithTerm_113 : decode b_Mo_goOnWithTerm 113 = .ok (.iload_n 1, 1) := by decide +kernel
theorem d_Mo_goOnWithTerm_114 : decode b_Mo_goOnWithTerm 114 = .ok (.iaload, 1) := by decide +kernel
theorem d_Mo_goOnWithTerm_115 : decode b_Mo_goOnWithTerm 115 = .ok (.invokevirtual 207, 3) := by decide +kernel
theorem d_Mo_goOnWithTerm_118 : decode b_Mo_goOnWithTerm 118 = .ok (.ifCond .eq 7, 3) := by decide +kernel
theorem d_Mo_goOnWithTerm_121 : decode b_Mo_goOnWithTerm 121 = .ok (.iconst 1, 1) := by decide +kernel
theorem d_Mo_goOnWithTerm_122 : decode b_Mo_goOnWithTerm 122 = .ok (.goto 4, 3) := by decide +kernel
theorem d_Mo_goOnWithTerm_125 : decode b_Mo_goOnWithTerm 125 = .ok (.iconst 0, 1) := by decide +kernel
theorem d_Mo_goOnWithTerm_126 : decode b_Mo_goOnWithTerm 126 = .ok (.iadd, 1) := by decide +kernel
theorem d_Mo_goOnWithTerm_127 : decode b_Mo_goOnWithTerm 127 = .ok (.iconst 0, 1) := by decide +kernel
theorem d_Mo_goOnWithTerm_128 : decode b_Mo_goOnWithTerm 128 = .ok (.iconst 0, 1) := by decide +kernel
theorem d_Mo_goOnWithTerm_129 : decode b_Mo_goOnWithTerm 129 = .ok (.invokevirtual 216, 3) := by decide +kernel
theorem d_Mo_goOnWithTerm_132 : decode b_Mo_goOnWithTerm 132 = .ok (.ifCond .eq 239, 3) := by decide +kernel
theorem d_Mo_goOnWithTerm_135 : decode b_Mo_goOnWithTerm 135 = .ok (.aload_n 0, 1) := by decide +kernel
theorem d_Mo_goOnWithTerm_136 : decode b_Mo_goOnWithTerm 136 = .ok (.aload_n 0, 1) := by decide +kernel
theorem d_Mo_goOnWithTerm_137 : decode b_Mo_goOnWithTerm 137 = .ok (.getfield 13, 3) := by decide +kernel
theorem d_Mo_goOnWithTerm_140 : decode b_Mo_goOnWithTerm 140 = .ok (.iload_n 1, 1) := by decide +kernel
theorem d_Mo_goOnWithTerm_141 : decode b_Mo_goOnWithTerm 141 = .ok (.iaload, 1) := by decide +kernel
theorem d_Mo_goOnWithTerm_142 : decode b_Mo_goOnWithTerm 142 = .ok (.invokevirtual 220, 3) := by decide +kernel
theorem d_Mo_goOnWithTerm_145 : decode b_Mo_goOnWithTerm 145 = .ok (.istore_n 3, 1) := by decide +kernel
theorem d_Mo_goOnWithTerm_146 : decode b_Mo_goOnWithTerm 146 = .ok (.aload_n 0, 1) := by decide +kernel
theorem d_Mo_goOnWithTerm_147 : decode b_Mo_goOnWithTerm 147 = .ok (.aload_n 0, 1) := by decide +kernel
theorem d_Mo_goOnWithTerm_148 : decode b_Mo_goOnWithTerm 148 = .ok (.getfield 16, 3) := by decide +kernel
theorem d_Mo_goOnWithTerm_151 : decode b_Mo_goOnWithTerm 151 = .ok (.iload_n 1, 1) := by decide +kernel
theorem d_Mo_goOnWithTerm_152 : decode b_Mo_goOnWithTerm 152 = .ok (.iaload, 1) := by decide +kernel
theorem d_Mo_goOnWithTerm_153 : decode b_Mo_goOnWithTerm 153 = .ok (.invokevirtual 220, 3) := by decide +kernel
theorem d_Mo_goOnWithTerm_156 : decode b_Mo_goOnWithTerm 156 = .ok (.istore 4, 2) := by decide +kernel
theorem d_Mo_goOnWithTerm_158 : decode b_Mo_goOnWithTerm 158 = .ok (.aload_n 0, 1) := by decide +kernel
theorem d_Mo_goOnWithTerm_159 : decode b_Mo_goOnWithTerm 159 = .ok (.iconst 2, 1) := by decide +kernel
theorem d_Mo_goOnWithTerm_160 : decode b_Mo_goOnWithTerm 160 = .ok (.lconst 0, 1) := by decide +kernel
theorem d_Mo_goOnWithTerm_161 : decode b_Mo_goOnWithTerm 161 = .ok (.iload_n 3, 1) := by decide +kernel
theorem d_Mo_goOnWithTerm_162 : decode b_Mo_goOnWithTerm 162 = .ok (.iload 4, 2) := by decide +kernel
theorem d_Mo_goOnWithTerm_164 : decode b_Mo_goOnWithTerm 164 = .ok (.invokevirtual 196, 3) := by decide +kernel
theorem d_Mo_goOnWithTerm_167 : decode b_Mo_goOnWithTerm 167 = .ok (.goto 204, 3) := by decide +kernel
theorem d_Mo_goOnWithTerm_170 : decode b_Mo_goOnWithTerm 170 = .ok (.iload_n 2, 1) := by decide +kernel
theorem d_Mo_goOnWithTerm_171 : decode b_Mo_goOnWithTerm 171 = .ok (.iconst 5, 1) := by decide +kernel
theorem d_Mo_goOnWithTerm_172 : decode b_Mo_goOnWithTerm 172 = .ok (.if_icmp .ne 64, 3) := by decide +kernel
theorem d_Mo_goOnWithTerm_175 : decode b_Mo_goOnWithTerm 175 = .ok (.aload_n 0, 1) := by decide +kernel
theorem d_Mo_goOnWithTerm_176 : decode b_Mo_goOnWithTerm 176 = .ok (.aload_n 0, 1) := by decide +kernel
theorem d_Mo_goOnWithTerm_177 : decode b_Mo_goOnWithTerm 177 = .ok (.aload_n 0, 1) := by decide +kernel
theorem d_Mo_goOnWithTerm_178 : decode b_Mo_goOnWithTerm 178 = .ok (.getfield 16, 3) := by decide +kernel
theorem d_Mo_goOnWithTerm_181 : decode b_Mo_goOnWithTerm 181 = .ok (.iload_n 1, 1) := by decide +kernel
theorem d_Mo_goOnWithTerm_182 : decode b_Mo_goOnWithTerm 182 = .ok (.iaload, 1) := by decide +kernel
theorem d_Mo_goOnWithTerm_183 : decode b_Mo_goOnWithTerm 183 = .ok (.invokevirtual 207, 3) := by decide +kernel
theorem d_Mo_goOnWithTerm_186 : decode b_Mo_goOnWithTerm 186 = .ok (.ifCond .eq 7, 3) := by decide +kernel
theorem d_Mo_goOnWithTerm_189 : decode b_Mo_goOnWithTerm 189 = .ok (.iconst 1, 1) := by decide +kernel
theorem d_Mo_goOnWithTerm_190 : decode b_Mo_goOnWithTerm 190 = .ok (.goto 4, 3) := by decide +kernel
theorem d_Mo_goOnWithTerm_193 : decode b_Mo_goOnWithTerm 193 = .ok (.iconst 0, 1) := by decide +kernel
theorem d_Mo_goOnWithTerm_194 : decode b_Mo_goOnWithTerm 194 = .ok (.iconst 0, 1) := by decide +kernel
theorem d_Mo_goOnWithTerm_195 : decode b_Mo_goOnWithTerm 195 = .ok (.iconst 1, 1) := by decide +kernel
theorem d_Mo_goOnWithTerm_196 : decode b_Mo_goOnWithTerm 196 = .ok (.invokevirtual 216, 3) := by decide +kernel
theorem d_Mo_goOnWithTerm_199 : decode b_Mo_goOnWithTerm 199 = .ok (.ifCond .eq 172, 3) := by decide +kernel
theorem d_Mo_goOnWithTerm_202 : decode b_Mo_goOnWithTerm 202 = .ok (.aload_n 0, 1) := by decide +kernel
theorem d_Mo_goOnWithTerm_203 : decode b_Mo_goOnWithTerm 203 = .ok (.iconst 1, 1) := by decide +kernel
theorem d_Mo_goOnWithTerm_204 : decode b_Mo_goOnWithTerm 204 = .ok (.aload_n 0, 1) := by decide +kernel
theorem d_Mo_goOnWithTerm_205 : decode b_Mo_goOnWithTerm 205 = .ok (.aload_n 0, 1) := by decide +kernel
theorem d_Mo_goOnWithTerm_206 : decode b_Mo_goOnWithTerm 206 = .ok (.getfield 16, 3) := by decide +kernel
theorem d_Mo_goOnWithTerm_209 : decode b_Mo_goOnWithTerm 209 = .ok (.iload_n 1, 1) := by decide +kernel
theorem d_Mo_goOnWithTerm_210 : decode b_Mo_goOnWithTerm 210 = .ok (.iaload, 1) := by decide +kernel
theorem d_Mo_goOnWithTerm_211 : decode b_Mo_goOnWithTerm 211 = .ok (.invokevirtual 220, 3) := by decide +kernel
theorem d_Mo_goOnWithTerm_214 : decode b_Mo_goOnWithTerm 214 = .ok (.iconst (-1), 1) := by decide +kernel
theorem d_Mo_goOnWithTerm_215 : decode b_Mo_goOnWithTerm 215 = .ok (.lconst 0, 1) := by decide +kernel
theorem d_Mo_goOnWithTerm_216 : decode b_Mo_goOnWithTerm 216 = .ok (.invokevirtual 203, 3) := by decide +kernel
theorem d_Mo_goOnWithTerm_219 : decode b_Mo_goOnWithTerm 219 = .ok (.aload_n 0, 1) := by decide +kernel
theorem d_Mo_goOnWithTerm_220 : decode b_Mo_goOnWithTerm 220 = .ok (.aload_n 0, 1) := by decide +kernel
theorem d_Mo_goOnWithTerm_221 : decode b_Mo_goOnWithTerm 221 = .ok (.getfield 13, 3) := by decide +kernel
theorem d_Mo_goOnWithTerm_224 : decode b_Mo_goOnWithTerm 224 = .ok (.iload_n 1, 1) := by decide +kernel
theorem d_Mo_goOnWithTerm_225 : decode b_Mo_goOnWithTerm 225 = .ok (.iaload, 1) := by decide +kernel
theorem d_Mo_goOnWithTerm_226 : decode b_Mo_goOnWithTerm 226 = .ok (.aload_n 0, 1) := by decide +kernel
theorem d_Mo_goOnWithTerm_227 : decode b_Mo_goOnWithTerm 227 = .ok (.getfield 154, 3) := by decide +kernel
theorem d_Mo_goOnWithTerm_230 : decode b_Mo_goOnWithTerm 230 = .ok (.invokevirtual 144, 3) := by decide +kernel
theorem d_Mo_goOnWithTerm_233 : decode b_Mo_goOnWithTerm 233 = .ok (.goto 138, 3) := by decide +kernel
theorem d_Mo_goOnWithTerm_236 : decode b_Mo_goOnWithTerm 236 = .ok (.iload_n 2, 1) := by decide +kernel
theorem d_Mo_goOnWithTerm_237 : decode b_Mo_goOnWithTerm 237 = .ok (.bipush 6, 2) := by decide +kernel
theorem d_Mo_goOnWithTerm_239 : decode b_Mo_goOnWithTerm 239 = .ok (.if_icmp .ne 53, 3) := by decide +kernel
theorem d_Mo_goOnWithTerm_242 : decode b_Mo_goOnWithTerm 242 = .ok (.aload_n 0, 1) := by decide +kernel
theorem d_Mo_goOnWithTerm_243 : decode b_Mo_goOnWithTerm 243 = .ok (.iconst 1, 1) := by decide +kernel
theorem d_Mo_goOnWithTerm_244 : decode b_Mo_goOnWithTerm 244 = .ok (.iconst 1, 1) := by decide +kernel
theorem d_Mo_goOnWithTerm_245 : decode b_Mo_goOnWithTerm 245 = .ok (.iconst 0, 1) := by decide +kernel
theorem d_Mo_goOnWithTerm_246 : decode b_Mo_goOnWithTerm 246 = .ok (.invokevirtual 216, 3) := by decide +kernel
theorem d_Mo_goOnWithTerm_249 : decode b_Mo_goOnWithTerm 249 = .ok (.ifCond .eq 122, 3) := by decide +kernel
theorem d_Mo_goOnWithTerm_252 : decode b_Mo_goOnWithTerm 252 = .ok (.aload_n 0, 1) := by decide +kernel
theorem d_Mo_goOnWithTerm_253 : decode b_Mo_goOnWithTerm 253 = .ok (.aload_n 0, 1) := by decide +kernel
theorem d_Mo_goOnWithTerm_254 : decode b_Mo_goOnWithTerm 254 = .ok (.getfield 113, 3) := by decide +kernel
theorem d_Mo_goOnWithTerm_257 : decode b_Mo_goOnWithTerm 257 = .ok (.aload_n 0, 1) := by decide +kernel
theorem d_Mo_goOnWithTerm_258 : decode b_Mo_goOnWithTerm 258 = .ok (.getfield 154, 3) := by decide +kernel
theorem d_Mo_goOnWithTerm_261 : decode b_Mo_goOnWithTerm 261 = .ok (.invokevirtual 223, 3) := by decide +kernel
theorem d_Mo_goOnWithTerm_264 : decode b_Mo_goOnWithTerm 264 = .ok (.istore_n 3, 1) := by decide +kernel
theorem d_Mo_goOnWithTerm_265 : decode b_Mo_goOnWithTerm 265 = .ok (.aload_n 0, 1) := by decide +kernel
theorem d_Mo_goOnWithTerm_266 : decode b_Mo_goOnWithTerm 266 = .ok (.aload_n 0, 1) := by decide +kernel
theorem d_Mo_goOnWithTerm_267 : decode b_Mo_goOnWithTerm 267 = .ok (.getfield 13, 3) := by decide +kernel
theorem d_Mo_goOnWithTerm_270 : decode b_Mo_goOnWithTerm 270 = .ok (.iload_n 1, 1) := by decide +kernel
theorem d_Mo_goOnWithTerm_271 : decode b_Mo_goOnWithTerm 271 = .ok (.iaload, 1) := by decide +kernel
theorem d_Mo_goOnWithTerm_272 : decode b_Mo_goOnWithTerm 272 = .ok (.iload_n 3, 1) := by decide +kernel
theorem d_Mo_goOnWithTerm_273 : decode b_Mo_goOnWithTerm 273 = .ok (.invokevirtual 210, 3) := by decide +kernel
theorem d_Mo_goOnWithTerm_276 : decode b_Mo_goOnWithTerm 276 = .ok (.istore 4, 2) := by decide +kernel
theorem d_Mo_goOnWithTerm_278 : decode b_Mo_goOnWithTerm 278 = .ok (.aload_n 0, 1) := by decide +kernel
theorem d_Mo_goOnWithTerm_279 : decode b_Mo_goOnWithTerm 279 = .ok (.aload_n 0, 1) := by decide +kernel
theorem d_Mo_goOnWithTerm_280 : decode b_Mo_goOnWithTerm 280 = .ok (.getfield 16, 3) := by decide +kernel
theorem d_Mo_goOnWithTerm_283 : decode b_Mo_goOnWithTerm 283 = .ok (.iload_n 1, 1) := by decide +kernel
theorem d_Mo_goOnWithTerm_284 : decode b_Mo_goOnWithTerm 284 = .ok (.iaload, 1) := by decide +kernel
theorem d_Mo_goOnWithTerm_285 : decode b_Mo_goOnWithTerm 285 = .ok (.iload_n 3, 1) := by decide +kernel
theorem d_Mo_goOnWithTerm_286 : decode b_Mo_goOnWithTerm 286 = .ok (.invokevirtual 144, 3) := by decide +kernel
theorem d_Mo_goOnWithTerm_289 : decode b_Mo_goOnWithTerm 289 = .ok (.goto 82, 3) := by decide +kernel
theorem d_Mo_goOnWithTerm_292 : decode b_Mo_goOnWithTerm 292 = .ok (.aload_n 0, 1) := by decide +kernel
theorem d_Mo_goOnWithTerm_293 : decode b_Mo_goOnWithTerm 293 = .ok (.iconst 0, 1) := by decide +kernel
theorem d_Mo_goOnWithTerm_294 : decode b_Mo_goOnWithTerm 294 = .ok (.iconst 0, 1) := by decide +kernel
theorem d_Mo_goOnWithTerm_295 : decode b_Mo_goOnWithTerm 295 = .ok (.iconst 1, 1) := by decide +kernel
theorem d_Mo_goOnWithTerm_296 : decode b_Mo_goOnWithTerm 296 = .ok (.invokevirtual 216, 3) := by decide +kernel
theorem d_Mo_goOnWithTerm_299 : decode b_Mo_goOnWithTerm 299 = .ok (.ifCond .eq 72, 3) := by decide +kernel
theorem d_Mo_goOnWithTerm_302 : decode b_Mo_goOnWithTerm 302 = .ok (.aload_n 0, 1) := by decide +kernel
theorem d_Mo_goOnWithTerm_303 : decode b_Mo_goOnWithTerm 303 = .ok (.iload_n 2, 1) := by decide +kernel
theorem d_Mo_goOnWithTerm_304 : decode b_Mo_goOnWithTerm 304 = .ok (.bipush 14, 2) := by decide +kernel
theorem d_Mo_goOnWithTerm_306 : decode b_Mo_goOnWithTerm 306 = .ok (.if_icmp .ne 7, 3) := by decide +kernel
theorem d_Mo_goOnWithTerm_309 : decode b_Mo_goOnWithTerm 309 = .ok (.iconst 4, 1) := by decide +kernel
theorem d_Mo_goOnWithTerm_310 : decode b_Mo_goOnWithTerm 310 = .ok (.goto 23, 3) := by decide +kernel
theorem d_Mo_goOnWithTerm_313 : decode b_Mo_goOnWithTerm 313 = .ok (.iload_n 2, 1) := by decide +kernel
theorem d_Mo_goOnWithTerm_314 : decode b_Mo_goOnWithTerm 314 = .ok (.iconst 3, 1) := by decide +kernel
theorem d_Mo_goOnWithTerm_315 : decode b_Mo_goOnWithTerm 315 = .ok (.if_icmp .ne 7, 3) := by decide +kernel
theorem d_Mo_goOnWithTerm_318 : decode b_Mo_goOnWithTerm 318 = .ok (.iconst 5, 1) := by decide +kernel
theorem d_Mo_goOnWithTerm_319 : decode b_Mo_goOnWithTerm 319 = .ok (.goto 14, 3) := by decide +kernel
theorem d_Mo_goOnWithTerm_322 : decode b_Mo_goOnWithTerm 322 = .ok (.iload_n 2, 1) := by decide +kernel
theorem d_Mo_goOnWithTerm_323 : decode b_Mo_goOnWithTerm 323 = .ok (.iconst 4, 1) := by decide +kernel
theorem d_Mo_goOnWithTerm_324 : decode b_Mo_goOnWithTerm 324 = .ok (.if_icmp .ne 8, 3) := by decide +kernel
theorem d_Mo_goOnWithTerm_327 : decode b_Mo_goOnWithTerm 327 = .ok (.bipush 6, 2) := by decide +kernel
theorem d_Mo_goOnWithTerm_329 : decode b_Mo_goOnWithTerm 329 = .ok (.goto 4, 3) := by decide +kernel
theorem d_Mo_goOnWithTerm_332 : decode b_Mo_goOnWithTerm 332 = .ok (.iconst 2, 1) := by decide +kernel
theorem d_Mo_goOnWithTerm_333 : decode b_Mo_goOnWithTerm 333 = .ok (.iload_n 1, 1) := by decide +kernel
theorem d_Mo_goOnWithTerm_334 : decode b_Mo_goOnWithTerm 334 = .ok (.aload_n 0, 1) := by decide +kernel
theorem d_Mo_goOnWithTerm_335 : decode b_Mo_goOnWithTerm 335 = .ok (.getfield 154, 3) := by decide +kernel
theorem d_Mo_goOnWithTerm_338 : decode b_Mo_goOnWithTerm 338 = .ok (.lconst 0, 1) := by decide +kernel
theorem d_Mo_goOnWithTerm_339 : decode b_Mo_goOnWithTerm 339 = .ok (.invokevirtual 203, 3) := by decide +kernel
theorem d_Mo_goOnWithTerm_342 : decode b_Mo_goOnWithTerm 342 = .ok (.aload_n 0, 1) := by decide +kernel
theorem d_Mo_goOnWithTerm_343 : decode b_Mo_goOnWithTerm 343 = .ok (.iload_n 2, 1) := by decide +kernel
theorem d_Mo_goOnWithTerm_344 : decode b_Mo_goOnWithTerm 344 = .ok (.bipush 14, 2) := by decide +kernel
theorem d_Mo_goOnWithTerm_346 : decode b_Mo_goOnWithTerm 346 = .ok (.if_icmp .ne 12, 3) := by decide +kernel
theorem d_Mo_goOnWithTerm_349 : decode b_Mo_goOnWithTerm 349 = .ok (.aload_n 0, 1) := by decide +kernel
theorem d_Mo_goOnWithTerm_350 : decode b_Mo_goOnWithTerm 350 = .ok (.getfield 19, 3) := by decide +kernel
theorem d_Mo_goOnWithTerm_353 : decode b_Mo_goOnWithTerm 353 = .ok (.iload_n 1, 1) := by decide +kernel
theorem d_Mo_goOnWithTerm_354 : decode b_Mo_goOnWithTerm 354 = .ok (.iaload, 1) := by decide +kernel
theorem d_Mo_goOnWithTerm_355 : decode b_Mo_goOnWithTerm 355 = .ok (.goto 9, 3) := by decide +kernel
theorem d_Mo_goOnWithTerm_358 : decode b_Mo_goOnWithTerm 358 = .ok (.aload_n 0, 1) := by decide +kernel
theorem d_Mo_goOnWithTerm_359 : decode b_Mo_goOnWithTerm 359 = .ok (.getfield 13, 3) := by decide +kernel
theorem d_Mo_goOnWithTerm_362 : decode b_Mo_goOnWithTerm 362 = .ok (.iload_n 1, 1) := by decide +kernel
theorem d_Mo_goOnWithTerm_363 : decode b_Mo_goOnWithTerm 363 = .ok (.iaload, 1) := by decide +kernel
theorem d_Mo_goOnWithTerm_364 : decode b_Mo_goOnWithTerm 364 = .ok (.aload_n 0, 1) := by decide +kernel
theorem d_Mo_goOnWithTerm_365 : decode b_Mo_goOnWithTerm 365 = .ok (.getfield 154, 3) := by decide +kernel
theorem d_Mo_goOnWithTerm_368 : decode b_Mo_goOnWithTerm 368 = .ok (.invokevirtual 144, 3) := by decide +kernel
theorem d_Mo_goOnWithTerm_371 : decode b_Mo_goOnWithTerm 371 = .ok (.return_, 1) := by decide +kernel
theorem d_Mo_act_0 : decode b_Mo_act 0 = .ok (.iload_n 1, 1) := by decide +kernel
theorem d_Mo_act_1 : decode b_Mo_act 1 = .ok (.iconst 3, 1) := by decide +kernel
theorem d_Mo_act_2 : decode b_Mo_act 2 = .ok (.if_icmp .ne 16, 3) := by decide +kernel
theorem d_Mo_act_5 : decode b_Mo_act 5 = .ok (.lload 4, 2) := by decide +kernel
theorem d_Mo_act_7 : decode b_Mo_act 7 = .ok (.lconst 0, 1) := by decide +kernel
theorem d_Mo_act_8 : decode b_Mo_act 8 = .ok (.lcmp, 1) := by decide +kernel
theorem d_Mo_act_9 : decode b_Mo_act 9 = .ok (.ifCond .ne 9, 3) := by decide +kernel
theorem d_Mo_act_12 : decode b_Mo_act 12 = .ok (.aload_n 0, 1) := by decide +kernel
theorem d_Mo_act_13 : decode b_Mo_act 13 = .ok (.iconst 4, 1) := by decide +kernel
theorem d_Mo_act_14 : decode b_Mo_act 14 = .ok (.putfield 141, 3) := by decide +kernel
theorem d_Mo_act_17 : decode b_Mo_act 17 = .ok (.return_, 1) := by decide +kernel
theorem d_Mo_act_18 : decode b_Mo_act 18 = .ok (.aload_n 0, 1) := by decide +kernel
theorem d_Mo_act_19 : decode b_Mo_act 19 = .ok (.dup, 1) := by decide +kernel
theorem d_Mo_act_20 : decode b_Mo_act 20 = .ok (.getfield 122, 3) := by decide +kernel
theorem d_Mo_act_23 : decode b_Mo_act 23 = .ok (.iconst 1, 1) := by decide +kernel
theorem d_Mo_act_24 : decode b_Mo_act 24 = .ok (.isub, 1) := by decide +kernel
theorem d_Mo_act_25 : decode b_Mo_act 25 = .ok (.putfield 122, 3) := by decide +kernel
theorem d_Mo_act_28 : decode b_Mo_act 28 = .ok (.iload_n 1, 1) := by decide +kernel
theorem d_Mo_act_29 : decode b_Mo_act 29 = .ok (.ifCond .ne 10, 3) := by decide +kernel
theorem d_Mo_act_32 : decode b_Mo_act 32 = .ok (.lload_n 2, 1) := by decide +kernel
theorem d_Mo_act_33 : decode b_Mo_act 33 = .ok (.lload 4, 2) := by decide +kernel
theorem d_Mo_act_35 : decode b_Mo_act 35 = .ok (.ladd, 1) := by decide +kernel
theorem d_Mo_act_36 : decode b_Mo_act 36 = .ok (.goto 71, 3) := by decide +kernel
theorem d_Mo_act_39 : decode b_Mo_act 39 = .ok (.iload_n 1, 1) := by decide +kernel
theorem d_Mo_act_40 : decode b_Mo_act 40 = .ok (.iconst 1, 1) := by decide +kernel
theorem d_Mo_act_41 : decode b_Mo_act 41 = .ok (.if_icmp .ne 10, 3) := by decide +kernel
theorem d_Mo_act_44 : decode b_Mo_act 44 = .ok (.lload_n 2, 1) := by decide +kernel
theorem d_Mo_act_45 : decode b_Mo_act 45 = .ok (.lload 4, 2) := by decide +kernel
theorem d_Mo_act_47 : decode b_Mo_act 47 = .ok (.lsub, 1) := by decide +kernel
theorem d_Mo_act_48 : decode b_Mo_act 48 = .ok (.goto 59, 3) := by decide +kernel
theorem d_Mo_act_51 : decode b_Mo_act 51 = .ok (.iload_n 1, 1) := by decide +kernel
theorem d_Mo_act_52 : decode b_Mo_act 52 = .ok (.iconst 2, 1) := by decide +kernel
theorem d_Mo_act_53 : decode b_Mo_act 53 = .ok (.if_icmp .ne 10, 3) := by decide +kernel
theorem d_Mo_act_56 : decode b_Mo_act 56 = .ok (.lload_n 2, 1) := by decide +kernel
theorem d_Mo_act_57 : decode b_Mo_act 57 = .ok (.lload 4, 2) := by decide +kernel
theorem d_Mo_act_59 : decode b_Mo_act 59 = .ok (.lmul, 1) := by decide +kernel
theorem d_Mo_act_60 : decode b_Mo_act 60 = .ok (.goto 47, 3) := by decide +kernel
theorem d_Mo_act_63 : decode b_Mo_act 63 = .ok (.iload_n 1, 1) := by decide +kernel
theorem d_Mo_act_64 : decode b_Mo_act 64 = .ok (.iconst 3, 1) := by decide +kernel
theorem d_Mo_act_65 : decode b_Mo_act 65 = .ok (.if_icmp .ne 10, 3) := by decide +kernel
theorem d_Mo_act_68 : decode b_Mo_act 68 = .ok (.lload_n 2, 1) := by decide +kernel
theorem d_Mo_act_69 : decode b_Mo_act 69 = .ok (.lload 4, 2) := by decide +kernel
theorem d_Mo_act_71 : decode b_Mo_act 71 = .ok (.ldiv, 1) := by decide +kernel
theorem d_Mo_act_72 : decode b_Mo_act 72 = .ok (.goto 35, 3) := by decide +kernel
theorem d_Mo_act_75 : decode b_Mo_act 75 = .ok (.iload_n 1, 1) := by decide +kernel
theorem d_Mo_act_76 : decode b_Mo_act 76 = .ok (.iconst 4, 1) := by decide +kernel
theorem d_Mo_act_77 : decode b_Mo_act 77 = .ok (.if_icmp .ne 18, 3) := by decide +kernel
theorem d_Mo_act_80 : decode b_Mo_act 80 = .ok (.lload_n 2, 1) := by decide +kernel
theorem d_Mo_act_81 : decode b_Mo_act 81 = .ok (.lload 4, 2) := by decide +kernel
theorem d_Mo_act_83 : decode b_Mo_act 83 = .ok (.lcmp, 1) := by decide +kernel
theorem d_Mo_act_84 : decode b_Mo_act 84 = .ok (.ifCond .ne 7, 3) := by decide +kernel
theorem d_Mo_act_87 : decode b_Mo_act 87 = .ok (.lconst 1, 1) := by decide +kernel
theorem d_Mo_act_88 : decode b_Mo_act 88 = .ok (.goto 19, 3) := by decide +kernel
theorem d_Mo_act_91 : decode b_Mo_act 91 = .ok (.lconst 0, 1) := by decide +kernel
theorem d_Mo_act_92 : decode b_Mo_act 92 = .ok (.goto 15, 3) := by decide +kernel
theorem d_Mo_act_95 : decode b_Mo_act 95 = .ok (.lload_n 2, 1) := by decide +kernel
theorem d_Mo_act_96 : decode b_Mo_act 96 = .ok (.lload 4, 2) := by decide +kernel
theorem d_Mo_act_98 : decode b_Mo_act 98 = .ok (.lcmp, 1) := by decide +kernel
theorem d_Mo_act_99 : decode b_Mo_act 99 = .ok (.ifCond .ge 7, 3) := by decide +kernel
theorem d_Mo_act_102 : decode b_Mo_act 102 = .ok (.lconst 1, 1) := by decide +kernel
theorem d_Mo_act_103 : decode b_Mo_act 103 = .ok (.goto 4, 3) := by decide +kernel
theorem d_Mo_act_106 : decode b_Mo_act 106 = .ok (.lconst 0, 1) := by decide +kernel
theorem d_Mo_act_107 : decode b_Mo_act 107 = .ok (.lstore 6, 2) := by decide +kernel
theorem d_Mo_act_109 : decode b_Mo_act 109 = .ok (.aload_n 0, 1) := by decide +kernel
theorem d_Mo_act_110 : decode b_Mo_act 110 = .ok (.iconst 0, 1) := by decide +kernel
theorem d_Mo_act_111 : decode b_Mo_act 111 = .ok (.lload 6, 2) := by decide +kernel
theorem d_Mo_act_113 : decode b_Mo_act 113 = .ok (.iconst (-1), 1) := by decide +kernel
theorem d_Mo_act_114 : decode b_Mo_act 114 = .ok (.iconst (-1), 1) := by decide +kernel
theorem d_Mo_act_115 : decode b_Mo_act 115 = .ok (.invokevirtual 196, 3) := by decide +kernel
theorem d_Mo_act_118 : decode b_Mo_act 118 = .ok (.return_, 1) := by decide +kernel
theorem d_Mo_goOnWithValue_0 : decode b_Mo_goOnWithValue 0 = .ok (.aload_n 0, 1) := by decide +kernel
theorem d_Mo_goOnWithValue_1 : decode b_Mo_goOnWithValue 1 = .ok (.getfield 122, 3) := by decide +kernel
theorem d_Mo_goOnWithValue_4 : decode b_Mo_goOnWithValue 4 = .ok (.iconst 1, 1) := by decide +kernel
theorem d_Mo_goOnWithValue_5 : decode b_Mo_goOnWithValue 5 = .ok (.isub, 1) := by decide +kernel
theorem d_Mo_goOnWithValue_6 : decode b_Mo_goOnWithValue 6 = .ok (.istore_n 1, 1) := by decide +kernel
theorem d_Mo_goOnWithValue_7 : decode b_Mo_goOnWithValue 7 = .ok (.aload_n 0, 1) := by decide +kernel
theorem d_Mo_goOnWithValue_8 : decode b_Mo_goOnWithValue 8 = .ok (.getfield 66, 3) := by decide +kernel
theorem d_Mo_goOnWithValue_11 : decode b_Mo_goOnWithValue 11 = .ok (.iload_n 1, 1) := by decide +kernel
theorem d_Mo_goOnWithValue_12 : decode b_Mo_goOnWithValue 12 = .ok (.iaload, 1) := by decide +kernel
theorem d_Mo_goOnWithValue_13 : decode b_Mo_goOnWithValue 13 = .ok (.istore_n 2, 1) := by decide +kernel
theorem d_Mo_goOnWithValue_14 : decode b_Mo_goOnWithValue 14 = .ok (.iload_n 2, 1) := by decide +kernel
theorem d_Mo_goOnWithValue_15 : decode b_Mo_goOnWithValue 15 = .ok (.ifCond .ne 63, 3) := by decide +kernel
theorem d_Mo_goOnWithValue_18 : decode b_Mo_goOnWithValue 18 = .ok (.aload_n 0, 1) := by decide +kernel
theorem d_Mo_goOnWithValue_19 : decode b_Mo_goOnWithValue 19 = .ok (.getfield 69, 3) := by decide +kernel
theorem d_Mo_goOnWithValue_22 : decode b_Mo_goOnWithValue 22 = .ok (.iload_n 1, 1) := by decide +kernel
theorem d_Mo_goOnWithValue_23 : decode b_Mo_goOnWithValue 23 = .ok (.iaload, 1) := by decide +kernel
theorem d_Mo_goOnWithValue_24 : decode b_Mo_goOnWithValue 24 = .ok (.istore_n 3, 1) := by decide +kernel
theorem d_Mo_goOnWithValue_25 : decode b_Mo_goOnWithValue 25 = .ok (.aload_n 0, 1) := by decide +kernel
theorem d_Mo_goOnWithValue_26 : decode b_Mo_goOnWithValue 26 = .ok (.getfield 29, 3) := by decide +kernel
theorem d_Mo_goOnWithValue_29 : decode b_Mo_goOnWithValue 29 = .ok (.iload_n 3, 1) := by decide +kernel
theorem d_Mo_goOnWithValue_30 : decode b_Mo_goOnWithValue 30 = .ok (.iconst 2, 1) := by decide +kernel
theorem d_Mo_goOnWithValue_31 : decode b_Mo_goOnWithValue 31 = .ok (.iastore, 1) := by decide +kernel
theorem d_Mo_goOnWithValue_32 : decode b_Mo_goOnWithValue 32 = .ok (.aload_n 0, 1) := by decide +kernel
theorem d_Mo_goOnWithValue_33 : decode b_Mo_goOnWithValue 33 = .ok (.getfield 38, 3) := by decide +kernel
theorem d_Mo_goOnWithValue_36 : decode b_Mo_goOnWithValue 36 = .ok (.iload_n 3, 1) := by decide +kernel
theorem d_Mo_goOnWithValue_37 : decode b_Mo_goOnWithValue 37 = .ok (.aload_n 0, 1) := by decide +kernel
theorem d_Mo_goOnWithValue_38 : decode b_Mo_goOnWithValue 38 = .ok (.getfield 157, 3) := by decide +kernel
theorem d_Mo_goOnWithValue_41 : decode b_Mo_goOnWithValue 41 = .ok (.iastore, 1) := by decide +kernel
theorem d_Mo_goOnWithValue_42 : decode b_Mo_goOnWithValue 42 = .ok (.aload_n 0, 1) := by decide +kernel
theorem d_Mo_goOnWithValue_43 : decode b_Mo_goOnWithValue 43 = .ok (.getfield 41, 3) := by decide +kernel
theorem d_Mo_goOnWithValue_46 : decode b_Mo_goOnWithValue 46 = .ok (.iload_n 3, 1) := by decide +kernel
theorem d_Mo_goOnWithValue_47 : decode b_Mo_goOnWithValue 47 = .ok (.aload_n 0, 1) := by decide +kernel
theorem d_Mo_goOnWithValue_48 : decode b_Mo_goOnWithValue 48 = .ok (.getfield 160, 3) := by decide +kernel
theorem d_Mo_goOnWithValue_51 : decode b_Mo_goOnWithValue 51 = .ok (.lastore, 1) := by decide +kernel
theorem d_Mo_goOnWithValue_52 : decode b_Mo_goOnWithValue 52 = .ok (.aload_n 0, 1) := by decide +kernel
theorem d_Mo_goOnWithValue_53 : decode b_Mo_goOnWithValue 53 = .ok (.getfield 44, 3) := by decide +kernel
theorem d_Mo_goOnWithValue_56 : decode b_Mo_goOnWithValue 56 = .ok (.iload_n 3, 1) := by decide +kernel
theorem d_Mo_goOnWithValue_57 : decode b_Mo_goOnWithValue 57 = .ok (.aload_n 0, 1) := by decide +kernel
theorem d_Mo_goOnWithValue_58 : decode b_Mo_goOnWithValue 58 = .ok (.getfield 164, 3) := by decide +kernel
theorem d_Mo_goOnWithValue_61 : decode b_Mo_goOnWithValue 61 = .ok (.iastore, 1) := by decide +kernel
theorem d_Mo_goOnWithValue_62 : decode b_Mo_goOnWithValue 62 = .ok (.aload_n 0, 1) := by decide +kernel
theorem d_Mo_goOnWithValue_63 : decode b_Mo_goOnWithValue 63 = .ok (.getfield 47, 3) := by decide +kernel
theorem d_Mo_goOnWithValue_66 : decode b_Mo_goOnWithValue 66 = .ok (.iload_n 3, 1) := by decide +kernel
theorem d_Mo_goOnWithValue_67 : decode b_Mo_goOnWithValue 67 = .ok (.aload_n 0, 1) := by decide +kernel
theorem d_Mo_goOnWithValue_68 : decode b_Mo_goOnWithValue 68 = .ok (.getfield 167, 3) := by decide +kernel
theorem d_Mo_goOnWithValue_71 : decode b_Mo_goOnWithValue 71 = .ok (.iastore, 1) := by decide +kernel
theorem d_Mo_goOnWithValue_72 : decode b_Mo_goOnWithValue 72 = .ok (.aload_n 0, 1) := by decide +kernel
theorem d_Mo_goOnWithValue_73 : decode b_Mo_goOnWithValue 73 = .ok (.iload_n 1, 1) := by decide +kernel
theorem d_Mo_goOnWithValue_74 : decode b_Mo_goOnWithValue 74 = .ok (.putfield 122, 3) := by decide +kernel
theorem d_Mo_goOnWithValue_77 : decode b_Mo_goOnWithValue 77 = .ok (.return_, 1) := by decide +kernel
theorem d_Mo_goOnWithValue_78 : decode b_Mo_goOnWithValue 78 = .ok (.iload_n 2, 1) := by decide +kernel
theorem d_Mo_goOnWithValue_79 : decode b_Mo_goOnWithValue 79 = .ok (.iconst 1, 1) := by decide +kernel
theorem d_Mo_goOnWithValue_80 : decode b_Mo_goOnWithValue 80 = .ok (.if_icmp .ne 7, 3) := by decide +kernel
theorem d_Mo_goOnWithValue_83 : decode b_Mo_goOnWithValue 83 = .ok (.iconst 1, 1) := by decide +kernel
theorem d_Mo_goOnWithValue_84 : decode b_Mo_goOnWithValue 84 = .ok (.goto 13, 3) := by decide +kernel
theorem d_Mo_goOnWithValue_87 : decode b_Mo_goOnWithValue 87 = .ok (.iload_n 2, 1) := by decide +kernel
theorem d_Mo_goOnWithValue_88 : decode b_Mo_goOnWithValue 88 = .ok (.iconst 5, 1) := by decide +kernel
theorem d_Mo_goOnWithValue_89 : decode b_Mo_goOnWithValue 89 = .ok (.if_icmp .ge 7, 3) := by decide +kernel
theorem d_Mo_goOnWithValue_92 : decode b_Mo_goOnWithValue 92 = .ok (.iconst 0, 1) := by decide +kernel
theorem d_Mo_goOnWithValue_93 : decode b_Mo_goOnWithValue 93 = .ok (.goto 4, 3) := by decide +kernel
theorem d_Mo_goOnWithValue_96 : decode b_Mo_goOnWithValue 96 = .ok (.iconst 2, 1) := by decide +kernel
theorem d_Mo_goOnWithValue_97 : decode b_Mo_goOnWithValue 97 = .ok (.istore_n 3, 1) := by decide +kernel
theorem d_Mo_goOnWithValue_98 : decode b_Mo_goOnWithValue 98 = .ok (.aload_n 0, 1) := by decide +kernel
theorem d_Mo_goOnWithValue_99 : decode b_Mo_goOnWithValue 99 = .ok (.getfield 157, 3) := by decide +kernel
theorem d_Mo_goOnWithValue_102 : decode b_Mo_goOnWithValue 102 = .ok (.iload_n 3, 1) := by decide +kernel
theorem d_Mo_goOnWithValue_103 : decode b_Mo_goOnWithValue 103 = .ok (.if_icmp .eq 11, 3) := by decide +kernel
theorem d_Mo_goOnWithValue_106 : decode b_Mo_goOnWithValue 106 = .ok (.aload_n 0, 1) := by decide +kernel
theorem d_Mo_goOnWithValue_107 : decode b_Mo_goOnWithValue 107 = .ok (.iconst 4, 1) := by decide +kernel
theorem d_Mo_goOnWithValue_108 : decode b_Mo_goOnWithValue 108 = .ok (.putfield 141, 3) := by decide +kernel
theorem d_Mo_goOnWithValue_111 : decode b_Mo_goOnWithValue 111 = .ok (.goto 208, 3) := by decide +kernel
theorem d_Mo_goOnWithValue_114 : decode b_Mo_goOnWithValue 114 = .ok (.iload_n 2, 1) := by decide +kernel
theorem d_Mo_goOnWithValue_115 : decode b_Mo_goOnWithValue 115 = .ok (.iconst 1, 1) := by decide +kernel
theorem d_Mo_goOnWithValue_116 : decode b_Mo_goOnWithValue 116 = .ok (.if_icmp .ne 43, 3) := by decide +kernel
theorem d_Mo_goOnWithValue_119 : decode b_Mo_goOnWithValue 119 = .ok (.aload_n 0, 1) := by decide +kernel
theorem d_Mo_goOnWithValue_120 : decode b_Mo_goOnWithValue 120 = .ok (.iconst 0, 1) := by decide +kernel
theorem d_Mo_goOnWithValue_121 : decode b_Mo_goOnWithValue 121 = .ok (.iconst 1, 1) := by decide +kernel
theorem d_Mo_goOnWithValue_122 : decode b_Mo_goOnWithValue 122 = .ok (.iconst (-1), 1) := by decide +kernel
theorem d_Mo_goOnWithValue_123 : decode b_Mo_goOnWithValue 123 = .ok (.invokevirtual 216, 3) := by decide +kernel
theorem d_Mo_goOnWithValue_126 : decode b_Mo_goOnWithValue 126 = .ok (.ifCond .eq 193, 3) := by decide +kernel
theorem d_Mo_goOnWithValue_129 : decode b_Mo_goOnWithValue 129 = .ok (.aload_n 0, 1) := by decide +kernel
theorem d_Mo_goOnWithValue_130 : decode b_Mo_goOnWithValue 130 = .ok (.iload_n 1, 1) := by decide +kernel
theorem d_Mo_goOnWithValue_131 : decode b_Mo_goOnWithValue 131 = .ok (.putfield 122, 3) := by decide +kernel
theorem d_Mo_goOnWithValue_134 : decode b_Mo_goOnWithValue 134 = .ok (.aload_n 0, 1) := by decide +kernel
theorem d_Mo_goOnWithValue_135 : decode b_Mo_goOnWithValue 135 = .ok (.aload_n 0, 1) := by decide +kernel
theorem d_Mo_goOnWithValue_136 : decode b_Mo_goOnWithValue 136 = .ok (.getfield 164, 3) := by decide +kernel
theorem d_Mo_goOnWithValue_139 : decode b_Mo_goOnWithValue 139 = .ok (.aload_n 0, 1) := by decide +kernel
theorem d_Mo_goOnWithValue_140 : decode b_Mo_goOnWithValue 140 = .ok (.aload_n 0, 1) := by decide +kernel
theorem d_Mo_goOnWithValue_141 : decode b_Mo_goOnWithValue 141 = .ok (.getfield 69, 3) := by decide +kernel
theorem d_Mo_goOnWithValue_144 : decode b_Mo_goOnWithValue 144 = .ok (.iload_n 1, 1) := by decide +kernel
theorem d_Mo_goOnWithValue_145 : decode b_Mo_goOnWithValue 145 = .ok (.iaload, 1) := by decide +kernel
theorem d_Mo_goOnWithValue_146 : decode b_Mo_goOnWithValue 146 = .ok (.aload_n 0, 1) := by decide +kernel
theorem d_Mo_goOnWithValue_147 : decode b_Mo_goOnWithValue 147 = .ok (.getfield 167, 3) := by decide +kernel
theorem d_Mo_goOnWithValue_150 : decode b_Mo_goOnWithValue 150 = .ok (.invokevirtual 223, 3) := by decide +kernel
theorem d_Mo_goOnWithValue_153 : decode b_Mo_goOnWithValue 153 = .ok (.invokevirtual 144, 3) := by decide +kernel
theorem d_Mo_goOnWithValue_156 : decode b_Mo_goOnWithValue 156 = .ok (.goto 163, 3) := by decide +kernel
theorem d_Mo_goOnWithValue_159 : decode b_Mo_goOnWithValue 159 = .ok (.iload_n 2, 1) := by decide +kernel
theorem d_Mo_goOnWithValue_160 : decode b_Mo_goOnWithValue 160 = .ok (.iconst 2, 1) := by decide +kernel
theorem d_Mo_goOnWithValue_161 : decode b_Mo_goOnWithValue 161 = .ok (.if_icmp .ne 44, 3) := by decide +kernel
theorem d_Mo_goOnWithValue_164 : decode b_Mo_goOnWithValue 164 = .ok (.aload_n 0, 1) := by decide +kernel
theorem d_Mo_goOnWithValue_165 : decode b_Mo_goOnWithValue 165 = .ok (.getfield 66, 3) := by decide +kernel
theorem d_Mo_goOnWithValue_168 : decode b_Mo_goOnWithValue 168 = .ok (.iload_n 1, 1) := by decide +kernel
theorem d_Mo_goOnWithValue_169 : decode b_Mo_goOnWithValue 169 = .ok (.iconst 3, 1) := by decide +kernel
theorem d_Mo_goOnWithValue_170 : decode b_Mo_goOnWithValue 170 = .ok (.iastore, 1) := by decide +kernel
theorem d_Mo_goOnWithValue_171 : decode b_Mo_goOnWithValue 171 = .ok (.aload_n 0, 1) := by decide +kernel
theorem d_Mo_goOnWithValue_172 : decode b_Mo_goOnWithValue 172 = .ok (.getfield 75, 3) := by decide +kernel
theorem d_Mo_goOnWithValue_175 : decode b_Mo_goOnWithValue 175 = .ok (.iload_n 1, 1) := by decide +kernel
theorem d_Mo_goOnWithValue_176 : decode b_Mo_goOnWithValue 176 = .ok (.aload_n 0, 1) := by decide +kernel
theorem d_Mo_goOnWithValue_177 : decode b_Mo_goOnWithValue 177 = .ok (.getfield 160, 3) := by decide +kernel
theorem d_Mo_goOnWithValue_180 : decode b_Mo_goOnWithValue 180 = .ok (.lastore, 1) := by decide +kernel
theorem d_Mo_goOnWithValue_181 : decode b_Mo_goOnWithValue 181 = .ok (.aload_n 0, 1) := by decide +kernel
theorem d_Mo_goOnWithValue_182 : decode b_Mo_goOnWithValue 182 = .ok (.aload_n 0, 1) := by decide +kernel
theorem d_Mo_goOnWithValue_183 : decode b_Mo_goOnWithValue 183 = .ok (.getfield 16, 3) := by decide +kernel
theorem d_Mo_goOnWithValue_186 : decode b_Mo_goOnWithValue 186 = .ok (.aload_n 0, 1) := by decide +kernel
theorem d_Mo_goOnWithValue_187 : decode b_Mo_goOnWithValue 187 = .ok (.getfield 69, 3) := by decide +kernel
theorem d_Mo_goOnWithValue_190 : decode b_Mo_goOnWithValue 190 = .ok (.iload_n 1, 1) := by decide +kernel
theorem d_Mo_goOnWithValue_191 : decode b_Mo_goOnWithValue 191 = .ok (.iaload, 1) := by decide +kernel
theorem d_Mo_goOnWithValue_192 : decode b_Mo_goOnWithValue 192 = .ok (.iaload, 1) := by decide +kernel
theorem d_Mo_goOnWithValue_193 : decode b_Mo_goOnWithValue 193 = .ok (.aload_n 0, 1) := by decide +kernel
theorem d_Mo_goOnWithValue_194 : decode b_Mo_goOnWithValue 194 = .ok (.getfield 72, 3) := by decide +kernel
theorem d_Mo_goOnWithValue_197 : decode b_Mo_goOnWithValue 197 = .ok (.iload_n 1, 1) := by decide +kernel
theorem d_Mo_goOnWithValue_198 : decode b_Mo_goOnWithValue 198 = .ok (.iaload, 1) := by decide +kernel
theorem d_Mo_goOnWithValue_199 : decode b_Mo_goOnWithValue 199 = .ok (.invokevirtual 144, 3) := by decide +kernel
theorem d_Mo_goOnWithValue_202 : decode b_Mo_goOnWithValue 202 = .ok (.goto 117, 3) := by decide +kernel
theorem d_Mo_goOnWithValue_205 : decode b_Mo_goOnWithValue 205 = .ok (.iload_n 2, 1) := by decide +kernel
theorem d_Mo_goOnWithValue_206 : decode b_Mo_goOnWithValue 206 = .ok (.iconst 3, 1) := by decide +kernel
theorem d_Mo_goOnWithValue_207 : decode b_Mo_goOnWithValue 207 = .ok (.if_icmp .ne 34, 3) := by decide +kernel
theorem d_Mo_goOnWithValue_210 : decode b_Mo_goOnWithValue 210 = .ok (.aload_n 0, 1) := by decide +kernel
theorem d_Mo_goOnWithValue_211 : decode b_Mo_goOnWithValue 211 = .ok (.aload_n 0, 1) := by decide +kernel
theorem d_Mo_goOnWithValue_212 : decode b_Mo_goOnWithValue 212 = .ok (.getfield 7, 3) := by decide +kernel
theorem d_Mo_goOnWithValue_215 : decode b_Mo_goOnWithValue 215 = .ok (.aload_n 0, 1) := by decide +kernel
theorem d_Mo_goOnWithValue_216 : decode b_Mo_goOnWithValue 216 = .ok (.getfield 69, 3) := by decide +kernel
theorem d_Mo_goOnWithValue_219 : decode b_Mo_goOnWithValue 219 = .ok (.iload_n 1, 1) := by decide +kernel
theorem d_Mo_goOnWithValue_220 : decode b_Mo_goOnWithValue 220 = .ok (.iaload, 1) := by decide +kernel
theorem d_Mo_goOnWithValue_221 : decode b_Mo_goOnWithValue 221 = .ok (.iaload, 1) := by decide +kernel
theorem d_Mo_goOnWithValue_222 : decode b_Mo_goOnWithValue 222 = .ok (.bipush 8, 2) := by decide +kernel
theorem d_Mo_goOnWithValue_224 : decode b_Mo_goOnWithValue 224 = .ok (.isub, 1) := by decide +kernel
theorem d_Mo_goOnWithValue_225 : decode b_Mo_goOnWithValue 225 = .ok (.aload_n 0, 1) := by decide +kernel
theorem d_Mo_goOnWithValue_226 : decode b_Mo_goOnWithValue 226 = .ok (.getfield 75, 3) := by decide +kernel
theorem d_Mo_goOnWithValue_229 : decode b_Mo_goOnWithValue 229 = .ok (.iload_n 1, 1) := by decide +kernel
theorem d_Mo_goOnWithValue_230 : decode b_Mo_goOnWithValue 230 = .ok (.laload, 1) := by decide +kernel
theorem d_Mo_goOnWithValue_231 : decode b_Mo_goOnWithValue 231 = .ok (.aload_n 0, 1) := by decide +kernel
theorem d_Mo_goOnWithValue_232 : decode b_Mo_goOnWithValue 232 = .ok (.getfield 160, 3) := by decide +kernel
theorem d_Mo_goOnWithValue_235 : decode b_Mo_goOnWithValue 235 = .ok (.invokevirtual 226, 3) := by decide +kernel
theorem d_Mo_goOnWithValue_238 : decode b_Mo_goOnWithValue 238 = .ok (.goto 81, 3) := by decide +kernel
theorem d_Mo_goOnWithValue_241 : decode b_Mo_goOnWithValue 241 = .ok (.iload_n 2, 1) := by decide +kernel
theorem d_Mo_goOnWithValue_242 : decode b_Mo_goOnWithValue 242 = .ok (.iconst 4, 1) := by decide +kernel
theorem d_Mo_goOnWithValue_243 : decode b_Mo_goOnWithValue 243 = .ok (.if_icmp .ne 55, 3) := by decide +kernel
theorem d_Mo_goOnWithValue_246 : decode b_Mo_goOnWithValue 246 = .ok (.aload_n 0, 1) := by decide +kernel
theorem d_Mo_goOnWithValue_247 : decode b_Mo_goOnWithValue 247 = .ok (.iload_n 1, 1) := by decide +kernel
theorem d_Mo_goOnWithValue_248 : decode b_Mo_goOnWithValue 248 = .ok (.putfield 122, 3) := by decide +kernel
theorem d_Mo_goOnWithValue_251 : decode b_Mo_goOnWithValue 251 = .ok (.aload_n 0, 1) := by decide +kernel
theorem d_Mo_goOnWithValue_252 : decode b_Mo_goOnWithValue 252 = .ok (.aload_n 0, 1) := by decide +kernel
theorem d_Mo_goOnWithValue_253 : decode b_Mo_goOnWithValue 253 = .ok (.getfield 160, 3) := by decide +kernel
theorem d_Mo_goOnWithValue_256 : decode b_Mo_goOnWithValue 256 = .ok (.lconst 0, 1) := by decide +kernel
theorem d_Mo_goOnWithValue_257 : decode b_Mo_goOnWithValue 257 = .ok (.lcmp, 1) := by decide +kernel
theorem d_Mo_goOnWithValue_258 : decode b_Mo_goOnWithValue 258 = .ok (.ifCond .ne 17, 3) := by decide +kernel
theorem d_Mo_goOnWithValue_261 : decode b_Mo_goOnWithValue 261 = .ok (.aload_n 0, 1) := by decide +kernel
theorem d_Mo_goOnWithValue_262 : decode b_Mo_goOnWithValue 262 = .ok (.getfield 16, 3) := by decide +kernel
theorem d_Mo_goOnWithValue_265 : decode b_Mo_goOnWithValue 265 = .ok (.aload_n 0, 1) := by decide +kernel
theorem d_Mo_goOnWithValue_266 : decode b_Mo_goOnWithValue 266 = .ok (.getfield 69, 3) := by decide +kernel
theorem d_Mo_goOnWithValue_269 : decode b_Mo_goOnWithValue 269 = .ok (.iload_n 1, 1) := by decide +kernel
theorem d_Mo_goOnWithValue_270 : decode b_Mo_goOnWithValue 270 = .ok (.iaload, 1) := by decide +kernel
theorem d_Mo_goOnWithValue_271 : decode b_Mo_goOnWithValue 271 = .ok (.iaload, 1) := by decide +kernel
theorem d_Mo_goOnWithValue_272 : decode b_Mo_goOnWithValue 272 = .ok (.goto 14, 3) := by decide +kernel
theorem d_Mo_goOnWithValue_275 : decode b_Mo_goOnWithValue 275 = .ok (.aload_n 0, 1) := by decide +kernel
theorem d_Mo_goOnWithValue_276 : decode b_Mo_goOnWithValue 276 = .ok (.getfield 13, 3) := by decide +kernel
theorem d_Mo_goOnWithValue_279 : decode b_Mo_goOnWithValue 279 = .ok (.aload_n 0, 1) := by decide +kernel
theorem d_Mo_goOnWithValue_280 : decode b_Mo_goOnWithValue 280 = .ok (.getfield 69, 3) := by decide +kernel
theorem d_Mo_goOnWithValue_283 : decode b_Mo_goOnWithValue 283 = .ok (.iload_n 1, 1) := by decide +kernel
theorem d_Mo_goOnWithValue_284 : decode b_Mo_goOnWithValue 284 = .ok (.iaload, 1) := by decide +kernel
theorem d_Mo_goOnWithValue_285 : decode b_Mo_goOnWithValue 285 = .ok (.iaload, 1) := by decide +kernel
theorem d_Mo_goOnWithValue_286 : decode b_Mo_goOnWithValue 286 = .ok (.aload_n 0, 1) := by decide +kernel
theorem d_Mo_goOnWithValue_287 : decode b_Mo_goOnWithValue 287 = .ok (.getfield 72, 3) := by decide +kernel
theorem d_Mo_goOnWithValue_290 : decode b_Mo_goOnWithValue 290 = .ok (.iload_n 1, 1) := by decide +kernel
theorem d_Mo_goOnWithValue_291 : decode b_Mo_goOnWithValue 291 = .ok (.iaload, 1) := by decide +kernel
theorem d_Mo_goOnWithValue_292 : decode b_Mo_goOnWithValue 292 = .ok (.invokevirtual 144, 3) := by decide +kernel
theorem d_Mo_goOnWithValue_295 : decode b_Mo_goOnWithValue 295 = .ok (.goto 24, 3) := by decide +kernel
theorem d_Mo_goOnWithValue_298 : decode b_Mo_goOnWithValue 298 = .ok (.aload_n 0, 1) := by decide +kernel
theorem d_Mo_goOnWithValue_299 : decode b_Mo_goOnWithValue 299 = .ok (.iload_n 2, 1) := by decide +kernel
theorem d_Mo_goOnWithValue_300 : decode b_Mo_goOnWithValue 300 = .ok (.iconst 5, 1) := by decide +kernel
theorem d_Mo_goOnWithValue_301 : decode b_Mo_goOnWithValue 301 = .ok (.if_icmp .ne 10, 3) := by decide +kernel
theorem d_Mo_goOnWithValue_304 : decode b_Mo_goOnWithValue 304 = .ok (.aload_n 0, 1) := by decide +kernel
theorem d_Mo_goOnWithValue_305 : decode b_Mo_goOnWithValue 305 = .ok (.getfield 164, 3) := by decide +kernel
theorem d_Mo_goOnWithValue_308 : decode b_Mo_goOnWithValue 308 = .ok (.goto 7, 3) := by decide +kernel
theorem d_Mo_goOnWithValue_311 : decode b_Mo_goOnWithValue 311 = .ok (.aload_n 0, 1) := by decide +kernel
theorem d_Mo_goOnWithValue_312 : decode b_Mo_goOnWithValue 312 = .ok (.getfield 167, 3) := by decide +kernel
theorem d_Mo_goOnWithValue_315 : decode b_Mo_goOnWithValue 315 = .ok (.iconst 1, 1) := by decide +kernel
theorem d_Mo_goOnWithValue_316 : decode b_Mo_goOnWithValue 316 = .ok (.invokevirtual 183, 3) := by decide +kernel
theorem d_Mo_goOnWithValue_319 : decode b_Mo_goOnWithValue 319 = .ok (.return_, 1) := by decide +kernel
theorem d_Mo_step_0 : decode b_Mo_step 0 = .ok (.aload_n 0, 1) := by decide +kernel
theorem d_Mo_step_1 : decode b_Mo_step 1 = .ok (.dup, 1) := by decide +kernel
theorem d_Mo_step_2 : decode b_Mo_step 2 = .ok (.getfield 128, 3) := by decide +kernel
theorem d_Mo_step_5 : decode b_Mo_step 5 = .ok (.iconst 1, 1) := by decide +kernel
theorem d_Mo_step_6 : decode b_Mo_step 6 = .ok (.iadd, 1) := by decide +kernel
theorem d_Mo_step_7 : decode b_Mo_step 7 = .ok (.putfield 128, 3) := by decide +kernel
theorem d_Mo_step_10 : decode b_Mo_step 10 = .ok (.aload_n 0, 1) := by decide +kernel
theorem d_Mo_step_11 : decode b_Mo_step 11 = .ok (.getfield 148, 3) := by decide +kernel
theorem d_Mo_step_14 : decode b_Mo_step 14 = .ok (.iconst 2, 1) := by decide +kernel
theorem d_Mo_step_15 : decode b_Mo_step 15 = .ok (.if_icmp .ne 15, 3) := by decide +kernel
theorem d_Mo_step_18 : decode b_Mo_step 18 = .ok (.aload_n 0, 1) := by decide +kernel
theorem d_Mo_step_19 : decode b_Mo_step 19 = .ok (.aload_n 0, 1) := by decide +kernel
theorem d_Mo_step_20 : decode b_Mo_step 20 = .ok (.getfield 180, 3) := by decide +kernel
theorem d_Mo_step_23 : decode b_Mo_step 23 = .ok (.iconst 0, 1) := by decide +kernel
theorem d_Mo_step_24 : decode b_Mo_step 24 = .ok (.invokevirtual 183, 3) := by decide +kernel
theorem d_Mo_step_27 : decode b_Mo_step 27 = .ok (.goto 21, 3) := by decide +kernel
theorem d_Mo_step_30 : decode b_Mo_step 30 = .ok (.aload_n 0, 1) := by decide +kernel
theorem d_Mo_step_31 : decode b_Mo_step 31 = .ok (.getfield 148, 3) := by decide +kernel
theorem d_Mo_step_34 : decode b_Mo_step 34 = .ok (.ifCond .ne 10, 3) := by decide +kernel
theorem d_Mo_step_37 : decode b_Mo_step 37 = .ok (.aload_n 0, 1) := by decide +kernel
theorem d_Mo_step_38 : decode b_Mo_step 38 = .ok (.invokevirtual 187, 3) := by decide +kernel
theorem d_Mo_step_41 : decode b_Mo_step 41 = .ok (.goto 7, 3) := by decide +kernel
theorem d_Mo_step_44 : decode b_Mo_step 44 = .ok (.aload_n 0, 1) := by decide +kernel
theorem d_Mo_step_45 : decode b_Mo_step 45 = .ok (.invokevirtual 190, 3) := by decide +kernel
theorem d_Mo_step_48 : decode b_Mo_step 48 = .ok (.aload_n 0, 1) := by decide +kernel
theorem d_Mo_step_49 : decode b_Mo_step 49 = .ok (.aload_n 0, 1) := by decide +kernel
theorem d_Mo_step_50 : decode b_Mo_step 50 = .ok (.getfield 125, 3) := by decide +kernel
theorem d_Mo_step_53 : decode b_Mo_step 53 = .ok (.aload_n 0, 1) := by decide +kernel
theorem d_Mo_step_54 : decode b_Mo_step 54 = .ok (.getfield 122, 3) := by decide +kernel
theorem d_Mo_step_57 : decode b_Mo_step 57 = .ok (.invokestatic 109, 3) := by decide +kernel
theorem d_Mo_step_60 : decode b_Mo_step 60 = .ok (.putfield 125, 3) := by decide +kernel
theorem d_Mo_step_63 : decode b_Mo_step 63 = .ok (.aload_n 0, 1) := by decide +kernel
theorem d_Mo_step_64 : decode b_Mo_step 64 = .ok (.getfield 141, 3) := by decide +kernel
theorem d_Mo_step_67 : decode b_Mo_step 67 = .ok (.iconst 1, 1) := by decide +kernel
theorem d_Mo_step_68 : decode b_Mo_step 68 = .ok (.if_icmp .ne 23, 3) := by decide +kernel
theorem d_Mo_step_71 : decode b_Mo_step 71 = .ok (.aload_n 0, 1) := by decide +kernel
theorem d_Mo_step_72 : decode b_Mo_step 72 = .ok (.getfield 148, 3) := by decide +kernel
theorem d_Mo_step_75 : decode b_Mo_step 75 = .ok (.iconst 1, 1) := by decide +kernel
theorem d_Mo_step_76 : decode b_Mo_step 76 = .ok (.if_icmp .ne 15, 3) := by decide +kernel
theorem d_Mo_step_79 : decode b_Mo_step 79 = .ok (.aload_n 0, 1) := by decide +kernel
theorem d_Mo_step_80 : decode b_Mo_step 80 = .ok (.getfield 122, 3) := by decide +kernel
theorem d_Mo_step_83 : decode b_Mo_step 83 = .ok (.ifCond .ne 8, 3) := by decide +kernel
theorem d_Mo_step_86 : decode b_Mo_step 86 = .ok (.aload_n 0, 1) := by decide +kernel
theorem d_Mo_step_87 : decode b_Mo_step 87 = .ok (.iconst 2, 1) := by decide +kernel
theorem d_Mo_step_88 : decode b_Mo_step 88 = .ok (.putfield 141, 3) := by decide +kernel
theorem d_Mo_step_91 : decode b_Mo_step 91 = .ok (.return_, 1) := by decide +kernel
theorem d_Mo_run_0 : decode b_Mo_run 0 = .ok (.aload_n 0, 1) := by decide +kernel
theorem d_Mo_run_1 : decode b_Mo_run 1 = .ok (.getfield 141, 3) := by decide +kernel
theorem d_Mo_run_4 : decode b_Mo_run 4 = .ok (.ifCond .ne 9, 3) := by decide +kernel
theorem d_Mo_run_7 : decode b_Mo_run 7 = .ok (.aload_n 0, 1) := by decide +kernel
theorem d_Mo_run_8 : decode b_Mo_run 8 = .ok (.iconst 1, 1) := by decide +kernel
theorem d_Mo_run_9 : decode b_Mo_run 9 = .ok (.invokevirtual 94, 3) := by decide +kernel
theorem d_Mo_run_12 : decode b_Mo_run 12 = .ok (.ireturn, 1) := by decide +kernel
theorem d_Mo_run_13 : decode b_Mo_run 13 = .ok (.iload_n 1, 1) := by decide +kernel
theorem d_Mo_run_14 : decode b_Mo_run 14 = .ok (.ifCond .lt 10, 3) := by decide +kernel
theorem d_Mo_run_17 : decode b_Mo_run 17 = .ok (.iload_n 1, 1) := by decide +kernel
theorem d_Mo_run_18 : decode b_Mo_run 18 = .ok (.sipush 5000, 3) := by decide +kernel
theorem d_Mo_run_21 : decode b_Mo_run 21 = .ok (.if_icmp .le 9, 3) := by decide +kernel
theorem d_Mo_run_24 : decode b_Mo_run 24 = .ok (.aload_n 0, 1) := by decide +kernel
theorem d_Mo_run_25 : decode b_Mo_run 25 = .ok (.iconst 2, 1) := by decide +kernel
theorem d_Mo_run_26 : decode b_Mo_run 26 = .ok (.invokevirtual 94, 3) := by decide +kernel
theorem d_Mo_run_29 : decode b_Mo_run 29 = .ok (.ireturn, 1) := by decide +kernel
theorem d_Mo_run_30 : decode b_Mo_run 30 = .ok (.aload_n 0, 1) := by decide +kernel
theorem d_Mo_run_31 : decode b_Mo_run 31 = .ok (.iconst 0, 1) := by decide +kernel
theorem d_Mo_run_32 : decode b_Mo_run 32 = .ok (.putfield 87, 3) := by decide +kernel
theorem d_Mo_run_35 : decode b_Mo_run 35 = .ok (.iconst 0, 1) := by decide +kernel
theorem d_Mo_run_36 : decode b_Mo_run 36 = .ok (.istore_n 2, 1) := by decide +kernel
theorem d_Mo_run_37 : decode b_Mo_run 37 = .ok (.iload_n 2, 1) := by decide +kernel
theorem d_Mo_run_38 : decode b_Mo_run 38 = .ok (.iload_n 1, 1) := by decide +kernel
theorem d_Mo_run_39 : decode b_Mo_run 39 = .ok (.if_icmp .ge 45, 3) := by decide +kernel
theorem d_Mo_run_42 : decode b_Mo_run 42 = .ok (.aload_n 0, 1) := by decide +kernel
theorem d_Mo_run_43 : decode b_Mo_run 43 = .ok (.getfield 141, 3) := by decide +kernel
theorem d_Mo_run_46 : decode b_Mo_run 46 = .ok (.iconst 1, 1) := by decide +kernel
theorem d_Mo_run_47 : decode b_Mo_run 47 = .ok (.if_icmp .ne 37, 3) := by decide +kernel
theorem d_Mo_run_50 : decode b_Mo_run 50 = .ok (.aload_n 0, 1) := by decide +kernel
theorem d_Mo_run_51 : decode b_Mo_run 51 = .ok (.getfield 170, 3) := by decide +kernel
theorem d_Mo_run_54 : decode b_Mo_run 54 = .ok (.ifCond .le 20, 3) := by decide +kernel
theorem d_Mo_run_57 : decode b_Mo_run 57 = .ok (.aload_n 0, 1) := by decide +kernel
theorem d_Mo_run_58 : decode b_Mo_run 58 = .ok (.getfield 128, 3) := by decide +kernel
theorem d_Mo_run_61 : decode b_Mo_run 61 = .ok (.aload_n 0, 1) := by decide +kernel
theorem d_Mo_run_62 : decode b_Mo_run 62 = .ok (.getfield 170, 3) := by decide +kernel
theorem d_Mo_run_65 : decode b_Mo_run 65 = .ok (.irem, 1) := by decide +kernel
theorem d_Mo_run_66 : decode b_Mo_run 66 = .ok (.ifCond .ne 8, 3) := by decide +kernel
theorem d_Mo_run_69 : decode b_Mo_run 69 = .ok (.aload_n 0, 1) := by decide +kernel
theorem d_Mo_run_70 : decode b_Mo_run 70 = .ok (.invokevirtual 173, 3) := by decide +kernel
theorem d_Mo_run_73 : decode b_Mo_run 73 = .ok (.istore_n 3, 1) := by decide +kernel
theorem d_Mo_run_74 : decode b_Mo_run 74 = .ok (.aload_n 0, 1) := by decide +kernel
theorem d_Mo_run_75 : decode b_Mo_run 75 = .ok (.invokevirtual 177, 3) := by decide +kernel
theorem d_Mo_run_78 : decode b_Mo_run 78 = .ok (.iinc 2 1, 3) := by decide +kernel
theorem d_Mo_run_81 : decode b_Mo_run 81 = .ok (.goto (-44), 3) := by decide +kernel
theorem d_Mo_run_84 : decode b_Mo_run 84 = .ok (.iload_n 2, 1) := by decide +kernel
theorem d_Mo_run_85 : decode b_Mo_run 85 = .ok (.ireturn, 1) := by decide +kernel
theorem d_Mo_into_0 : decode b_Mo_into 0 = .ok (.aload_n 0, 1) := by decide +kernel
theorem d_Mo_into_1 : decode b_Mo_into 1 = .ok (.getfield 141, 3) := by decide +kernel
theorem d_Mo_into_4 : decode b_Mo_into 4 = .ok (.iconst 2, 1) := by decide +kernel
theorem d_Mo_into_5 : decode b_Mo_into 5 = .ok (.if_icmp .ne 11, 3) := by decide +kernel
theorem d_Mo_into_8 : decode b_Mo_into 8 = .ok (.aload_n 0, 1) := by decide +kernel
theorem d_Mo_into_9 : decode b_Mo_into 9 = .ok (.getfield 157, 3) := by decide +kernel
theorem d_Mo_into_12 : decode b_Mo_into 12 = .ok (.iconst 2, 1) := by decide +kernel
theorem d_Mo_into_13 : decode b_Mo_into 13 = .ok (.if_icmp .eq 9, 3) := by decide +kernel
theorem d_Mo_into_16 : decode b_Mo_into 16 = .ok (.aload_n 0, 1) := by decide +kernel
theorem d_Mo_into_17 : decode b_Mo_into 17 = .ok (.iconst 1, 1) := by decide +kernel
theorem d_Mo_into_18 : decode b_Mo_into 18 = .ok (.putfield 87, 3) := by decide +kernel
theorem d_Mo_into_21 : decode b_Mo_into 21 = .ok (.return_, 1) := by decide +kernel
theorem d_Mo_into_22 : decode b_Mo_into 22 = .ok (.iload_n 1, 1) := by decide +kernel
theorem d_Mo_into_23 : decode b_Mo_into 23 = .ok (.ifCond .lt 8, 3) := by decide +kernel
theorem d_Mo_into_26 : decode b_Mo_into 26 = .ok (.iload_n 1, 1) := by decide +kernel
theorem d_Mo_into_27 : decode b_Mo_into 27 = .ok (.iconst 1, 1) := by decide +kernel
theorem d_Mo_into_28 : decode b_Mo_into 28 = .ok (.if_icmp .le 9, 3) := by decide +kernel
theorem d_Mo_into_31 : decode b_Mo_into 31 = .ok (.aload_n 0, 1) := by decide +kernel
theorem d_Mo_into_32 : decode b_Mo_into 32 = .ok (.iconst 2, 1) := by decide +kernel
theorem d_Mo_into_33 : decode b_Mo_into 33 = .ok (.putfield 87, 3) := by decide +kernel
theorem d_Mo_into_36 : decode b_Mo_into 36 = .ok (.return_, 1) := by decide +kernel
theorem d_Mo_into_37 : decode b_Mo_into 37 = .ok (.aload_n 0, 1) := by decide +kernel
theorem d_Mo_into_38 : decode b_Mo_into 38 = .ok (.iconst 0, 1) := by decide +kernel
theorem d_Mo_into_39 : decode b_Mo_into 39 = .ok (.putfield 87, 3) := by decide +kernel
theorem d_Mo_into_42 : decode b_Mo_into 42 = .ok (.aload_n 0, 1) := by decide +kernel
theorem d_Mo_into_43 : decode b_Mo_into 43 = .ok (.iload_n 1, 1) := by decide +kernel
theorem d_Mo_into_44 : decode b_Mo_into 44 = .ok (.ifCond .ne 10, 3) := by decide +kernel
theorem d_Mo_into_47 : decode b_Mo_into 47 = .ok (.aload_n 0, 1) := by decide +kernel
theorem d_Mo_into_48 : decode b_Mo_into 48 = .ok (.getfield 164, 3) := by decide +kernel
theorem d_Mo_into_51 : decode b_Mo_into 51 = .ok (.goto 7, 3) := by decide +kernel
theorem d_Mo_into_54 : decode b_Mo_into 54 = .ok (.aload_n 0, 1) := by decide +kernel
theorem d_Mo_into_55 : decode b_Mo_into 55 = .ok (.getfield 167, 3) := by decide +kernel
theorem d_Mo_into_58 : decode b_Mo_into 58 = .ok (.putfield 180, 3) := by decide +kernel
theorem d_Mo_into_61 : decode b_Mo_into 61 = .ok (.aload_n 0, 1) := by decide +kernel
theorem d_Mo_into_62 : decode b_Mo_into 62 = .ok (.iconst 2, 1) := by decide +kernel
theorem d_Mo_into_63 : decode b_Mo_into 63 = .ok (.putfield 148, 3) := by decide +kernel
theorem d_Mo_into_66 : decode b_Mo_into 66 = .ok (.aload_n 0, 1) := by decide +kernel
theorem d_Mo_into_67 : decode b_Mo_into 67 = .ok (.iconst 1, 1) := by decide +kernel
theorem d_Mo_into_68 : decode b_Mo_into 68 = .ok (.putfield 141, 3) := by decide +kernel
theorem d_Mo_into_71 : decode b_Mo_into 71 = .ok (.return_, 1) := by decide +kernel
theorem d_Mo_outcome_0 : decode b_Mo_outcome 0 = .ok (.aload_n 0, 1) := by decide +kernel
theorem d_Mo_outcome_1 : decode b_Mo_outcome 1 = .ok (.iconst 0, 1) := by decide +kernel
theorem d_Mo_outcome_2 : decode b_Mo_outcome 2 = .ok (.putfield 87, 3) := by decide +kernel
theorem d_Mo_outcome_5 : decode b_Mo_outcome 5 = .ok (.aload_n 0, 1) := by decide +kernel
theorem d_Mo_outcome_6 : decode b_Mo_outcome 6 = .ok (.getfield 141, 3) := by decide +kernel
theorem d_Mo_outcome_9 : decode b_Mo_outcome 9 = .ok (.ireturn, 1) := by decide +kernel
theorem d_Mo_sort_0 : decode b_Mo_sort 0 = .ok (.aload_n 0, 1) := by decide +kernel
theorem d_Mo_sort_1 : decode b_Mo_sort 1 = .ok (.iconst 0, 1) := by decide +kernel
theorem d_Mo_sort_2 : decode b_Mo_sort 2 = .ok (.putfield 87, 3) := by decide +kernel
theorem d_Mo_sort_5 : decode b_Mo_sort 5 = .ok (.aload_n 0, 1) := by decide +kernel
theorem d_Mo_sort_6 : decode b_Mo_sort 6 = .ok (.getfield 141, 3) := by decide +kernel
theorem d_Mo_sort_9 : decode b_Mo_sort 9 = .ok (.iconst 2, 1) := by decide +kernel
theorem d_Mo_sort_10 : decode b_Mo_sort 10 = .ok (.if_icmp .ne 10, 3) := by decide +kernel
theorem d_Mo_sort_13 : decode b_Mo_sort 13 = .ok (.aload_n 0, 1) := by decide +kernel
theorem d_Mo_sort_14 : decode b_Mo_sort 14 = .ok (.getfield 157, 3) := by decide +kernel
theorem d_Mo_sort_17 : decode b_Mo_sort 17 = .ok (.goto 4, 3) := by decide +kernel
theorem d_Mo_sort_20 : decode b_Mo_sort 20 = .ok (.iconst (-1), 1) := by decide +kernel
theorem d_Mo_sort_21 : decode b_Mo_sort 21 = .ok (.ireturn, 1) := by decide +kernel
theorem d_Mo_value_0 : decode b_Mo_value 0 = .ok (.aload_n 0, 1) := by decide +kernel
theorem d_Mo_value_1 : decode b_Mo_value 1 = .ok (.iconst 0, 1) := by decide +kernel
theorem d_Mo_value_2 : decode b_Mo_value 2 = .ok (.putfield 87, 3) := by decide +kernel
theorem d_Mo_value_5 : decode b_Mo_value 5 = .ok (.aload_n 0, 1) := by decide +kernel
theorem d_Mo_value_6 : decode b_Mo_value 6 = .ok (.getfield 141, 3) := by decide +kernel
theorem d_Mo_value_9 : decode b_Mo_value 9 = .ok (.iconst 2, 1) := by decide +kernel
theorem d_Mo_value_10 : decode b_Mo_value 10 = .ok (.if_icmp .ne 17, 3) := by decide +kernel
theorem d_Mo_value_13 : decode b_Mo_value 13 = .ok (.aload_n 0, 1) := by decide +kernel
theorem d_Mo_value_14 : decode b_Mo_value 14 = .ok (.getfield 157, 3) := by decide +kernel
theorem d_Mo_value_17 : decode b_Mo_value 17 = .ok (.ifCond .ne 10, 3) := by decide +kernel
theorem d_Mo_value_20 : decode b_Mo_value 20 = .ok (.aload_n 0, 1) := by decide +kernel
theorem d_Mo_value_21 : decode b_Mo_value 21 = .ok (.getfield 160, 3) := by decide +kernel
theorem d_Mo_value_24 : decode b_Mo_value 24 = .ok (.goto 4, 3) := by decide +kernel
theorem d_Mo_value_27 : decode b_Mo_value 27 = .ok (.lconst 0, 1) := by decide +kernel
theorem d_Mo_value_28 : decode b_Mo_value 28 = .ok (.lreturn, 1) := by decide +kernel
theorem d_Mo_told_0 : decode b_Mo_told 0 = .ok (.iload_n 1, 1) := by decide +kernel
theorem d_Mo_told_1 : decode b_Mo_told 1 = .ok (.ifCond .lt 9, 3) := by decide +kernel
theorem d_Mo_told_4 : decode b_Mo_told 4 = .ok (.iload_n 1, 1) := by decide +kernel
theorem d_Mo_told_5 : decode b_Mo_told 5 = .ok (.bipush 7, 2) := by decide +kernel
theorem d_Mo_told_7 : decode b_Mo_told 7 = .ok (.if_icmp .le 9, 3) := by decide +kernel
theorem d_Mo_told_10 : decode b_Mo_told 10 = .ok (.aload_n 0, 1) := by decide +kernel
theorem d_Mo_told_11 : decode b_Mo_told 11 = .ok (.iconst 1, 1) := by decide +kernel
theorem d_Mo_told_12 : decode b_Mo_told 12 = .ok (.invokevirtual 94, 3) := by decide +kernel
theorem d_Mo_told_15 : decode b_Mo_told 15 = .ok (.ireturn, 1) := by decide +kernel
theorem d_Mo_told_16 : decode b_Mo_told 16 = .ok (.aload_n 0, 1) := by decide +kernel
theorem d_Mo_told_17 : decode b_Mo_told 17 = .ok (.iconst 0, 1) := by decide +kernel
theorem d_Mo_told_18 : decode b_Mo_told 18 = .ok (.putfield 87, 3) := by decide +kernel
theorem d_Mo_told_21 : decode b_Mo_told 21 = .ok (.aload_n 0, 1) := by decide +kernel
theorem d_Mo_told_22 : decode b_Mo_told 22 = .ok (.getfield 141, 3) := by decide +kernel
theorem d_Mo_told_25 : decode b_Mo_told 25 = .ok (.ifCond .ne 5, 3) := by decide +kernel
theorem d_Mo_told_28 : decode b_Mo_told 28 = .ok (.iconst (-1), 1) := by decide +kernel
theorem d_Mo_told_29 : decode b_Mo_told 29 = .ok (.ireturn, 1) := by decide +kernel
theorem d_Mo_told_30 : decode b_Mo_told 30 = .ok (.iload_n 1, 1) := by decide +kernel
theorem d_Mo_told_31 : decode b_Mo_told 31 = .ok (.tableswitch 76 0 6 #[41, 46, 51, 56, 61, 66, 71], 41) := by decide +kernel
theorem d_Mo_told_72 : decode b_Mo_told 72 = .ok (.aload_n 0, 1) := by decide +kernel
theorem d_Mo_told_73 : decode b_Mo_told 73 = .ok (.getfield 128, 3) := by decide +kernel
theorem d_Mo_told_76 : decode b_Mo_told 76 = .ok (.ireturn, 1) := by decide +kernel
theorem d_Mo_told_77 : decode b_Mo_told 77 = .ok (.aload_n 0, 1) := by decide +kernel
theorem d_Mo_told_78 : decode b_Mo_told 78 = .ok (.getfield 113, 3) := by decide +kernel
theorem d_Mo_told_81 : decode b_Mo_told 81 = .ok (.ireturn, 1) := by decide +kernel
theorem d_Mo_told_82 : decode b_Mo_told 82 = .ok (.aload_n 0, 1) := by decide +kernel
theorem d_Mo_told_83 : decode b_Mo_told 83 = .ok (.getfield 116, 3) := by decide +kernel
theorem d_Mo_told_86 : decode b_Mo_told 86 = .ok (.ireturn, 1) := by decide +kernel
theorem d_Mo_told_87 : decode b_Mo_told 87 = .ok (.aload_n 0, 1) := by decide +kernel
theorem d_Mo_told_88 : decode b_Mo_told 88 = .ok (.getfield 122, 3) := by decide +kernel
theorem d_Mo_told_91 : decode b_Mo_told 91 = .ok (.ireturn, 1) := by decide +kernel
theorem d_Mo_told_92 : decode b_Mo_told 92 = .ok (.aload_n 0, 1) := by decide +kernel
theorem d_Mo_told_93 : decode b_Mo_told 93 = .ok (.getfield 125, 3) := by decide +kernel
theorem d_Mo_told_96 : decode b_Mo_told 96 = .ok (.ireturn, 1) := by decide +kernel
theorem d_Mo_told_97 : decode b_Mo_told 97 = .ok (.aload_n 0, 1) := by decide +kernel
theorem d_Mo_told_98 : decode b_Mo_told 98 = .ok (.getfield 131, 3) := by decide +kernel
theorem d_Mo_told_101 : decode b_Mo_told 101 = .ok (.ireturn, 1) := by decide +kernel
theorem d_Mo_told_102 : decode b_Mo_told 102 = .ok (.aload_n 0, 1) := by decide +kernel
theorem d_Mo_told_103 : decode b_Mo_told 103 = .ok (.getfield 134, 3) := by decide +kernel
theorem d_Mo_told_106 : decode b_Mo_told 106 = .ok (.ireturn, 1) := by decide +kernel
theorem d_Mo_told_107 : decode b_Mo_told 107 = .ok (.aload_n 0, 1) := by decide +kernel
theorem d_Mo_told_108 : decode b_Mo_told 108 = .ok (.getfield 119, 3) := by decide +kernel
theorem d_Mo_told_111 : decode b_Mo_told 111 = .ok (.ireturn, 1) := by decide +kernel
theorem d_Mo_isThing_0 : decode b_Mo_isThing 0 = .ok (.aload_n 0, 1) := by decide +kernel
theorem d_Mo_isThing_1 : decode b_Mo_isThing 1 = .ok (.getfield 141, 3) := by decide +kernel
theorem d_Mo_isThing_4 : decode b_Mo_isThing 4 = .ok (.ifCond .eq 19, 3) := by decide +kernel
theorem d_Mo_isThing_7 : decode b_Mo_isThing 7 = .ok (.iload_n 1, 1) := by decide +kernel
theorem d_Mo_isThing_8 : decode b_Mo_isThing 8 = .ok (.ifCond .lt 15, 3) := by decide +kernel
theorem d_Mo_isThing_11 : decode b_Mo_isThing 11 = .ok (.iload_n 1, 1) := by decide +kernel
theorem d_Mo_isThing_12 : decode b_Mo_isThing 12 = .ok (.aload_n 0, 1) := by decide +kernel
theorem d_Mo_isThing_13 : decode b_Mo_isThing 13 = .ok (.getfield 113, 3) := by decide +kernel
theorem d_Mo_isThing_16 : decode b_Mo_isThing 16 = .ok (.if_icmp .ge 7, 3) := by decide +kernel
theorem d_Mo_isThing_19 : decode b_Mo_isThing 19 = .ok (.iconst 1, 1) := by decide +kernel
theorem d_Mo_isThing_20 : decode b_Mo_isThing 20 = .ok (.goto 4, 3) := by decide +kernel
theorem d_Mo_isThing_23 : decode b_Mo_isThing 23 = .ok (.iconst 0, 1) := by decide +kernel
theorem d_Mo_isThing_24 : decode b_Mo_isThing 24 = .ok (.ireturn, 1) := by decide +kernel
theorem d_Mo_thing_0 : decode b_Mo_thing 0 = .ok (.aload_n 0, 1) := by decide +kernel
theorem d_Mo_thing_1 : decode b_Mo_thing 1 = .ok (.iload_n 1, 1) := by decide +kernel
theorem d_Mo_thing_2 : decode b_Mo_thing 2 = .ok (.invokevirtual 230, 3) := by decide +kernel
theorem d_Mo_thing_5 : decode b_Mo_thing 5 = .ok (.ifCond .ne 9, 3) := by decide +kernel
theorem d_Mo_thing_8 : decode b_Mo_thing 8 = .ok (.aload_n 0, 1) := by decide +kernel
theorem d_Mo_thing_9 : decode b_Mo_thing 9 = .ok (.iconst 1, 1) := by decide +kernel
theorem d_Mo_thing_10 : decode b_Mo_thing 10 = .ok (.invokevirtual 94, 3) := by decide +kernel
theorem d_Mo_thing_13 : decode b_Mo_thing 13 = .ok (.ireturn, 1) := by decide +kernel
theorem d_Mo_thing_14 : decode b_Mo_thing 14 = .ok (.aload_n 0, 1) := by decide +kernel
theorem d_Mo_thing_15 : decode b_Mo_thing 15 = .ok (.iconst 0, 1) := by decide +kernel
theorem d_Mo_thing_16 : decode b_Mo_thing 16 = .ok (.putfield 87, 3) := by decide +kernel
theorem d_Mo_thing_19 : decode b_Mo_thing 19 = .ok (.aload_n 0, 1) := by decide +kernel
theorem d_Mo_thing_20 : decode b_Mo_thing 20 = .ok (.getfield 29, 3) := by decide +kernel
theorem d_Mo_thing_23 : decode b_Mo_thing 23 = .ok (.iload_n 1, 1) := by decide +kernel
theorem d_Mo_thing_24 : decode b_Mo_thing 24 = .ok (.iaload, 1) := by decide +kernel
theorem d_Mo_thing_25 : decode b_Mo_thing 25 = .ok (.ireturn, 1) := by decide +kernel
theorem d_Mo_worked_0 : decode b_Mo_worked 0 = .ok (.aload_n 0, 1) := by decide +kernel
theorem d_Mo_worked_1 : decode b_Mo_worked 1 = .ok (.iload_n 1, 1) := by decide +kernel
theorem d_Mo_worked_2 : decode b_Mo_worked 2 = .ok (.invokevirtual 230, 3) := by decide +kernel
theorem d_Mo_worked_5 : decode b_Mo_worked 5 = .ok (.ifCond .ne 9, 3) := by decide +kernel
theorem d_Mo_worked_8 : decode b_Mo_worked 8 = .ok (.aload_n 0, 1) := by decide +kernel
theorem d_Mo_worked_9 : decode b_Mo_worked 9 = .ok (.iconst 1, 1) := by decide +kernel
theorem d_Mo_worked_10 : decode b_Mo_worked 10 = .ok (.invokevirtual 94, 3) := by decide +kernel
theorem d_Mo_worked_13 : decode b_Mo_worked 13 = .ok (.ireturn, 1) := by decide +kernel
theorem d_Mo_worked_14 : decode b_Mo_worked 14 = .ok (.iload_n 2, 1) := by decide +kernel
theorem d_Mo_worked_15 : decode b_Mo_worked 15 = .ok (.ifCond .lt 8, 3) := by decide +kernel
theorem d_Mo_worked_18 : decode b_Mo_worked 18 = .ok (.iload_n 2, 1) := by decide +kernel
theorem d_Mo_worked_19 : decode b_Mo_worked 19 = .ok (.iconst 2, 1) := by decide +kernel
theorem d_Mo_worked_20 : decode b_Mo_worked 20 = .ok (.if_icmp .le 9, 3) := by decide +kernel
theorem d_Mo_worked_23 : decode b_Mo_worked 23 = .ok (.aload_n 0, 1) := by decide +kernel
theorem d_Mo_worked_24 : decode b_Mo_worked 24 = .ok (.iconst 2, 1) := by decide +kernel
theorem d_Mo_worked_25 : decode b_Mo_worked 25 = .ok (.invokevirtual 94, 3) := by decide +kernel
theorem d_Mo_worked_28 : decode b_Mo_worked 28 = .ok (.ireturn, 1) := by decide +kernel
theorem d_Mo_worked_29 : decode b_Mo_worked 29 = .ok (.aload_n 0, 1) := by decide +kernel
theorem d_Mo_worked_30 : decode b_Mo_worked 30 = .ok (.iconst 0, 1) := by decide +kernel
theorem d_Mo_worked_31 : decode b_Mo_worked 31 = .ok (.putfield 87, 3) := by decide +kernel
theorem d_Mo_worked_34 : decode b_Mo_worked 34 = .ok (.iload_n 2, 1) := by decide +kernel
theorem d_Mo_worked_35 : decode b_Mo_worked 35 = .ok (.ifCond .ne 12, 3) := by decide +kernel
theorem d_Mo_worked_38 : decode b_Mo_worked 38 = .ok (.aload_n 0, 1) := by decide +kernel
theorem d_Mo_worked_39 : decode b_Mo_worked 39 = .ok (.getfield 50, 3) := by decide +kernel
theorem d_Mo_worked_42 : decode b_Mo_worked 42 = .ok (.iload_n 1, 1) := by decide +kernel
theorem d_Mo_worked_43 : decode b_Mo_worked 43 = .ok (.iaload, 1) := by decide +kernel
theorem d_Mo_worked_44 : decode b_Mo_worked 44 = .ok (.goto 23, 3) := by decide +kernel
theorem d_Mo_worked_47 : decode b_Mo_worked 47 = .ok (.iload_n 2, 1) := by decide +kernel
theorem d_Mo_worked_48 : decode b_Mo_worked 48 = .ok (.iconst 1, 1) := by decide +kernel
theorem d_Mo_worked_49 : decode b_Mo_worked 49 = .ok (.if_icmp .ne 12, 3) := by decide +kernel
theorem d_Mo_worked_52 : decode b_Mo_worked 52 = .ok (.aload_n 0, 1) := by decide +kernel
theorem d_Mo_worked_53 : decode b_Mo_worked 53 = .ok (.getfield 53, 3) := by decide +kernel
theorem d_Mo_worked_56 : decode b_Mo_worked 56 = .ok (.iload_n 1, 1) := by decide +kernel
theorem d_Mo_worked_57 : decode b_Mo_worked 57 = .ok (.iaload, 1) := by decide +kernel
theorem d_Mo_worked_58 : decode b_Mo_worked 58 = .ok (.goto 9, 3) := by decide +kernel
theorem d_Mo_worked_61 : decode b_Mo_worked 61 = .ok (.aload_n 0, 1) := by decide +kernel
theorem d_Mo_worked_62 : decode b_Mo_worked 62 = .ok (.getfield 32, 3) := by decide +kernel
theorem d_Mo_worked_65 : decode b_Mo_worked 65 = .ok (.iload_n 1, 1) := by decide +kernel
theorem d_Mo_worked_66 : decode b_Mo_worked 66 = .ok (.iaload, 1) := by decide +kernel
theorem d_Mo_worked_67 : decode b_Mo_worked 67 = .ok (.ireturn, 1) := by decide +kernel
theorem d_Mo_ring_0 : decode b_Mo_ring 0 = .ok (.aload_n 0, 1) := by decide +kernel
theorem d_Mo_ring_1 : decode b_Mo_ring 1 = .ok (.getfield 141, 3) := by decide +kernel
theorem d_Mo_ring_4 : decode b_Mo_ring 4 = .ok (.iconst 3, 1) := by decide +kernel
theorem d_Mo_ring_5 : decode b_Mo_ring 5 = .ok (.if_icmp .ne 7, 3) := by decide +kernel
theorem d_Mo_ring_8 : decode b_Mo_ring 8 = .ok (.iload_n 1, 1) := by decide +kernel
theorem d_Mo_ring_9 : decode b_Mo_ring 9 = .ok (.ifCond .ge 9, 3) := by decide +kernel
theorem d_Mo_ring_12 : decode b_Mo_ring 12 = .ok (.aload_n 0, 1) := by decide +kernel
theorem d_Mo_ring_13 : decode b_Mo_ring 13 = .ok (.iconst 1, 1) := by decide +kernel
theorem d_Mo_ring_14 : decode b_Mo_ring 14 = .ok (.invokevirtual 94, 3) := by decide +kernel
theorem d_Mo_ring_17 : decode b_Mo_ring 17 = .ok (.ireturn, 1) := by decide +kernel
theorem d_Mo_ring_18 : decode b_Mo_ring 18 = .ok (.iconst 0, 1) := by decide +kernel
theorem d_Mo_ring_19 : decode b_Mo_ring 19 = .ok (.istore_n 2, 1) := by decide +kernel
theorem d_Mo_ring_20 : decode b_Mo_ring 20 = .ok (.iconst 0, 1) := by decide +kernel
theorem d_Mo_ring_21 : decode b_Mo_ring 21 = .ok (.istore_n 3, 1) := by decide +kernel
theorem d_Mo_ring_22 : decode b_Mo_ring 22 = .ok (.iconst 0, 1) := by decide +kernel
theorem d_Mo_ring_23 : decode b_Mo_ring 23 = .ok (.istore 4, 2) := by decide +kernel
theorem d_Mo_ring_25 : decode b_Mo_ring 25 = .ok (.iload 4, 2) := by decide +kernel
theorem d_Mo_ring_27 : decode b_Mo_ring 27 = .ok (.aload_n 0, 1) := by decide +kernel
theorem d_Mo_ring_28 : decode b_Mo_ring 28 = .ok (.getfield 122, 3) := by decide +kernel
theorem d_Mo_ring_31 : decode b_Mo_ring 31 = .ok (.if_icmp .ge 77, 3) := by decide +kernel
theorem d_Mo_ring_34 : decode b_Mo_ring 34 = .ok (.aload_n 0, 1) := by decide +kernel
theorem d_Mo_ring_35 : decode b_Mo_ring 35 = .ok (.getfield 66, 3) := by decide +kernel
theorem d_Mo_ring_38 : decode b_Mo_ring 38 = .ok (.iload 4, 2) := by decide +kernel
theorem d_Mo_ring_40 : decode b_Mo_ring 40 = .ok (.iaload, 1) := by decide +kernel
theorem d_Mo_ring_41 : decode b_Mo_ring 41 = .ok (.ifCond .ne 61, 3) := by decide +kernel
theorem d_Mo_ring_44 : decode b_Mo_ring 44 = .ok (.iload_n 3, 1) := by decide +kernel
theorem d_Mo_ring_45 : decode b_Mo_ring 45 = .ok (.ifCond .ne 17, 3) := by decide +kernel
theorem d_Mo_ring_48 : decode b_Mo_ring 48 = .ok (.aload_n 0, 1) := by decide +kernel
theorem d_Mo_ring_49 : decode b_Mo_ring 49 = .ok (.getfield 69, 3) := by decide +kernel
theorem d_Mo_ring_52 : decode b_Mo_ring 52 = .ok (.iload 4, 2) := by decide +kernel
theorem d_Mo_ring_54 : decode b_Mo_ring 54 = .ok (.iaload, 1) := by decide +kernel
theorem d_Mo_ring_55 : decode b_Mo_ring 55 = .ok (.aload_n 0, 1) := by decide +kernel
theorem d_Mo_ring_56 : decode b_Mo_ring 56 = .ok (.getfield 193, 3) := by decide +kernel
theorem d_Mo_ring_59 : decode b_Mo_ring 59 = .ok (.if_icmp .ne 7, 3) := by decide +kernel
theorem d_Mo_ring_62 : decode b_Mo_ring 62 = .ok (.iconst 1, 1) := by decide +kernel
theorem d_Mo_ring_63 : decode b_Mo_ring 63 = .ok (.goto 4, 3) := by decide +kernel
theorem d_Mo_ring_66 : decode b_Mo_ring 66 = .ok (.iconst 0, 1) := by decide +kernel
theorem d_Mo_ring_67 : decode b_Mo_ring 67 = .ok (.istore_n 3, 1) := by decide +kernel
theorem d_Mo_ring_68 : decode b_Mo_ring 68 = .ok (.iload_n 3, 1) := by decide +kernel
theorem d_Mo_ring_69 : decode b_Mo_ring 69 = .ok (.ifCond .eq 21, 3) := by decide +kernel
theorem d_Mo_ring_72 : decode b_Mo_ring 72 = .ok (.iload_n 2, 1) := by decide +kernel
theorem d_Mo_ring_73 : decode b_Mo_ring 73 = .ok (.iload_n 1, 1) := by decide +kernel
theorem d_Mo_ring_74 : decode b_Mo_ring 74 = .ok (.if_icmp .ne 16, 3) := by decide +kernel
theorem d_Mo_ring_77 : decode b_Mo_ring 77 = .ok (.aload_n 0, 1) := by decide +kernel
theorem d_Mo_ring_78 : decode b_Mo_ring 78 = .ok (.iconst 0, 1) := by decide +kernel
theorem d_Mo_ring_79 : decode b_Mo_ring 79 = .ok (.putfield 87, 3) := by decide +kernel
theorem d_Mo_ring_82 : decode b_Mo_ring 82 = .ok (.aload_n 0, 1) := by decide +kernel
theorem d_Mo_ring_83 : decode b_Mo_ring 83 = .ok (.getfield 69, 3) := by decide +kernel
theorem d_Mo_ring_86 : decode b_Mo_ring 86 = .ok (.iload 4, 2) := by decide +kernel
theorem d_Mo_ring_88 : decode b_Mo_ring 88 = .ok (.iaload, 1) := by decide +kernel
theorem d_Mo_ring_89 : decode b_Mo_ring 89 = .ok (.ireturn, 1) := by decide +kernel
theorem d_Mo_ring_90 : decode b_Mo_ring 90 = .ok (.iload_n 2, 1) := by decide +kernel
theorem d_Mo_ring_91 : decode b_Mo_ring 91 = .ok (.iload_n 3, 1) := by decide +kernel
theorem d_Mo_ring_92 : decode b_Mo_ring 92 = .ok (.ifCond .eq 7, 3) := by decide +kernel
theorem d_Mo_ring_95 : decode b_Mo_ring 95 = .ok (.iconst 1, 1) := by decide +kernel
theorem d_Mo_ring_96 : decode b_Mo_ring 96 = .ok (.goto 4, 3) := by decide +kernel
theorem d_Mo_ring_99 : decode b_Mo_ring 99 = .ok (.iconst 0, 1) := by decide +kernel
theorem d_Mo_ring_100 : decode b_Mo_ring 100 = .ok (.iadd, 1) := by decide +kernel
theorem d_Mo_ring_101 : decode b_Mo_ring 101 = .ok (.istore_n 2, 1) := by decide +kernel
theorem d_Mo_ring_102 : decode b_Mo_ring 102 = .ok (.iinc 4 1, 3) := by decide +kernel
theorem d_Mo_ring_105 : decode b_Mo_ring 105 = .ok (.goto (-80), 3) := by decide +kernel
theorem d_Mo_ring_108 : decode b_Mo_ring 108 = .ok (.aload_n 0, 1) := by decide +kernel
theorem d_Mo_ring_109 : decode b_Mo_ring 109 = .ok (.iconst 1, 1) := by decide +kernel
theorem d_Mo_ring_110 : decode b_Mo_ring 110 = .ok (.invokevirtual 94, 3) := by decide +kernel
theorem d_Mo_ring_113 : decode b_Mo_ring 113 = .ok (.ireturn, 1) := by decide +kernel
theorem d_Mo_entry_0 : decode b_Mo_entry 0 = .ok (.aload_n 0, 1) := by decide +kernel
theorem d_Mo_entry_1 : decode b_Mo_entry 1 = .ok (.getfield 141, 3) := by decide +kernel
theorem d_Mo_entry_4 : decode b_Mo_entry 4 = .ok (.ifCond .eq 15, 3) := by decide +kernel
theorem d_Mo_entry_7 : decode b_Mo_entry 7 = .ok (.iload_n 1, 1) := by decide +kernel
theorem d_Mo_entry_8 : decode b_Mo_entry 8 = .ok (.ifCond .lt 11, 3) := by decide +kernel
theorem d_Mo_entry_11 : decode b_Mo_entry 11 = .ok (.iload_n 1, 1) := by decide +kernel
theorem d_Mo_entry_12 : decode b_Mo_entry 12 = .ok (.aload_n 0, 1) := by decide +kernel
theorem d_Mo_entry_13 : decode b_Mo_entry 13 = .ok (.getfield 122, 3) := by decide +kernel
theorem d_Mo_entry_16 : decode b_Mo_entry 16 = .ok (.if_icmp .lt 9, 3) := by decide +kernel
theorem d_Mo_entry_19 : decode b_Mo_entry 19 = .ok (.aload_n 0, 1) := by decide +kernel
theorem d_Mo_entry_20 : decode b_Mo_entry 20 = .ok (.iconst 1, 1) := by decide +kernel
theorem d_Mo_entry_21 : decode b_Mo_entry 21 = .ok (.invokevirtual 94, 3) := by decide +kernel
theorem d_Mo_entry_24 : decode b_Mo_entry 24 = .ok (.ireturn, 1) := by decide +kernel
theorem d_Mo_entry_25 : decode b_Mo_entry 25 = .ok (.aload_n 0, 1) := by decide +kernel
theorem d_Mo_entry_26 : decode b_Mo_entry 26 = .ok (.iconst 0, 1) := by decide +kernel
theorem d_Mo_entry_27 : decode b_Mo_entry 27 = .ok (.putfield 87, 3) := by decide +kernel
theorem d_Mo_entry_30 : decode b_Mo_entry 30 = .ok (.aload_n 0, 1) := by decide +kernel
theorem d_Mo_entry_31 : decode b_Mo_entry 31 = .ok (.getfield 66, 3) := by decide +kernel
theorem d_Mo_entry_34 : decode b_Mo_entry 34 = .ok (.iload_n 1, 1) := by decide +kernel
theorem d_Mo_entry_35 : decode b_Mo_entry 35 = .ok (.iaload, 1) := by decide +kernel
theorem d_Mo_entry_36 : decode b_Mo_entry 36 = .ok (.ireturn, 1) := by decide +kernel
theorem d_Mo_collect_0 : decode b_Mo_collect 0 = .ok (.aload_n 0, 1) := by decide +kernel
theorem d_Mo_collect_1 : decode b_Mo_collect 1 = .ok (.getfield 141, 3) := by decide +kernel
theorem d_Mo_collect_4 : decode b_Mo_collect 4 = .ok (.ifCond .ne 9, 3) := by decide +kernel
theorem d_Mo_collect_7 : decode b_Mo_collect 7 = .ok (.aload_n 0, 1) := by decide +kernel
theorem d_Mo_collect_8 : decode b_Mo_collect 8 = .ok (.iconst 1, 1) := by decide +kernel
theorem d_Mo_collect_9 : decode b_Mo_collect 9 = .ok (.invokevirtual 94, 3) := by decide +kernel
theorem d_Mo_collect_12 : decode b_Mo_collect 12 = .ok (.ireturn, 1) := by decide +kernel
theorem d_Mo_collect_13 : decode b_Mo_collect 13 = .ok (.aload_n 0, 1) := by decide +kernel
theorem d_Mo_collect_14 : decode b_Mo_collect 14 = .ok (.iconst 0, 1) := by decide +kernel
theorem d_Mo_collect_15 : decode b_Mo_collect 15 = .ok (.putfield 87, 3) := by decide +kernel
theorem d_Mo_collect_18 : decode b_Mo_collect 18 = .ok (.aload_n 0, 1) := by decide +kernel
theorem d_Mo_collect_19 : decode b_Mo_collect 19 = .ok (.invokevirtual 173, 3) := by decide +kernel
theorem d_Mo_collect_22 : decode b_Mo_collect 22 = .ok (.ireturn, 1) := by decide +kernel
theorem d_Mo_every_0 : decode b_Mo_every 0 = .ok (.iload_n 1, 1) := by decide +kernel
theorem d_Mo_every_1 : decode b_Mo_every 1 = .ok (.ifCond .lt 10, 3) := by decide +kernel
theorem d_Mo_every_4 : decode b_Mo_every 4 = .ok (.iload_n 1, 1) := by decide +kernel
theorem d_Mo_every_5 : decode b_Mo_every 5 = .ok (.sipush 5000, 3) := by decide +kernel
theorem d_Mo_every_8 : decode b_Mo_every 8 = .ok (.if_icmp .le 9, 3) := by decide +kernel
theorem d_Mo_every_11 : decode b_Mo_every 11 = .ok (.aload_n 0, 1) := by decide +kernel
theorem d_Mo_every_12 : decode b_Mo_every 12 = .ok (.iconst 1, 1) := by decide +kernel
theorem d_Mo_every_13 : decode b_Mo_every 13 = .ok (.invokevirtual 94, 3) := by decide +kernel
theorem d_Mo_every_16 : decode b_Mo_every 16 = .ok (.ireturn, 1) := by decide +kernel
theorem d_Mo_every_17 : decode b_Mo_every 17 = .ok (.aload_n 0, 1) := by decide +kernel
theorem d_Mo_every_18 : decode b_Mo_every 18 = .ok (.iconst 0, 1) := by decide +kernel
theorem d_Mo_every_19 : decode b_Mo_every 19 = .ok (.putfield 87, 3) := by decide +kernel
theorem d_Mo_every_22 : decode b_Mo_every 22 = .ok (.aload_n 0, 1) := by decide +kernel
theorem d_Mo_every_23 : decode b_Mo_every 23 = .ok (.getfield 170, 3) := by decide +kernel
theorem d_Mo_every_26 : decode b_Mo_every 26 = .ok (.istore_n 2, 1) := by decide +kernel
theorem d_Mo_every_27 : decode b_Mo_every 27 = .ok (.aload_n 0, 1) := by decide +kernel
theorem d_Mo_every_28 : decode b_Mo_every 28 = .ok (.iload_n 1, 1) := by decide +kernel
theorem d_Mo_every_29 : decode b_Mo_every 29 = .ok (.putfield 170, 3) := by decide +kernel
theorem d_Mo_every_32 : decode b_Mo_every 32 = .ok (.iload_n 2, 1) := by decide +kernel
theorem d_Mo_every_33 : decode b_Mo_every 33 = .ok (.ireturn, 1) := by decide +kernel
end
section
/-! STATE: a state is four tables: ints, rows of ints, longs, rows of longs -/
abbrev St : Type := (Nat → Int32) × (Nat → Nat → Int32) × (Nat → Int64) × (Nat → Nat → Int64)
def up {α : Type} (f : Nat → α) (k : Nat) (x : α) : Nat → α := fun j => bif Nat.beq j k then x else f j
def sv (s : St) (k : Nat) (x : Int32) : St := (up s.1 k x, s.2.1, s.2.2.1, s.2.2.2)
def sa (s : St) (k i : Nat) (x : Int32) : St := (s.1, up s.2.1 k (upd (s.2.1 k) i x), s.2.2.1, s.2.2.2)
def sw (s : St) (k : Nat) (x : Int64) : St := (s.1, s.2.1, up s.2.2.1 k x, s.2.2.2)
def sg (s : St) (k i : Nat) (x : Int64) : St := (s.1, s.2.1, s.2.2.1, up s.2.2.2 k (vp_updL (s.2.2.2 k) i x))
theorem up_self {α : Type} (f : Nat → α) (k : Nat) (x : α) : up f k x k = x := by simp [up]
theorem up_ne {α : Type} (f : Nat → α) {k j : Nat} (x : α) (h : j ≠ k) : up f k x j = f j := by
  have : Nat.beq j k = false := by
    cases hb : Nat.beq j k with
    | true => exact absurd (Nat.eq_of_beq_eq_true hb) h
    | false => rfl
  simp [up, this]
def gw_bind {α β γ : Type} (o : Option (α × β)) (f : α → β → Option γ) : Option γ := match o with
  | none => none
  | some q => f q.1 q.2
def gw_bindv {β γ : Type} (o : Option β) (f : β → Option γ) : Option γ := match o with
  | none => none
  | some q => f q
theorem gw_pos {α : Type} {c : Prop} [Decidable c] {a b y : α} (h : c) (hF : (if c then a else b) = y) : a = y := by rw [if_pos h] at hF; exact hF
theorem gw_neg {α : Type} {c : Prop} [Decidable c] {a b y : α} (h : ¬ c) (hF : (if c then a else b) = y) : b = y := by rw [if_neg h] at hF; exact hF
theorem gw_grd {α : Type} {c : Prop} [Decidable c] {a : Option α} {y : α} (hF : (if c then a else none) = some y) : c ∧ a = some y := by
  by_cases h : c
  · rw [if_pos h] at hF; exact ⟨h, hF⟩
  · rw [if_neg h] at hF; cases hF
theorem gw_bnd {α β γ : Type} {o : Option (α × β)} {f : α → β → Option γ} {y : γ} (hF : gw_bind o f = some y) : ∃ (r : α) (t : β), o = some (r, t) ∧ f r t = some y := by
  cases o with
  | none => cases hF
  | some q => exact ⟨q.1, q.2, rfl, hF⟩
theorem gw_bndv {β γ : Type} {o : Option β} {f : β → Option γ} {y : γ} (hF : gw_bindv o f = some y) : ∃ t : β, o = some t ∧ f t = some y := by
  cases o with
  | none => cases hF
  | some q => exact ⟨q, rfl, hF⟩
def gw_in (i : Int32) (n : Nat) : Bool := decide (0 ≤ i) && decide (i.toNatClampNeg < n)
theorem gw_in_ok {i : Int32} {n : Nat} (h : gw_in i n = true) : vp_in i n := by
  simp only [gw_in, Bool.and_eq_true, decide_eq_true_eq] at h
  intro q
  rcases q with q | q
  · exact absurd h.1 (Int32.not_le.mpr q)
  · omega

/- wC: ints 0 Wa.outcome, 1 Wa.shares, 2 Wa.hand, 3 Wa.handTerm, 4 Wa.handPlaces, 5 Wa.handThing, 6 Wa.steps, 7 Wa.needsOfDone, 8 Wa.needsOfWaiting, 9 Wa.ringNeeded, 10 Wa.pace, 11 Wa.round, 12 Te.count, 13 Pl.made, 14 Th.made, 15 Th.thereCount, 16 Th.reachedCount, 17 Ro.length, 18 Ro.greatest, 19 Va.sort, 20 Va.first, 21 Va.second; rows of ints 0 Te.sorts, 1 Te.firsts, 2 Te.seconds, 3 Te.thirds, 4 Te.lacking, 5 Pl.held, 6 Pl.outers, 7 Pl.marks, 8 Th.states, 9 Th.terms, 10 Th.places, 11 Th.times, 12 Th.needers, 13 Th.valueSorts, 14 Th.valueFirsts, 15 Th.valueSeconds, 16 Th.marks, 17 Th.there, 18 Th.reached, 19 Ro.kinds, 20 Ro.firsts, 21 Ro.seconds; longs 0 Va.number; rows of longs 0 Te.numbers, 1 Th.valueNumbers, 2 Ro.numbers -/
def wC (ad : Nat → Nat) (cI cL cZ : ClassId) (σ : St) : va_W := [
  (ad 0, .inr (0, [.ref (ad 1)])),
  (ad 1, .inr (1, [.ref (ad 2), .ref (ad 3), .ref (ad 4), .ref (ad 5), .ref (ad 6), .int (σ.1 0), .int (σ.1 1), .int (σ.1 2), .int (σ.1 3), .int (σ.1 4), .int (σ.1 5), .int (σ.1 6), .int (σ.1 7), .int (σ.1 8), .int (σ.1 9), .int (σ.1 10), .int (σ.1 11)])),
  (ad 2, .inr (2, [.ref (ad 7), .ref (ad 8), .ref (ad 9), .ref (ad 10), .ref (ad 11), .ref (ad 12), .int (σ.1 12)])),
  (ad 3, .inr (3, [.ref (ad 13), .ref (ad 14), .ref (ad 15), .int (σ.1 13)])),
  (ad 4, .inr (4, [.ref (ad 16), .ref (ad 17), .ref (ad 18), .ref (ad 19), .ref (ad 20), .ref (ad 21), .ref (ad 22), .ref (ad 23), .ref (ad 24), .ref (ad 25), .ref (ad 26), .ref (ad 27), .int (σ.1 14), .int (σ.1 15), .int (σ.1 16)])),
  (ad 5, .inr (5, [.ref (ad 28), .ref (ad 29), .ref (ad 30), .ref (ad 31), .int (σ.1 17), .int (σ.1 18)])),
  (ad 6, .inr (6, [.int (σ.1 19), .long (σ.2.2.1 0), .int (σ.1 20), .int (σ.1 21)])),
  (ad 7, .inl (cI, 200, .inl (σ.2.1 0))),
  (ad 8, .inl (cI, 200, .inl (σ.2.1 1))),
  (ad 9, .inl (cI, 200, .inl (σ.2.1 2))),
  (ad 10, .inl (cI, 200, .inl (σ.2.1 3))),
  (ad 11, .inl (cL, 200, .inr (.inl (σ.2.2.2 0)))),
  (ad 12, .inl (cI, 200, .inl (σ.2.1 4))),
  (ad 13, .inl (cI, 1000, .inl (σ.2.1 5))),
  (ad 14, .inl (cI, 1000, .inl (σ.2.1 6))),
  (ad 15, .inl (cI, 1000, .inl (σ.2.1 7))),
  (ad 16, .inl (cI, 1000, .inl (σ.2.1 8))),
  (ad 17, .inl (cI, 1000, .inl (σ.2.1 9))),
  (ad 18, .inl (cI, 1000, .inl (σ.2.1 10))),
  (ad 19, .inl (cI, 1000, .inl (σ.2.1 11))),
  (ad 20, .inl (cI, 1000, .inl (σ.2.1 12))),
  (ad 21, .inl (cI, 1000, .inl (σ.2.1 13))),
  (ad 22, .inl (cL, 1000, .inr (.inl (σ.2.2.2 1)))),
  (ad 23, .inl (cI, 1000, .inl (σ.2.1 14))),
  (ad 24, .inl (cI, 1000, .inl (σ.2.1 15))),
  (ad 25, .inl (cI, 1000, .inl (σ.2.1 16))),
  (ad 26, .inl (cI, 300, .inl (σ.2.1 17))),
  (ad 27, .inl (cI, 300, .inl (σ.2.1 18))),
  (ad 28, .inl (cI, 300, .inl (σ.2.1 19))),
  (ad 29, .inl (cI, 300, .inl (σ.2.1 20))),
  (ad 30, .inl (cI, 300, .inl (σ.2.1 21))),
  (ad 31, .inl (cL, 300, .inr (.inl (σ.2.2.2 2))))]
/- wM: ints 0 Mo.terms, 1 Mo.things, 2 Mo.there, 3 Mo.places, 4 Mo.length, 5 Mo.longest, 6 Mo.hand, 7 Mo.handTerm, 8 Mo.handPlaces, 9 Mo.handThing, 10 Mo.sort, 11 Mo.left, 12 Mo.right, 13 Mo.outcome, 14 Mo.shares, 15 Mo.steps, 16 Mo.needsDone, 17 Mo.needsWaiting, 18 Mo.ringThing, 19 Mo.often, 20 Mo.code, 21 Mo.lined; rows of ints 0 Mo.kinds, 1 Mo.as, 2 Mo.bs, 3 Mo.cs, 4 Mo.lacking, 5 Mo.states, 6 Mo.thingTerms, 7 Mo.thingPlaces, 8 Mo.valueSorts, 9 Mo.valueLefts, 10 Mo.valueRights, 11 Mo.works, 12 Mo.neededBy, 13 Mo.wasNeeded, 14 Mo.placeThings, 15 Mo.placeNexts, 16 Mo.entries, 17 Mo.entryThings, 18 Mo.entryPlaces, 19 Mo.reached, 20 Mo.walked, 21 Mo.line; longs 0 Mo.number; rows of longs 0 Mo.numbers, 1 Mo.valueNumbers, 2 Mo.entryNumbers -/
def wM (ad : Nat → Nat) (cI cL cZ : ClassId) (σ : St) : va_W := [
  (ad 0, .inr (7, [.int (σ.1 0), .ref (ad 1), .ref (ad 2), .ref (ad 3), .ref (ad 4), .ref (ad 5), .ref (ad 6), .int (σ.1 1), .int (σ.1 2), .ref (ad 7), .ref (ad 8), .ref (ad 9), .ref (ad 10), .ref (ad 11), .ref (ad 12), .ref (ad 13), .ref (ad 14), .ref (ad 15), .ref (ad 16), .int (σ.1 3), .ref (ad 17), .ref (ad 18), .int (σ.1 4), .int (σ.1 5), .ref (ad 19), .ref (ad 20), .ref (ad 21), .ref (ad 22), .int (σ.1 6), .int (σ.1 7), .int (σ.1 8), .int (σ.1 9), .int (σ.1 10), .long (σ.2.2.1 0), .int (σ.1 11), .int (σ.1 12), .int (σ.1 13), .int (σ.1 14), .int (σ.1 15), .int (σ.1 16), .int (σ.1 17), .int (σ.1 18), .int (σ.1 19), .int (σ.1 20), .ref (ad 23), .ref (ad 24), .ref (ad 25), .int (σ.1 21)])),
  (ad 1, .inl (cI, 200, .inl (σ.2.1 0))),
  (ad 2, .inl (cI, 200, .inl (σ.2.1 1))),
  (ad 3, .inl (cI, 200, .inl (σ.2.1 2))),
  (ad 4, .inl (cI, 200, .inl (σ.2.1 3))),
  (ad 5, .inl (cL, 200, .inr (.inl (σ.2.2.2 0)))),
  (ad 6, .inl (cI, 200, .inl (σ.2.1 4))),
  (ad 7, .inl (cI, 1000, .inl (σ.2.1 5))),
  (ad 8, .inl (cI, 1000, .inl (σ.2.1 6))),
  (ad 9, .inl (cI, 1000, .inl (σ.2.1 7))),
  (ad 10, .inl (cI, 1000, .inl (σ.2.1 8))),
  (ad 11, .inl (cL, 1000, .inr (.inl (σ.2.2.2 1)))),
  (ad 12, .inl (cI, 1000, .inl (σ.2.1 9))),
  (ad 13, .inl (cI, 1000, .inl (σ.2.1 10))),
  (ad 14, .inl (cI, 1000, .inl (σ.2.1 11))),
  (ad 15, .inl (cI, 1000, .inl (σ.2.1 12))),
  (ad 16, .inl (cZ, 1000, .inl (σ.2.1 13))),
  (ad 17, .inl (cI, 1000, .inl (σ.2.1 14))),
  (ad 18, .inl (cI, 1000, .inl (σ.2.1 15))),
  (ad 19, .inl (cI, 300, .inl (σ.2.1 16))),
  (ad 20, .inl (cI, 300, .inl (σ.2.1 17))),
  (ad 21, .inl (cI, 300, .inl (σ.2.1 18))),
  (ad 22, .inl (cL, 300, .inr (.inl (σ.2.2.2 2)))),
  (ad 23, .inl (cZ, 1000, .inl (σ.2.1 19))),
  (ad 24, .inl (cZ, 1000, .inl (σ.2.1 20))),
  (ad 25, .inl (cI, 1000, .inl (σ.2.1 21)))]
def gw_N : Nat := 1000000000
def F_Pl_clear (σ : St) : Option St :=
  some (sv σ 13 0)
def F_Th_clear (σ : St) : Option St :=
  some (sv (sv (sv σ 14 0) 15 0) 16 0)
def F_Ro_clear (σ : St) : Option St :=
  some (sv (sv σ 17 0) 18 0)
def F_Va_be (σ : St) (x1 : Int32) (x2 : Int64) (x4 : Int32) (x5 : Int32) : Option St :=
  some (sv (sv (sw (sv σ 19 x1) 0 x2) 20 x4) 21 x5)
def F_Va_beNumber (σ : St) (x1 : Int64) : Option St :=
  gw_bindv (F_Va_be (σ) 0 x1 (-1) (-1)) fun σ2 =>
    some (σ2)
def F_Wa_takeTerm (σ : St) (x1 : Int32) (x2 : Int32) : Option St :=
  some (sv (sv (sv σ 2 0) 3 x1) 4 x2)
def F_Wa_start (σ : St) (x1 : Int32) (x2 : Int32) : Option St :=
  gw_bindv (F_Pl_clear (σ)) fun σ2 =>
    gw_bindv (F_Th_clear (σ2)) fun σ4 =>
      gw_bindv (F_Ro_clear (σ4)) fun σ6 =>
        gw_bindv (F_Va_beNumber (σ6) 0) fun σ8 =>
          if x2 = 0 ∨ x2 = 1 then
            gw_bindv (F_Wa_takeTerm (sv (sv σ8 0 1) 1 x2) x1 (-1)) fun σ11 =>
              some (sv (sv (sv (sv (sv σ11 5 (-1)) 6 0) 7 0) 8 0) 9 (-1))
          else none
def F_Wa_turnTo (σ : St) (x1 : Int32) : Option St :=
  some (sv (sv (sv σ 2 2) 5 x1) 0 1)
def F_Th_forgetReached (σ : St) : Option St :=
  some (sv σ 16 0)
def F_Pl_mark (σ : St) (x1 : Int32) (x2 : Int32) : Option (Int32 × St) :=
  if x1 < 0 then
    some (0, σ)
  else
    if 1000 ≤ x1 then
      some (0, σ)
    else
      if gw_in x1 1000 then
        if (σ.2.1 7 x1.toNatClampNeg) = x2 then
          some (0, σ)
        else
          if gw_in x1 1000 then
            some (1, (sa σ 7 x1.toNatClampNeg x2))
          else none
      else none
def F_Pl_has (σ : St) (x1 : Int32) : Option (Int32 × St) :=
  if x1 < 0 then
    some (0, σ)
  else
    if (σ.1 13) ≤ x1 then
      some (0, σ)
    else
      if 1000 ≤ x1 then
        some (0, σ)
      else
        some (1, σ)
def F_Pl_heldBy (σ : St) (x1 : Int32) : Option (Int32 × St) :=
  gw_bind (F_Pl_has (σ) x1) fun r2 σ3 =>
    if r2 = 0 then
      some ((-1), σ3)
    else
      if gw_in x1 1000 then
        some (σ3.2.1 5 x1.toNatClampNeg, σ3)
      else none
def F_Th_reach (σ : St) (x1 : Int32) (x2 : Int32) : Option St :=
  if x1 < 0 then
    some (σ)
  else
    if 1000 ≤ x1 then
      some (σ)
    else
      if (σ.1 16) < 0 then
        some (σ)
      else
        if 300 ≤ (σ.1 16) then
          some (σ)
        else
          if gw_in x1 1000 then
            if (σ.2.1 16 x1.toNatClampNeg) = x2 then
              some (σ)
            else
              if gw_in x1 1000 then
                if gw_in (σ.1 16) 300 then
                  some (sv (sa (sa σ 16 x1.toNatClampNeg x2) 18 ((σ.1 16).toNatClampNeg) x1) 16 ((σ.1 16) + 1))
                else none
              else none
          else none
def F_Pl_outerOf (σ : St) (x1 : Int32) : Option (Int32 × St) :=
  gw_bind (F_Pl_has (σ) x1) fun r2 σ3 =>
    if r2 = 0 then
      some ((-1), σ3)
    else
      if gw_in x1 1000 then
        some (σ3.2.1 6 x1.toNatClampNeg, σ3)
      else none
def K_Wa_reachPlaces_4 : Nat → St → Int32 → Int32 → Option St
  | 0, _, _, _ => none
  | n + 1, σ, x2, x3 =>
    if 1000 ≤ x3 then
      some (σ)
    else
      gw_bind (F_Pl_mark (σ) x2 (σ.1 11)) fun r3 σ4 =>
        if r3 = 0 then
          some (σ4)
        else
          gw_bind (F_Pl_heldBy (σ4) x2) fun r7 σ8 =>
            gw_bindv (F_Th_reach (σ8) r7 (σ8.1 11)) fun σ10 =>
              gw_bind (F_Pl_outerOf (σ10) x2) fun r12 σ13 =>
                K_Wa_reachPlaces_4 n (σ13) r12 (x3 + 1)
def F_Wa_reachPlaces (σ : St) (x1 : Int32) : Option St :=
  K_Wa_reachPlaces_4 gw_N (σ) x1 0
def F_Wa_reachOfValue (σ : St) (x1 : Int32) (x2 : Int32) (x3 : Int32) : Option St :=
  if x1 = 1 then
    gw_bindv (F_Wa_reachPlaces (σ) x3) fun σ8 =>
      some (σ8)
  else
    if x1 = 2 then
      gw_bindv (F_Th_reach (σ) x2 (σ.1 11)) fun σ4 =>
        gw_bindv (F_Th_reach (σ4) x3 (σ4.1 11)) fun σ6 =>
          some (σ6)
    else
      some (σ)
def F_Wa_reachFromHand (σ : St) : Option St :=
  if (σ.1 2) = 0 then
    gw_bindv (F_Wa_reachPlaces (σ) (σ.1 4)) fun σ8 =>
      some (σ8)
  else
    if (σ.1 2) = 1 then
      gw_bindv (F_Wa_reachOfValue (σ) (σ.1 19) (σ.1 20) (σ.1 21)) fun σ6 =>
        some (σ6)
    else
      gw_bindv (F_Th_reach (σ) (σ.1 5) (σ.1 11)) fun σ4 =>
        some (σ4)
def F_Ro_has (σ : St) (x1 : Int32) : Option (Int32 × St) :=
  if x1 < 0 then
    some (0, σ)
  else
    if (σ.1 17) ≤ x1 then
      some (0, σ)
    else
      if 300 ≤ x1 then
        some (0, σ)
      else
        some (1, σ)
def F_Ro_kindOf (σ : St) (x1 : Int32) : Option (Int32 × St) :=
  gw_bind (F_Ro_has (σ) x1) fun r2 σ3 =>
    if r2 = 0 then
      some ((-1), σ3)
    else
      if gw_in x1 300 then
        some (σ3.2.1 19 x1.toNatClampNeg, σ3)
      else none
def F_Ro_firstOf (σ : St) (x1 : Int32) : Option (Int32 × St) :=
  gw_bind (F_Ro_has (σ) x1) fun r2 σ3 =>
    if r2 = 0 then
      some ((-1), σ3)
    else
      if gw_in x1 300 then
        some (σ3.2.1 20 x1.toNatClampNeg, σ3)
      else none
def F_Ro_secondOf (σ : St) (x1 : Int32) : Option (Int32 × St) :=
  gw_bind (F_Ro_has (σ) x1) fun r2 σ3 =>
    if r2 = 0 then
      some ((-1), σ3)
    else
      if gw_in x1 300 then
        some (σ3.2.1 21 x1.toNatClampNeg, σ3)
      else none
def K_Wa_reachFromRow_2 : Nat → St → Int32 → Option St
  | 0, _, _ => none
  | n + 1, σ, x1 =>
    if (σ.1 17) ≤ x1 then
      some (σ)
    else
      gw_bind (F_Ro_kindOf (σ) x1) fun r3 σ4 =>
        if r3 = 0 then
          gw_bind (F_Ro_firstOf (σ4) x1) fun r7 σ8 =>
            gw_bindv (F_Th_reach (σ8) r7 (σ8.1 11)) fun σ10 =>
              K_Wa_reachFromRow_2 n (σ10) (x1 + 1)
        else
          if r3 = 1 then
            gw_bind (F_Ro_firstOf (σ4) x1) fun r13 σ14 =>
              gw_bindv (F_Th_reach (σ14) r13 (σ14.1 11)) fun σ16 =>
                K_Wa_reachFromRow_2 n (σ16) (x1 + 1)
          else
            if r3 = 2 then
              gw_bind (F_Ro_secondOf (σ4) x1) fun r19 σ20 =>
                gw_bindv (F_Wa_reachPlaces (σ20) r19) fun σ22 =>
                  K_Wa_reachFromRow_2 n (σ22) (x1 + 1)
            else
              if r3 = 3 then
                K_Wa_reachFromRow_2 n (σ4) (x1 + 1)
              else
                if r3 = 4 then
                  gw_bind (F_Ro_secondOf (σ4) x1) fun r26 σ27 =>
                    gw_bindv (F_Wa_reachPlaces (σ27) r26) fun σ29 =>
                      K_Wa_reachFromRow_2 n (σ29) (x1 + 1)
                else
                  K_Wa_reachFromRow_2 n (σ4) (x1 + 1)
def F_Wa_reachFromRow (σ : St) : Option St :=
  K_Wa_reachFromRow_2 gw_N (σ) 0
def F_Th_reachedAt (σ : St) (x1 : Int32) : Option (Int32 × St) :=
  if x1 < 0 then
    some ((-1), σ)
  else
    if (σ.1 16) ≤ x1 then
      some ((-1), σ)
    else
      if 300 ≤ x1 then
        some ((-1), σ)
      else
        if gw_in x1 300 then
          some (σ.2.1 18 x1.toNatClampNeg, σ)
        else none
def F_Th_has (σ : St) (x1 : Int32) : Option (Int32 × St) :=
  if x1 < 0 then
    some (0, σ)
  else
    if (σ.1 14) ≤ x1 then
      some (0, σ)
    else
      if 1000 ≤ x1 then
        some (0, σ)
      else
        some (1, σ)
def F_Th_stateOf (σ : St) (x1 : Int32) : Option (Int32 × St) :=
  gw_bind (F_Th_has (σ) x1) fun r2 σ3 =>
    if r2 = 0 then
      some (3, σ3)
    else
      if gw_in x1 1000 then
        some (σ3.2.1 8 x1.toNatClampNeg, σ3)
      else none
def F_Th_placesOf (σ : St) (x1 : Int32) : Option (Int32 × St) :=
  gw_bind (F_Th_has (σ) x1) fun r2 σ3 =>
    if r2 = 0 then
      some ((-1), σ3)
    else
      if gw_in x1 1000 then
        some (σ3.2.1 10 x1.toNatClampNeg, σ3)
      else none
def F_Th_valueSortOf (σ : St) (x1 : Int32) : Option (Int32 × St) :=
  gw_bind (F_Th_has (σ) x1) fun r2 σ3 =>
    if r2 = 0 then
      some ((-1), σ3)
    else
      if gw_in x1 1000 then
        some (σ3.2.1 13 x1.toNatClampNeg, σ3)
      else none
def F_Th_valueFirstOf (σ : St) (x1 : Int32) : Option (Int32 × St) :=
  gw_bind (F_Th_has (σ) x1) fun r2 σ3 =>
    if r2 = 0 then
      some ((-1), σ3)
    else
      if gw_in x1 1000 then
        some (σ3.2.1 14 x1.toNatClampNeg, σ3)
      else none
def F_Th_valueSecondOf (σ : St) (x1 : Int32) : Option (Int32 × St) :=
  gw_bind (F_Th_has (σ) x1) fun r2 σ3 =>
    if r2 = 0 then
      some ((-1), σ3)
    else
      if gw_in x1 1000 then
        some (σ3.2.1 15 x1.toNatClampNeg, σ3)
      else none
def F_Wa_reachFromThing (σ : St) (x1 : Int32) : Option St :=
  gw_bind (F_Th_stateOf (σ) x1) fun r2 σ3 =>
    if r2 = 0 then
      gw_bind (F_Th_placesOf (σ3) x1) fun r18 σ19 =>
        gw_bindv (F_Wa_reachPlaces (σ19) r18) fun σ21 =>
          some (σ21)
    else
      if r2 = 2 then
        gw_bind (F_Th_valueSortOf (σ3) x1) fun r7 σ8 =>
          gw_bind (F_Th_valueFirstOf (σ8) x1) fun r10 σ11 =>
            gw_bind (F_Th_valueSecondOf (σ11) x1) fun r13 σ14 =>
              gw_bindv (F_Wa_reachOfValue (σ14) r7 r10 r13) fun σ16 =>
                some (σ16)
      else
        some (σ3)
def K_Th_keepReached_10 : Nat → St → Int32 → Int32 → Int32 → Int32 → Option (Int32 × St)
  | 0, _, _, _, _, _ => none
  | n + 1, σ, x1, x2, x3, x4 =>
    if x3 ≤ x4 then
      some (x3 - x2, (sv σ 15 x2))
    else
      if 300 ≤ x4 then
        some (x3 - x2, (sv σ 15 x2))
      else
        if gw_in x4 300 then
          gw_bind (F_Th_has (σ) (σ.2.1 17 x4.toNatClampNeg)) fun r5 σ6 =>
            if r5 = 0 then
              K_Th_keepReached_10 n (σ6) x1 x2 x3 (x4 + 1)
            else
              if gw_in (σ.2.1 17 x4.toNatClampNeg) 1000 then
                if (σ6.2.1 16 ((σ.2.1 17 x4.toNatClampNeg).toNatClampNeg)) = x1 then
                  if gw_in x2 300 then
                    K_Th_keepReached_10 n (sa σ6 17 x2.toNatClampNeg (σ.2.1 17 x4.toNatClampNeg)) x1 (x2 + 1) x3 (x4 + 1)
                  else none
                else
                  if gw_in (σ.2.1 17 x4.toNatClampNeg) 1000 then
                    K_Th_keepReached_10 n (sa σ6 8 ((σ.2.1 17 x4.toNatClampNeg).toNatClampNeg) 3) x1 x2 x3 (x4 + 1)
                  else none
              else none
        else none
def F_Th_keepReached (σ : St) (x1 : Int32) : Option (Int32 × St) :=
  K_Th_keepReached_10 gw_N (σ) x1 0 (σ.1 15) 0
def K_Wa_sweepUnreached_27 : Nat → St → Int32 → Option (Int32 × St)
  | 0, _, _ => none
  | n + 1, σ, x1 =>
    if 300 ≤ x1 then
      gw_bind (F_Th_keepReached (σ) (σ.1 11)) fun r9 σ10 =>
        some (r9, σ10)
    else
      if (σ.1 16) ≤ x1 then
        gw_bind (F_Th_keepReached (σ) (σ.1 11)) fun r13 σ14 =>
          some (r13, σ14)
      else
        gw_bind (F_Th_reachedAt (σ) x1) fun r16 σ17 =>
          gw_bindv (F_Wa_reachFromThing (σ17) r16) fun σ19 =>
            K_Wa_sweepUnreached_27 n (σ19) (x1 + 1)
def F_Wa_sweepUnreached (σ : St) : Option (Int32 × St) :=
  gw_bindv (F_Th_forgetReached (sv σ 11 ((σ.1 11) + 1))) fun σ2 =>
    gw_bindv (F_Wa_reachFromHand (σ2)) fun σ4 =>
      gw_bindv (F_Wa_reachFromRow (σ4)) fun σ6 =>
        K_Wa_sweepUnreached_27 gw_N (σ6) 0
def F_Te_has (σ : St) (x1 : Int32) : Option (Int32 × St) :=
  if x1 < 0 then
    some (0, σ)
  else
    if (σ.1 12) ≤ x1 then
      some (0, σ)
    else
      if 200 ≤ x1 then
        some (0, σ)
      else
        some (1, σ)
def F_Te_sortOf (σ : St) (x1 : Int32) : Option (Int32 × St) :=
  gw_bind (F_Te_has (σ) x1) fun r2 σ3 =>
    if r2 = 0 then
      some ((-1), σ3)
    else
      if gw_in x1 200 then
        some (σ3.2.1 0 x1.toNatClampNeg, σ3)
      else none
def F_Te_numberOf (σ : St) (x1 : Int32) : Option (Int64 × St) :=
  gw_bind (F_Te_has (σ) x1) fun r2 σ3 =>
    if r2 = 0 then
      some (0, σ3)
    else
      if gw_in x1 200 then
        some (σ3.2.2.2 0 x1.toNatClampNeg, σ3)
      else none
def F_Va_beLambda (σ : St) (x1 : Int32) (x2 : Int32) : Option St :=
  gw_bindv (F_Va_be (σ) 1 0 x1 x2) fun σ2 =>
    some (σ2)
def F_Te_firstOf (σ : St) (x1 : Int32) : Option (Int32 × St) :=
  gw_bind (F_Te_has (σ) x1) fun r2 σ3 =>
    if r2 = 0 then
      some ((-1), σ3)
    else
      if gw_in x1 200 then
        some (σ3.2.1 1 x1.toNatClampNeg, σ3)
      else none
def K_Pl_thingAt_5 : Nat → St → Int32 → Int32 → Int32 → Option (Int32 × St)
  | 0, _, _, _, _ => none
  | n + 1, σ, x2, x3, x4 =>
    if x2 ≤ x4 then
      gw_bind (F_Pl_has (σ) x3) fun r3 σ4 =>
        if r3 = 0 then
          some ((-1), σ4)
        else
          if gw_in x3 1000 then
            some (σ4.2.1 5 x3.toNatClampNeg, σ4)
          else none
    else
      gw_bind (F_Pl_has (σ) x3) fun r8 σ9 =>
        if r8 = 0 then
          gw_bind (F_Pl_has (σ9) x3) fun r12 σ13 =>
            if r12 = 0 then
              some ((-1), σ13)
            else
              if gw_in x3 1000 then
                some (σ13.2.1 5 x3.toNatClampNeg, σ13)
              else none
        else
          if gw_in x3 1000 then
            K_Pl_thingAt_5 n (σ9) x2 (σ9.2.1 6 x3.toNatClampNeg) (x4 + 1)
          else none
def F_Pl_thingAt (σ : St) (x1 : Int32) (x2 : Int32) : Option (Int32 × St) :=
  K_Pl_thingAt_5 gw_N (σ) x2 x1 0
def F_Ro_drop (σ : St) : Option St :=
  if (σ.1 17) ≤ 0 then
    some (σ)
  else
    some (sv σ 17 ((σ.1 17) - 1))
def F_Th_copyValue (σ : St) (x1 : Int32) : Option St :=
  gw_bind (F_Th_has (σ) x1) fun r2 σ3 =>
    if r2 = 0 then
      some (σ3)
    else
      if gw_in x1 1000 then
        if gw_in x1 1000 then
          if gw_in x1 1000 then
            if gw_in x1 1000 then
              gw_bindv (F_Va_be (σ3) (σ3.2.1 13 x1.toNatClampNeg) (σ3.2.2.2 1 x1.toNatClampNeg) (σ3.2.1 14 x1.toNatClampNeg) (σ3.2.1 15 x1.toNatClampNeg)) fun σ10 =>
                some (σ10)
            else none
          else none
        else none
      else none
def F_Ro_isFull (σ : St) : Option (Int32 × St) :=
  if (σ.1 17) < 300 then
    some (0, σ)
  else
    some (1, σ)
def F_Th_countWork (σ : St) (x1 : Int32) : Option St :=
  gw_bind (F_Th_has (σ) x1) fun r2 σ3 =>
    if r2 = 0 then
      some (σ3)
    else
      if gw_in x1 1000 then
        if gw_in x1 1000 then
          some (sa σ3 11 x1.toNatClampNeg ((σ3.2.1 11 x1.toNatClampNeg) + 1))
        else none
      else none
def K_Ro_newestInWork_7 : Nat → St → Int32 → Option (Int32 × St)
  | 0, _, _ => none
  | n + 1, σ, x1 =>
    if x1 < 0 then
      some ((-1), σ)
    else
      if 300 ≤ x1 then
        K_Ro_newestInWork_7 n (σ) (x1 + (-1))
      else
        if gw_in x1 300 then
          if (σ.2.1 19 x1.toNatClampNeg) = 0 then
            if gw_in x1 300 then
              some (σ.2.1 20 x1.toNatClampNeg, σ)
            else none
          else
            K_Ro_newestInWork_7 n (σ) (x1 + (-1))
        else none
def F_Ro_newestInWork (σ : St) : Option (Int32 × St) :=
  K_Ro_newestInWork_7 gw_N (σ) ((σ.1 17) - 1)
def F_Th_putInWork (σ : St) (x1 : Int32) (x2 : Int32) : Option St :=
  gw_bind (F_Th_has (σ) x1) fun r2 σ3 =>
    if r2 = 0 then
      some (σ3)
    else
      if gw_in x1 1000 then
        if gw_in x1 1000 then
          some (sa (sa σ3 8 x1.toNatClampNeg 1) 12 x1.toNatClampNeg x2)
        else none
      else none
def F_Ro_add (σ : St) (x1 : Int32) (x2 : Int32) (x3 : Int32) (x4 : Int64) : Option St :=
  if (σ.1 17) < 0 then
    some (σ)
  else
    if (σ.1 17) < 300 then
      if gw_in (σ.1 17) 300 then
        if gw_in (σ.1 17) 300 then
          if gw_in (σ.1 17) 300 then
            if gw_in (σ.1 17) 300 then
              if ((σ.1 17) + 1) ≤ (σ.1 18) then
                some (sv (sg (sa (sa (sa σ 19 ((σ.1 17).toNatClampNeg) x1) 20 ((σ.1 17).toNatClampNeg) x2) 21 ((σ.1 17).toNatClampNeg) x3) 2 ((σ.1 17).toNatClampNeg) x4) 17 ((σ.1 17) + 1))
              else
                some (sv (sv (sg (sa (sa (sa σ 19 ((σ.1 17).toNatClampNeg) x1) 20 ((σ.1 17).toNatClampNeg) x2) 21 ((σ.1 17).toNatClampNeg) x3) 2 ((σ.1 17).toNatClampNeg) x4) 17 ((σ.1 17) + 1)) 18 ((σ.1 17) + 1))
            else none
          else none
        else none
      else none
    else
      some (σ)
def F_Th_termOf (σ : St) (x1 : Int32) : Option (Int32 × St) :=
  gw_bind (F_Th_has (σ) x1) fun r2 σ3 =>
    if r2 = 0 then
      some ((-1), σ3)
    else
      if gw_in x1 1000 then
        some (σ3.2.1 9 x1.toNatClampNeg, σ3)
      else none
def K_Wa_needWaiting_38 (σ : St) (x1 : Int32) : Option St :=
  gw_bindv (F_Th_countWork (sv σ 8 ((σ.1 8) + 1)) x1) fun σ4 =>
    if (σ4.1 1) = 0 then
      gw_bind (F_Th_termOf (σ4) x1) fun r7 σ8 =>
        gw_bind (F_Th_placesOf (σ8) x1) fun r10 σ11 =>
          gw_bindv (F_Wa_takeTerm (σ11) r7 r10) fun σ13 =>
            some (σ13)
    else
      gw_bind (F_Ro_newestInWork (σ4)) fun r15 σ16 =>
        gw_bindv (F_Th_putInWork (σ16) x1 r15) fun σ18 =>
          gw_bindv (F_Ro_add (σ18) 0 x1 (-1) 0) fun σ20 =>
            gw_bind (F_Th_termOf (σ20) x1) fun r22 σ23 =>
              gw_bind (F_Th_placesOf (σ23) x1) fun r25 σ26 =>
                gw_bindv (F_Wa_takeTerm (σ26) r22 r25) fun σ28 =>
                  some (σ28)
def K_Wa_needWaiting_27 (σ : St) (x1 : Int32) (x2 : Int32) : Option St :=
  if x2 = 0 then
    K_Wa_needWaiting_38 (σ) x1
  else
    gw_bindv (F_Ro_drop (σ)) fun σ30 =>
      K_Wa_needWaiting_38 (σ30) x1
def F_Wa_needWaiting (σ : St) (x1 : Int32) (x2 : Int32) : Option St :=
  if (σ.1 1) = 0 then
    K_Wa_needWaiting_27 (σ) x1 x2
  else
    if x2 = 0 then
      gw_bind (F_Ro_isFull (σ)) fun r33 σ34 =>
        if r33 = 0 then
          K_Wa_needWaiting_27 (σ34) x1 x2
        else
          some (sv σ34 0 5)
    else
      K_Wa_needWaiting_27 (σ) x1 x2
def K_Wa_need_47 (σ : St) (x1 : Int32) : Option St :=
  gw_bindv (F_Th_copyValue (sv σ 7 ((σ.1 7) + 1)) x1) fun σ11 =>
    some (sv σ11 2 1)
def F_Wa_need (σ : St) (x1 : Int32) (x2 : Int32) : Option St :=
  gw_bind (F_Th_stateOf (σ) x1) fun r2 σ3 =>
    if r2 = 0 then
      gw_bindv (F_Wa_needWaiting (σ3) x1 x2) fun σ6 =>
        some (σ6)
    else
      if r2 = 1 then
        some (sv (sv σ3 9 x1) 0 3)
      else
        if r2 = 2 then
          if x2 = 0 then
            K_Wa_need_47 (σ3) x1
          else
            gw_bindv (F_Ro_drop (σ3)) fun σ13 =>
              K_Wa_need_47 (σ13) x1
        else
          some (sv σ3 0 4)
def F_Te_secondOf (σ : St) (x1 : Int32) : Option (Int32 × St) :=
  gw_bind (F_Te_has (σ) x1) fun r2 σ3 =>
    if r2 = 0 then
      some ((-1), σ3)
    else
      if gw_in x1 200 then
        some (σ3.2.1 2 x1.toNatClampNeg, σ3)
      else none
def F_Wa_newThingsFor (σ : St) (x1 : Int32) : Option (Int32 × St) :=
  gw_bind (F_Te_sortOf (σ) x1) fun r2 σ3 =>
    if r2 = 1 then
      some (0, σ3)
    else
      some (1, σ3)
def F_Th_hasRoomFor (σ : St) (x1 : Int32) : Option (Int32 × St) :=
  if 1000 < ((σ.1 14) + x1) then
    some (0, σ)
  else
    if 300 < ((σ.1 15) + x1) then
      some (0, σ)
    else
      some (1, σ)
def F_Th_add (σ : St) (x1 : Int32) (x2 : Int32) : Option (Int32 × St) :=
  if (σ.1 14) < 0 then
    some ((-1), σ)
  else
    if 1000 ≤ (σ.1 14) then
      some ((-1), σ)
    else
      if (σ.1 15) < 0 then
        some ((-1), σ)
      else
        if (σ.1 15) < 300 then
          if gw_in (σ.1 14) 1000 then
            if gw_in (σ.1 14) 1000 then
              if gw_in (σ.1 14) 1000 then
                if gw_in (σ.1 14) 1000 then
                  if gw_in (σ.1 14) 1000 then
                    if gw_in (σ.1 15) 300 then
                      some (σ.1 14, (sv (sv (sa (sa (sa (sa (sa (sa σ 8 ((σ.1 14).toNatClampNeg) 0) 9 ((σ.1 14).toNatClampNeg) x1) 10 ((σ.1 14).toNatClampNeg) x2) 11 ((σ.1 14).toNatClampNeg) 0) 12 ((σ.1 14).toNatClampNeg) (-1)) 17 ((σ.1 15).toNatClampNeg) (σ.1 14)) 14 ((σ.1 14) + 1)) 15 ((σ.1 15) + 1)))
                    else none
                  else none
                else none
              else none
            else none
          else none
        else
          some ((-1), σ)
def F_Wa_thingFor (σ : St) (x1 : Int32) : Option (Int32 × St) :=
  gw_bind (F_Te_sortOf (σ) x1) fun r2 σ3 =>
    if r2 = 1 then
      gw_bind (F_Te_firstOf (σ3) x1) fun r9 σ10 =>
        gw_bind (F_Pl_thingAt (σ10) (σ3.1 4) r9) fun r12 σ13 =>
          some (r12, σ13)
    else
      gw_bind (F_Th_add (σ3) x1 (σ3.1 4)) fun r6 σ7 =>
        some (r6, σ7)
def F_Va_bePair (σ : St) (x1 : Int32) (x2 : Int32) : Option St :=
  gw_bindv (F_Va_be (σ) 2 0 x1 x2) fun σ2 =>
    some (σ2)
def F_Wa_makePair (σ : St) (x1 : Int32) (x2 : Int32) : Option St :=
  gw_bind (F_Wa_newThingsFor (σ) x1) fun r2 σ3 =>
    gw_bind (F_Wa_newThingsFor (σ3) x2) fun r5 σ6 =>
      gw_bind (F_Th_hasRoomFor (σ6) (r2 + r5)) fun r8 σ9 =>
        if r8 = 0 then
          some (sv σ9 0 5)
        else
          gw_bind (F_Wa_thingFor (σ9) x1) fun r12 σ13 =>
            gw_bind (F_Wa_thingFor (σ13) x2) fun r15 σ16 =>
              gw_bindv (F_Va_bePair (σ16) r12 r15) fun σ18 =>
                some (sv σ18 2 1)
def F_Wa_enterApply (σ : St) (x1 : Int32) : Option St :=
  gw_bind (F_Wa_newThingsFor (σ) x1) fun r2 σ3 =>
    gw_bind (F_Th_hasRoomFor (σ3) r2) fun r5 σ6 =>
      if r5 = 0 then
        some (sv σ6 0 5)
      else
        gw_bind (F_Ro_isFull (σ6)) fun r9 σ10 =>
          if r9 = 0 then
            gw_bind (F_Wa_thingFor (σ10) x1) fun r13 σ14 =>
              gw_bindv (F_Ro_add (σ14) 1 r13 (-1) 0) fun σ16 =>
                gw_bind (F_Te_firstOf (σ16) (σ16.1 3)) fun r18 σ19 =>
                  some (sv σ19 3 r18)
          else
            some (sv σ10 0 5)
def F_Pl_isFull (σ : St) : Option (Int32 × St) :=
  if (σ.1 13) < 1000 then
    some (0, σ)
  else
    some (1, σ)
def F_Pl_add (σ : St) (x1 : Int32) (x2 : Int32) : Option (Int32 × St) :=
  if (σ.1 13) < 0 then
    some ((-1), σ)
  else
    if (σ.1 13) < 1000 then
      if gw_in (σ.1 13) 1000 then
        if gw_in (σ.1 13) 1000 then
          some (σ.1 13, (sv (sa (sa σ 5 ((σ.1 13).toNatClampNeg) x1) 6 ((σ.1 13).toNatClampNeg) x2) 13 ((σ.1 13) + 1)))
        else none
      else none
    else
      some ((-1), σ)
def F_Wa_enterLet (σ : St) (x1 : Int32) (x2 : Int32) : Option St :=
  gw_bind (F_Th_hasRoomFor (σ) 1) fun r2 σ3 =>
    if r2 = 0 then
      some (sv σ3 0 5)
    else
      gw_bind (F_Pl_isFull (σ3)) fun r6 σ7 =>
        if r6 = 0 then
          gw_bind (F_Pl_add (σ7) (σ7.1 14) (σ7.1 4)) fun r10 σ11 =>
            gw_bind (F_Th_add (σ11) x1 r10) fun r13 σ14 =>
              gw_bindv (F_Wa_takeTerm (σ14) x2 r10) fun σ16 =>
                some (σ16)
        else
          some (sv σ7 0 5)
def F_Wa_enter (σ : St) (x1 : Int32) : Option St :=
  gw_bind (F_Ro_isFull (σ)) fun r2 σ3 =>
    if r2 = 0 then
      gw_bindv (F_Ro_add (σ3) x1 (σ3.1 3) (σ3.1 4) 0) fun σ6 =>
        gw_bind (F_Te_firstOf (σ6) (σ6.1 3)) fun r8 σ9 =>
          some (sv σ9 3 r8)
    else
      some (sv σ3 0 5)
def F_Wa_stepWithTerm (σ : St) : Option St :=
  gw_bind (F_Te_sortOf (σ) (σ.1 3)) fun r2 σ3 =>
    if r2 = 0 then
      gw_bind (F_Te_numberOf (σ3) (σ3.1 3)) fun r6 σ7 =>
        gw_bindv (F_Va_beNumber (σ7) r6) fun σ9 =>
          some (sv σ9 2 1)
    else
      if r2 = 1 then
        gw_bind (F_Te_firstOf (σ3) (σ3.1 3)) fun r12 σ13 =>
          gw_bind (F_Pl_thingAt (σ13) (σ3.1 4) r12) fun r15 σ16 =>
            gw_bindv (F_Wa_need (σ16) r15 0) fun σ18 =>
              some (σ18)
      else
        if r2 = 2 then
          gw_bindv (F_Va_beLambda (σ3) (σ3.1 3) (σ3.1 4)) fun σ21 =>
            some (sv σ21 2 1)
        else
          if r2 = 3 then
            gw_bindv (F_Wa_enter (σ3) 5) fun σ24 =>
              some (σ24)
          else
            if r2 = 4 then
              gw_bindv (F_Wa_enter (σ3) 6) fun σ27 =>
                some (σ27)
            else
              if r2 = 5 then
                gw_bind (F_Te_secondOf (σ3) (σ3.1 3)) fun r30 σ31 =>
                  gw_bindv (F_Wa_enterApply (σ31) r30) fun σ33 =>
                    some (σ33)
              else
                if r2 = 6 then
                  gw_bind (F_Te_firstOf (σ3) (σ3.1 3)) fun r36 σ37 =>
                    gw_bind (F_Te_secondOf (σ37) (σ37.1 3)) fun r39 σ40 =>
                      gw_bindv (F_Wa_enterLet (σ40) r36 r39) fun σ42 =>
                        some (σ42)
                else
                  if r2 = 7 then
                    gw_bind (F_Te_firstOf (σ3) (σ3.1 3)) fun r45 σ46 =>
                      gw_bind (F_Te_secondOf (σ46) (σ46.1 3)) fun r48 σ49 =>
                        gw_bindv (F_Wa_makePair (σ49) r45 r48) fun σ51 =>
                          some (σ51)
                  else
                    if r2 = 8 then
                      gw_bindv (F_Wa_enter (σ3) 2) fun σ54 =>
                        some (σ54)
                    else
                      if r2 = 9 then
                        gw_bindv (F_Wa_enter (σ3) 4) fun σ57 =>
                          some (σ57)
                      else
                        some (sv σ3 0 4)
def F_Ro_newest (σ : St) : Option (Int32 × St) :=
  some ((σ.1 17) - 1, σ)
def F_Th_finish (σ : St) (x1 : Int32) : Option St :=
  gw_bind (F_Th_has (σ) x1) fun r2 σ3 =>
    if r2 = 0 then
      some (σ3)
    else
      if gw_in x1 1000 then
        if gw_in x1 1000 then
          if gw_in x1 1000 then
            if gw_in x1 1000 then
              if gw_in x1 1000 then
                some (sa (sa (sg (sa (sa σ3 8 x1.toNatClampNeg 2) 13 x1.toNatClampNeg (σ3.1 19)) 1 x1.toNatClampNeg (σ3.2.2.1 0)) 14 x1.toNatClampNeg (σ3.1 20)) 15 x1.toNatClampNeg (σ3.1 21))
              else none
            else none
          else none
        else none
      else none
def F_Wa_giveThing (σ : St) (x1 : Int32) : Option St :=
  if (σ.1 19) = 1 then
    gw_bind (F_Pl_isFull (σ)) fun r3 σ4 =>
      if r3 = 0 then
        gw_bindv (F_Ro_drop (σ4)) fun σ7 =>
          gw_bind (F_Te_firstOf (σ7) (σ7.1 20)) fun r9 σ10 =>
            gw_bind (F_Pl_add (σ10) x1 (σ10.1 21)) fun r12 σ13 =>
              gw_bindv (F_Wa_takeTerm (σ13) r9 r12) fun σ15 =>
                some (σ15)
      else
        some (sv σ4 0 5)
  else
    some (sv σ 0 4)
def F_Wa_thenSecond (σ : St) (x1 : Int32) (x2 : Int32) : Option St :=
  if (σ.1 19) = 0 then
    gw_bindv (F_Ro_drop (σ)) fun σ3 =>
      gw_bindv (F_Ro_add (σ3) 3 x1 (-1) (σ3.2.2.1 0)) fun σ5 =>
        gw_bind (F_Te_secondOf (σ5) x1) fun r7 σ8 =>
          gw_bindv (F_Wa_takeTerm (σ8) r7 x2) fun σ10 =>
            some (σ10)
  else
    some (sv σ 0 4)
def F_Te_thirdOf (σ : St) (x1 : Int32) : Option (Int32 × St) :=
  gw_bind (F_Te_has (σ) x1) fun r2 σ3 =>
    if r2 = 0 then
      some ((-1), σ3)
    else
      if gw_in x1 200 then
        some (σ3.2.1 3 x1.toNatClampNeg, σ3)
      else none
def F_Ro_numberOf (σ : St) (x1 : Int32) : Option (Int64 × St) :=
  gw_bind (F_Ro_has (σ) x1) fun r2 σ3 =>
    if r2 = 0 then
      some (0, σ3)
    else
      if gw_in x1 300 then
        some (σ3.2.2.2 2 x1.toNatClampNeg, σ3)
      else none
def F_Wa_resultOf (σ : St) (x0 : Int32) (x1 : Int64) (x3 : Int64) : Option (Int64 × St) :=
  if x0 = 0 then
    some (x1 + x3, σ)
  else
    if x0 = 1 then
      some (x1 - x3, σ)
    else
      if x0 = 2 then
        some (x1 * x3, σ)
      else
        if x0 = 3 then
          if (lg_cmp x3 0) = 0 then
            some (0, σ)
          else
            if ¬ x3 = 0 then
              some (x1 / x3, σ)
            else none
        else
          if x0 = 4 then
            if (lg_cmp x1 x3) = 0 then
              some (1, σ)
            else
              some (0, σ)
          else
            if 0 ≤ (lg_cmp x1 x3) then
              some (0, σ)
            else
              some (1, σ)
def K_Wa_actWith_33 (σ : St) (x1 : Int32) (x2 : Int64) : Option St :=
  gw_bindv (F_Ro_drop (σ)) fun σ4 =>
    gw_bind (F_Wa_resultOf (σ4) x1 x2 (σ4.2.2.1 0)) fun r6 σ7 =>
      gw_bindv (F_Va_beNumber (σ7) r6) fun σ9 =>
        some (σ9)
def F_Wa_actWith (σ : St) (x1 : Int32) (x2 : Int64) : Option St :=
  if (σ.1 19) = 0 then
    if x1 = 3 then
      if (lg_cmp (σ.2.2.1 0) 0) = 0 then
        some (sv σ 0 4)
      else
        K_Wa_actWith_33 (σ) x1 x2
    else
      K_Wa_actWith_33 (σ) x1 x2
  else
    some (sv σ 0 4)
def F_Wa_chooseBranch (σ : St) (x1 : Int32) (x2 : Int32) : Option St :=
  if (σ.1 19) = 0 then
    gw_bindv (F_Ro_drop (σ)) fun σ3 =>
      if (lg_cmp (σ3.2.2.1 0) 0) = 0 then
        gw_bind (F_Te_thirdOf (σ3) x1) fun r11 σ12 =>
          gw_bindv (F_Wa_takeTerm (σ12) r11 x2) fun σ14 =>
            some (σ14)
      else
        gw_bind (F_Te_secondOf (σ3) x1) fun r6 σ7 =>
          gw_bindv (F_Wa_takeTerm (σ7) r6 x2) fun σ9 =>
            some (σ9)
  else
    some (sv σ 0 4)
def F_Wa_takeOfPair (σ : St) (x1 : Int32) : Option St :=
  if (σ.1 19) = 2 then
    gw_bindv (F_Wa_need (σ) x1 1) fun σ3 =>
      some (σ3)
  else
    some (sv σ 0 4)
def F_Wa_stepWithValue (σ : St) : Option St :=
  gw_bind (F_Ro_newest (σ)) fun r2 σ3 =>
    gw_bind (F_Ro_kindOf (σ3) r2) fun r5 σ6 =>
      if r5 = 0 then
        gw_bind (F_Ro_firstOf (σ6) r2) fun r9 σ10 =>
          gw_bindv (F_Th_finish (σ10) r9) fun σ12 =>
            gw_bindv (F_Ro_drop (σ12)) fun σ14 =>
              some (σ14)
      else
        if r5 = 1 then
          gw_bind (F_Ro_firstOf (σ6) r2) fun r17 σ18 =>
            gw_bindv (F_Wa_giveThing (σ18) r17) fun σ20 =>
              some (σ20)
        else
          if r5 = 2 then
            gw_bind (F_Ro_firstOf (σ6) r2) fun r23 σ24 =>
              gw_bind (F_Ro_secondOf (σ24) r2) fun r26 σ27 =>
                gw_bindv (F_Wa_thenSecond (σ27) r23 r26) fun σ29 =>
                  some (σ29)
          else
            if r5 = 3 then
              gw_bind (F_Ro_firstOf (σ6) r2) fun r32 σ33 =>
                gw_bind (F_Te_thirdOf (σ33) r32) fun r35 σ36 =>
                  gw_bind (F_Ro_numberOf (σ36) r2) fun r38 σ39 =>
                    gw_bindv (F_Wa_actWith (σ39) r35 r38) fun σ41 =>
                      some (σ41)
            else
              if r5 = 4 then
                gw_bind (F_Ro_firstOf (σ6) r2) fun r44 σ45 =>
                  gw_bind (F_Ro_secondOf (σ45) r2) fun r47 σ48 =>
                    gw_bindv (F_Wa_chooseBranch (σ48) r44 r47) fun σ50 =>
                      some (σ50)
              else
                if r5 = 5 then
                  gw_bindv (F_Wa_takeOfPair (σ6) (σ6.1 20)) fun σ53 =>
                    some (σ53)
                else
                  if r5 = 6 then
                    gw_bindv (F_Wa_takeOfPair (σ6) (σ6.1 21)) fun σ56 =>
                      some (σ56)
                  else
                    some (sv σ6 0 4)
def K_Wa_step_72 (σ : St) : Option St :=
  if (σ.1 0) = 1 then
    if (σ.1 2) = 1 then
      if (σ.1 17) = 0 then
        some (sv σ 0 2)
      else
        some (σ)
    else
      some (σ)
  else
    some (σ)
def K_Wa_step_24 (σ : St) : Option St :=
  if (σ.1 2) = 0 then
    gw_bindv (F_Wa_stepWithTerm (sv σ 6 ((σ.1 6) + 1))) fun σ12 =>
      K_Wa_step_72 (σ12)
  else
    if (σ.1 2) = 1 then
      gw_bindv (F_Wa_stepWithValue (sv σ 6 ((σ.1 6) + 1))) fun σ10 =>
        K_Wa_step_72 (σ10)
    else
      gw_bindv (F_Wa_need (sv σ 6 ((σ.1 6) + 1)) (σ.1 5) 0) fun σ5 =>
        K_Wa_step_72 (σ5)
def F_Wa_step (σ : St) : Option St :=
  if (σ.1 10) ≤ 0 then
    K_Wa_step_24 (σ)
  else
    if ¬ (σ.1 10) = 0 then
      if ((σ.1 6) - (σ.1 6) / (σ.1 10) * (σ.1 10)) = 0 then
        gw_bind (F_Wa_sweepUnreached (σ)) fun r16 σ17 =>
          K_Wa_step_24 (σ17)
      else
        K_Wa_step_24 (σ)
    else none
def F_Wa_tally (σ : St) (x1 : Int32) : Option (Int32 × St) :=
  if x1 = 0 then
    some (σ.1 6, σ)
  else
    if x1 = 1 then
      some (σ.1 14, σ)
    else
      if x1 = 2 then
        some (σ.1 15, σ)
      else
        if x1 = 3 then
          some (σ.1 17, σ)
        else
          if x1 = 4 then
            some (σ.1 18, σ)
          else
            if x1 = 5 then
              some (σ.1 7, σ)
            else
              if x1 = 6 then
                some (σ.1 8, σ)
              else
                some (σ.1 13, σ)
def K_Wa_ringThing_18 : Nat → St → Int32 → Int32 → Int32 → Option (Int32 × St)
  | 0, _, _, _, _ => none
  | n + 1, σ, x1, x2, x3 =>
    if (σ.1 17) ≤ x3 then
      some ((-1), σ)
    else
      gw_bind (F_Ro_kindOf (σ) x3) fun r5 σ6 =>
        if r5 = 0 then
          gw_bind (F_Ro_firstOf (σ6) x3) fun r9 σ10 =>
            if x2 = (-1) then
              if r9 = (σ10.1 9) then
                if (x2 + 1) = x1 then
                  some (r9, σ10)
                else
                  K_Wa_ringThing_18 n (σ10) x1 (x2 + 1) (x3 + 1)
              else
                if x2 = x1 then
                  some (r9, σ10)
                else
                  K_Wa_ringThing_18 n (σ10) x1 x2 (x3 + 1)
            else
              if (x2 + 1) = x1 then
                some (r9, σ10)
              else
                K_Wa_ringThing_18 n (σ10) x1 (x2 + 1) (x3 + 1)
        else
          K_Wa_ringThing_18 n (σ6) x1 x2 (x3 + 1)
def F_Wa_ringThing (σ : St) (x1 : Int32) : Option (Int32 × St) :=
  if (σ.1 0) = 3 then
    if 0 ≤ x1 then
      K_Wa_ringThing_18 gw_N (σ) x1 (-1) 0
    else
      some ((-1), σ)
  else
    some ((-1), σ)
def F_Te_isFull (σ : St) : Option (Int32 × St) :=
  if (σ.1 12) < 200 then
    some (0, σ)
  else
    some (1, σ)
def F_Te_add (σ : St) (x1 : Int32) (x2 : Int32) (x3 : Int32) (x4 : Int32) (x5 : Int64) (x7 : Int32) : Option (Int32 × St) :=
  if (σ.1 12) < 0 then
    some ((-1), σ)
  else
    if (σ.1 12) < 200 then
      if gw_in (σ.1 12) 200 then
        if gw_in (σ.1 12) 200 then
          if gw_in (σ.1 12) 200 then
            if gw_in (σ.1 12) 200 then
              if gw_in (σ.1 12) 200 then
                if gw_in (σ.1 12) 200 then
                  some (σ.1 12, (sv (sa (sg (sa (sa (sa (sa σ 0 ((σ.1 12).toNatClampNeg) x1) 1 ((σ.1 12).toNatClampNeg) x2) 2 ((σ.1 12).toNatClampNeg) x3) 3 ((σ.1 12).toNatClampNeg) x4) 0 ((σ.1 12).toNatClampNeg) x5) 4 ((σ.1 12).toNatClampNeg) x7) 12 ((σ.1 12) + 1)))
                else none
              else none
            else none
          else none
        else none
      else none
    else
      some ((-1), σ)
def F_Te_addNumber (σ : St) (x1 : Int64) : Option (Int32 × St) :=
  gw_bind (F_Te_add (σ) 0 (-1) (-1) (-1) x1 0) fun r2 σ3 =>
    some (r2, σ3)
def F_Te_addVariable (σ : St) (x1 : Int32) : Option (Int32 × St) :=
  gw_bind (F_Te_add (σ) 1 x1 (-1) (-1) 0 (x1 + 1)) fun r2 σ3 =>
    some (r2, σ3)
def F_Te_lackOf (σ : St) (x1 : Int32) : Option (Int32 × St) :=
  gw_bind (F_Te_has (σ) x1) fun r2 σ3 =>
    if r2 = 0 then
      some (0, σ3)
    else
      if gw_in x1 200 then
        some (σ3.2.1 4 x1.toNatClampNeg, σ3)
      else none
def F_Te_oneLess (σ : St) (x0 : Int32) : Option (Int32 × St) :=
  some (if (x0 - 1) < 0 then 0 else (x0 - 1), σ)
def F_Te_addOne (σ : St) (x1 : Int32) (x2 : Int32) : Option (Int32 × St) :=
  if x1 = 0 then
    gw_bind (F_Te_lackOf (σ) x2) fun r16 σ17 =>
      gw_bind (F_Te_oneLess (σ17) r16) fun r19 σ20 =>
        gw_bind (F_Te_add (σ20) 2 x2 (-1) (-1) 0 r19) fun r22 σ23 =>
          some (r22, σ23)
  else
    if x1 = 1 then
      gw_bind (F_Te_lackOf (σ) x2) fun r10 σ11 =>
        gw_bind (F_Te_add (σ11) 3 x2 (-1) (-1) 0 r10) fun r13 σ14 =>
          some (r13, σ14)
    else
      gw_bind (F_Te_lackOf (σ) x2) fun r4 σ5 =>
        gw_bind (F_Te_add (σ5) 4 x2 (-1) (-1) 0 r4) fun r7 σ8 =>
          some (r7, σ8)
def F_Te_addTwo (σ : St) (x1 : Int32) (x2 : Int32) (x3 : Int32) : Option (Int32 × St) :=
  gw_bind (F_Te_lackOf (σ) x2) fun r2 σ3 =>
    gw_bind (F_Te_lackOf (σ3) x3) fun r5 σ6 =>
      if x1 = 0 then
        gw_bind (F_Te_add (σ6) 5 x2 x3 (-1) 0 (if r2 < r5 then r5 else r2)) fun r9 σ10 =>
          some (r9, σ10)
      else
        if x1 = 1 then
          gw_bind (F_Te_oneLess (σ6) (if r2 < r5 then r5 else r2)) fun r13 σ14 =>
            gw_bind (F_Te_add (σ14) 6 x2 x3 (-1) 0 r13) fun r16 σ17 =>
              some (r16, σ17)
        else
          if x1 = 2 then
            gw_bind (F_Te_add (σ6) 7 x2 x3 (-1) 0 (if r2 < r5 then r5 else r2)) fun r20 σ21 =>
              some (r20, σ21)
          else
            gw_bind (F_Te_add (σ6) 8 x2 x3 (x1 - 3) 0 (if r2 < r5 then r5 else r2)) fun r23 σ24 =>
              some (r23, σ24)
def F_Te_addChoose (σ : St) (x1 : Int32) (x2 : Int32) (x3 : Int32) : Option (Int32 × St) :=
  gw_bind (F_Te_lackOf (σ) x1) fun r2 σ3 =>
    gw_bind (F_Te_lackOf (σ3) x2) fun r5 σ6 =>
      gw_bind (F_Te_lackOf (σ6) x3) fun r8 σ9 =>
        gw_bind (F_Te_add (σ9) 9 x1 x2 x3 0 (if r2 < (if r5 < r8 then r8 else r5) then (if r5 < r8 then r8 else r5) else r2)) fun r11 σ12 =>
          some (r11, σ12)
def F_Th_timesOf (σ : St) (x1 : Int32) : Option (Int32 × St) :=
  gw_bind (F_Th_has (σ) x1) fun r2 σ3 =>
    if r2 = 0 then
      some (0, σ3)
    else
      if gw_in x1 1000 then
        some (σ3.2.1 11 x1.toNatClampNeg, σ3)
      else none
def F_Th_neederOf (σ : St) (x1 : Int32) : Option (Int32 × St) :=
  gw_bind (F_Th_has (σ) x1) fun r2 σ3 =>
    if r2 = 0 then
      some ((-1), σ3)
    else
      if gw_in x1 1000 then
        some (σ3.2.1 12 x1.toNatClampNeg, σ3)
      else none
def F_Gw_outcome (σ : St) : Option (Int32 × St) :=
  some (σ.1 0, σ)
def F_Gw_sort (σ : St) : Option (Int32 × St) :=
  if (σ.1 0) = 2 then
    some (σ.1 19, σ)
  else
    some ((-1), σ)
def F_Gw_value (σ : St) : Option (Int64 × St) :=
  if (σ.1 0) = 2 then
    if (σ.1 19) = 0 then
      some (σ.2.2.1 0, σ)
    else
      some (0, σ)
  else
    some (0, σ)
def F_Mo_thrown (σ : St) : Option (Int32 × St) :=
  some (σ.1 20, σ)
def F_Mo_isTerm (σ : St) (x1 : Int32) : Option (Int32 × St) :=
  if x1 < 0 then
    some (0, σ)
  else
    if (σ.1 0) ≤ x1 then
      some (0, σ)
    else
      some (1, σ)
def F_Mo_thrownBy (σ : St) (x1 : Int32) : Option (Int32 × St) :=
  some (0, (sv σ 20 x1))
def F_Mo_term (σ : St) (x1 : Int32) (x2 : Int32) (x3 : Int32) (x4 : Int32) : Option (Int32 × St) :=
  if gw_in (σ.1 0) 200 then
    if gw_in (σ.1 0) 200 then
      if gw_in (σ.1 0) 200 then
        if gw_in (σ.1 0) 200 then
          some (((σ.1 0) + 1) - 1, (sv (sa (sa (sa (sa (sv σ 20 0) 0 ((σ.1 0).toNatClampNeg) x1) 1 ((σ.1 0).toNatClampNeg) x2) 2 ((σ.1 0).toNatClampNeg) x3) 3 ((σ.1 0).toNatClampNeg) x4) 0 ((σ.1 0) + 1)))
        else none
      else none
    else none
  else none
def F_Mo_more (σ : St) (x0 : Int32) (x1 : Int32) : Option (Int32 × St) :=
  if x0 ≤ x1 then
    some (x1, σ)
  else
    some (x0, σ)
def F_Mo_lessOne (σ : St) (x0 : Int32) : Option (Int32 × St) :=
  if x0 ≤ 0 then
    some (0, σ)
  else
    some (x0 - 1, σ)
def F_Mo_number (σ : St) (x1 : Int64) : Option (Int32 × St) :=
  if (σ.1 0) = 200 then
    gw_bind (F_Mo_thrownBy (σ) 1) fun r8 σ9 =>
      some (r8, σ9)
  else
    gw_bind (F_Mo_term (σ) 0 (-1) (-1) (-1)) fun r3 σ4 =>
      if gw_in r3 200 then
        if gw_in r3 200 then
          some (r3, (sa (sg σ4 0 r3.toNatClampNeg x1) 4 r3.toNatClampNeg 0))
        else none
      else none
def F_Mo_variable (σ : St) (x1 : Int32) : Option (Int32 × St) :=
  if (σ.1 0) = 200 then
    gw_bind (F_Mo_thrownBy (σ) 1) fun r15 σ16 =>
      some (r15, σ16)
  else
    if x1 < 0 then
      gw_bind (F_Mo_thrownBy (σ) 2) fun r4 σ5 =>
        some (r4, σ5)
    else
      if x1 ≤ 60 then
        gw_bind (F_Mo_term (σ) 1 x1 (-1) (-1)) fun r8 σ9 =>
          if gw_in r8 200 then
            some (r8, (sa σ9 4 r8.toNatClampNeg (x1 + 1)))
          else none
      else
        gw_bind (F_Mo_thrownBy (σ) 2) fun r12 σ13 =>
          some (r12, σ13)
def K_Mo_one_64 (σ : St) (x1 : Int32) (x2 : Int32) (y0 : Int32) : Option (Int32 × St) :=
  gw_bind (F_Mo_term (σ) y0 x2 (-1) (-1)) fun r14 σ15 =>
    if x1 = 0 then
      if gw_in x2 200 then
        gw_bind (F_Mo_lessOne (σ15) (σ15.2.1 4 x2.toNatClampNeg)) fun r21 σ22 =>
          if gw_in r14 200 then
            some (r14, (sa σ22 4 r14.toNatClampNeg r21))
          else none
      else none
    else
      if gw_in x2 200 then
        if gw_in r14 200 then
          some (r14, (sa σ15 4 r14.toNatClampNeg (σ15.2.1 4 x2.toNatClampNeg)))
        else none
      else none
def F_Mo_one (σ : St) (x1 : Int32) (x2 : Int32) : Option (Int32 × St) :=
  gw_bind (F_Mo_isTerm (σ) x2) fun r2 σ3 =>
    if r2 = 0 then
      gw_bind (F_Mo_thrownBy (σ3) 1) fun r31 σ32 =>
        some (r31, σ32)
    else
      if (σ3.1 0) = 200 then
        gw_bind (F_Mo_thrownBy (σ3) 2) fun r28 σ29 =>
          some (r28, σ29)
      else
        if x1 < 0 then
          gw_bind (F_Mo_thrownBy (σ3) 3) fun r8 σ9 =>
            some (r8, σ9)
        else
          if x1 ≤ 2 then
            if x1 = 0 then
              K_Mo_one_64 (σ3) x1 x2 2
            else
              if x1 = 1 then
                K_Mo_one_64 (σ3) x1 x2 3
              else
                K_Mo_one_64 (σ3) x1 x2 4
          else
            gw_bind (F_Mo_thrownBy (σ3) 3) fun r25 σ26 =>
              some (r25, σ26)
def K_Mo_two_89 (σ : St) (x1 : Int32) (x2 : Int32) (x3 : Int32) (y0 : Int32) : Option (Int32 × St) :=
  gw_bind (F_Mo_term (σ) y0 x2 x3 (-1)) fun r22 σ23 =>
    if gw_in x2 200 then
      if gw_in x3 200 then
        gw_bind (F_Mo_more (σ23) (σ23.2.1 4 x2.toNatClampNeg) (σ23.2.1 4 x3.toNatClampNeg)) fun r27 σ28 =>
          if x1 = 1 then
            gw_bind (F_Mo_lessOne (σ28) r27) fun r32 σ33 =>
              if gw_in r22 200 then
                some (r22, (sa σ33 4 r22.toNatClampNeg r32))
              else none
          else
            if gw_in r22 200 then
              some (r22, (sa σ28 4 r22.toNatClampNeg r27))
            else none
      else none
    else none
def F_Mo_two (σ : St) (x1 : Int32) (x2 : Int32) (x3 : Int32) : Option (Int32 × St) :=
  gw_bind (F_Mo_isTerm (σ) x2) fun r2 σ3 =>
    if r2 = 0 then
      gw_bind (F_Mo_thrownBy (σ3) 1) fun r6 σ7 =>
        some (r6, σ7)
    else
      gw_bind (F_Mo_isTerm (σ3) x3) fun r9 σ10 =>
        if r9 = 0 then
          gw_bind (F_Mo_thrownBy (σ10) 1) fun r42 σ43 =>
            some (r42, σ43)
        else
          if (σ10.1 0) = 200 then
            gw_bind (F_Mo_thrownBy (σ10) 2) fun r39 σ40 =>
              some (r39, σ40)
          else
            if x1 < 0 then
              gw_bind (F_Mo_thrownBy (σ10) 3) fun r15 σ16 =>
                some (r15, σ16)
            else
              if x1 ≤ 8 then
                if x1 = 0 then
                  K_Mo_two_89 (σ10) x1 x2 x3 5
                else
                  if x1 = 1 then
                    K_Mo_two_89 (σ10) x1 x2 x3 6
                  else
                    if x1 = 2 then
                      K_Mo_two_89 (σ10) x1 x2 x3 7
                    else
                      K_Mo_two_89 (σ10) x1 x2 x3 ((8 + x1) - 3)
              else
                gw_bind (F_Mo_thrownBy (σ10) 3) fun r36 σ37 =>
                  some (r36, σ37)
def F_Mo_choose (σ : St) (x1 : Int32) (x2 : Int32) (x3 : Int32) : Option (Int32 × St) :=
  gw_bind (F_Mo_isTerm (σ) x1) fun r2 σ3 =>
    if r2 = 0 then
      gw_bind (F_Mo_thrownBy (σ3) 1) fun r6 σ7 =>
        some (r6, σ7)
    else
      gw_bind (F_Mo_isTerm (σ3) x2) fun r9 σ10 =>
        if r9 = 0 then
          gw_bind (F_Mo_thrownBy (σ10) 1) fun r13 σ14 =>
            some (r13, σ14)
        else
          gw_bind (F_Mo_isTerm (σ10) x3) fun r16 σ17 =>
            if r16 = 0 then
              gw_bind (F_Mo_thrownBy (σ17) 1) fun r37 σ38 =>
                some (r37, σ38)
            else
              if (σ17.1 0) = 200 then
                gw_bind (F_Mo_thrownBy (σ17) 2) fun r34 σ35 =>
                  some (r34, σ35)
              else
                gw_bind (F_Mo_term (σ17) 14 x2 x3 x1) fun r21 σ22 =>
                  if gw_in x1 200 then
                    if gw_in x2 200 then
                      if gw_in x3 200 then
                        gw_bind (F_Mo_more (σ22) (σ22.2.1 4 x2.toNatClampNeg) (σ22.2.1 4 x3.toNatClampNeg)) fun r27 σ28 =>
                          gw_bind (F_Mo_more (σ28) (σ22.2.1 4 x1.toNatClampNeg) r27) fun r30 σ31 =>
                            if gw_in r21 200 then
                              some (r21, (sa σ31 4 r21.toNatClampNeg r30))
                            else none
                      else none
                    else none
                  else none
def F_Mo_lacks (σ : St) (x1 : Int32) : Option (Int32 × St) :=
  gw_bind (F_Mo_isTerm (σ) x1) fun r2 σ3 =>
    if r2 = 0 then
      gw_bind (F_Mo_thrownBy (σ3) 1) fun r7 σ8 =>
        some (r7, σ8)
    else
      if gw_in x1 200 then
        some (σ3.2.1 4 x1.toNatClampNeg, (sv σ3 20 0))
      else none
def F_Mo_atHand (σ : St) (x1 : Int32) (x2 : Int32) : Option St :=
  some (sv (sv (sv σ 6 0) 7 x1) 8 x2)
def F_Mo_begin (σ : St) (x1 : Int32) (x2 : Int32) : Option St :=
  gw_bind (F_Mo_isTerm (σ) x1) fun r2 σ3 =>
    if r2 = 0 then
      some (sv σ3 20 1)
    else
      if gw_in x1 200 then
        if (σ3.2.1 4 x1.toNatClampNeg) ≤ 0 then
          if x2 = 0 ∨ x2 = 1 then
            gw_bindv (F_Mo_atHand (sv (sv (sv (sv (sv (sv (sv (sv (sv (sv (sv σ3 20 0) 1 0) 2 0) 3 0) 4 0) 5 0) 15 0) 16 0) 17 0) 14 x2) 13 1) x1 (-1)) fun σ9 =>
              some (σ9)
          else none
        else
          some (sv σ3 20 2)
      else none
def F_Mo_valueAtHand (σ : St) (x1 : Int32) (x2 : Int64) (x4 : Int32) (x5 : Int32) : Option St :=
  some (sv (sv (sw (sv (sv σ 6 1) 10 x1) 0 x2) 11 x4) 12 x5)
def F_Mo_reach (σ : St) (x1 : Int32) : Option St :=
  if gw_in x1 1000 then
    if (σ.2.1 19 x1.toNatClampNeg) = 0 then
      if gw_in x1 1000 then
        if gw_in (σ.1 21) 1000 then
          some (sv (sa (sa σ 19 x1.toNatClampNeg 1) 21 ((σ.1 21).toNatClampNeg) x1) 21 ((σ.1 21) + 1))
        else none
      else none
    else
      some (σ)
  else none
def K_Mo_reachPlaces_2 : Nat → St → Int32 → Option St
  | 0, _, _ => none
  | n + 1, σ, x2 =>
    if x2 < 0 then
      some (σ)
    else
      if gw_in x2 1000 then
        if (σ.2.1 20 x2.toNatClampNeg) = 0 then
          if gw_in x2 1000 then
            if gw_in x2 1000 then
              gw_bindv (F_Mo_reach (sa σ 20 x2.toNatClampNeg 1) (σ.2.1 14 x2.toNatClampNeg)) fun σ7 =>
                if gw_in x2 1000 then
                  K_Mo_reachPlaces_2 n (σ7) (σ7.2.1 15 x2.toNatClampNeg)
                else none
            else none
          else none
        else
          some (σ)
      else none
def F_Mo_reachPlaces (σ : St) (x1 : Int32) : Option St :=
  K_Mo_reachPlaces_2 gw_N (σ) x1
def F_Mo_reachValue (σ : St) (x1 : Int32) (x2 : Int32) (x3 : Int32) : Option St :=
  if x1 = 1 then
    gw_bindv (F_Mo_reachPlaces (σ) x3) fun σ8 =>
      some (σ8)
  else
    if x1 = 2 then
      gw_bindv (F_Mo_reach (σ) x2) fun σ4 =>
        gw_bindv (F_Mo_reach (σ4) x3) fun σ6 =>
          some (σ6)
    else
      some (σ)
def K_Mo_reachHand_55 : Nat → St → Int32 → Option St
  | 0, _, _ => none
  | n + 1, σ, x1 =>
    if (σ.1 4) ≤ x1 then
      some (σ)
    else
      if gw_in x1 300 then
        if 2 ≤ (σ.2.1 16 x1.toNatClampNeg) then
          if gw_in x1 300 then
            if (σ.2.1 16 x1.toNatClampNeg) = 2 then
              if gw_in x1 300 then
                gw_bindv (F_Mo_reachPlaces (σ) (σ.2.1 18 x1.toNatClampNeg)) fun σ12 =>
                  K_Mo_reachHand_55 n (σ12) (x1 + 1)
              else none
            else
              if gw_in x1 300 then
                if (σ.2.1 16 x1.toNatClampNeg) = 4 then
                  if gw_in x1 300 then
                    gw_bindv (F_Mo_reachPlaces (σ) (σ.2.1 18 x1.toNatClampNeg)) fun σ17 =>
                      K_Mo_reachHand_55 n (σ17) (x1 + 1)
                  else none
                else
                  K_Mo_reachHand_55 n (σ) (x1 + 1)
              else none
          else none
        else
          if gw_in x1 300 then
            gw_bindv (F_Mo_reach (σ) (σ.2.1 17 x1.toNatClampNeg)) fun σ20 =>
              K_Mo_reachHand_55 n (σ20) (x1 + 1)
          else none
      else none
def K_Mo_reachHand_53 (σ : St) : Option St :=
  K_Mo_reachHand_55 gw_N (σ) 0
def F_Mo_reachHand (σ : St) : Option St :=
  if (σ.1 6) = 0 then
    gw_bindv (F_Mo_reachPlaces (σ) (σ.1 8)) fun σ24 =>
      K_Mo_reachHand_53 (σ24)
  else
    if (σ.1 6) = 1 then
      gw_bindv (F_Mo_reachValue (σ) (σ.1 10) (σ.1 11) (σ.1 12)) fun σ22 =>
        K_Mo_reachHand_53 (σ22)
    else
      gw_bindv (F_Mo_reach (σ) (σ.1 9)) fun σ4 =>
        K_Mo_reachHand_53 (σ4)
def K_Mo_sweep_136 : Nat → St → Int32 → Int32 → Option (Int32 × St)
  | 0, _, _, _ => none
  | n + 1, σ, x1, x2 =>
    if (σ.1 1) ≤ x2 then
      some (x1, (sv σ 2 ((σ.1 2) - x1)))
    else
      if gw_in x2 1000 then
        if (σ.2.1 19 x2.toNatClampNeg) = 0 then
          if gw_in x2 1000 then
            if (σ.2.1 5 x2.toNatClampNeg) = 3 then
              K_Mo_sweep_136 n (σ) x1 (x2 + 1)
            else
              if gw_in x2 1000 then
                K_Mo_sweep_136 n (sa σ 5 x2.toNatClampNeg 3) (x1 + 1) (x2 + 1)
              else none
          else none
        else
          K_Mo_sweep_136 n (σ) x1 (x2 + 1)
      else none
def K_Mo_sweep_57 : Nat → St → Int32 → Option (Int32 × St)
  | 0, _, _ => none
  | n + 1, σ, x1 =>
    if (σ.1 21) ≤ x1 then
      K_Mo_sweep_136 gw_N (σ) 0 0
    else
      if gw_in x1 1000 then
        if gw_in (σ.2.1 21 x1.toNatClampNeg) 1000 then
          if (σ.2.1 5 ((σ.2.1 21 x1.toNatClampNeg).toNatClampNeg)) = 0 then
            if gw_in (σ.2.1 21 x1.toNatClampNeg) 1000 then
              gw_bindv (F_Mo_reachPlaces (σ) (σ.2.1 7 ((σ.2.1 21 x1.toNatClampNeg).toNatClampNeg))) fun σ24 =>
                K_Mo_sweep_57 n (σ24) (x1 + 1)
            else none
          else
            if gw_in (σ.2.1 21 x1.toNatClampNeg) 1000 then
              if (σ.2.1 5 ((σ.2.1 21 x1.toNatClampNeg).toNatClampNeg)) = 2 then
                if gw_in (σ.2.1 21 x1.toNatClampNeg) 1000 then
                  if gw_in (σ.2.1 21 x1.toNatClampNeg) 1000 then
                    if gw_in (σ.2.1 21 x1.toNatClampNeg) 1000 then
                      gw_bindv (F_Mo_reachValue (σ) (σ.2.1 8 ((σ.2.1 21 x1.toNatClampNeg).toNatClampNeg)) (σ.2.1 9 ((σ.2.1 21 x1.toNatClampNeg).toNatClampNeg)) (σ.2.1 10 ((σ.2.1 21 x1.toNatClampNeg).toNatClampNeg))) fun σ21 =>
                        K_Mo_sweep_57 n (σ21) (x1 + 1)
                    else none
                  else none
                else none
              else
                K_Mo_sweep_57 n (σ) (x1 + 1)
            else none
        else none
      else none
def K_Mo_sweep_25 : Nat → St → Int32 → Option (Int32 × St)
  | 0, _, _ => none
  | n + 1, σ, x1 =>
    if (σ.1 3) ≤ x1 then
      gw_bindv (F_Mo_reachHand (sv σ 21 0)) fun σ4 =>
        K_Mo_sweep_57 gw_N (σ4) 0
    else
      if gw_in x1 1000 then
        K_Mo_sweep_25 n (sa σ 20 x1.toNatClampNeg 0) (x1 + 1)
      else none
def K_Mo_sweep_2 : Nat → St → Int32 → Option (Int32 × St)
  | 0, _, _ => none
  | n + 1, σ, x1 =>
    if (σ.1 1) ≤ x1 then
      K_Mo_sweep_25 gw_N (σ) 0
    else
      if gw_in x1 1000 then
        K_Mo_sweep_2 n (sa σ 19 x1.toNatClampNeg 0) (x1 + 1)
      else none
def F_Mo_sweep (σ : St) : Option (Int32 × St) :=
  K_Mo_sweep_2 gw_N (σ) 0
def K_Mo_latestInWork_7 : Nat → St → Int32 → Option (Int32 × St)
  | 0, _, _ => none
  | n + 1, σ, x1 =>
    if x1 < 0 then
      if 0 ≤ x1 then
        if gw_in x1 300 then
          some (σ.2.1 17 x1.toNatClampNeg, σ)
        else none
      else
        some ((-1), σ)
    else
      if gw_in x1 300 then
        if (σ.2.1 16 x1.toNatClampNeg) = 0 then
          if 0 ≤ x1 then
            if gw_in x1 300 then
              some (σ.2.1 17 x1.toNatClampNeg, σ)
            else none
          else
            some ((-1), σ)
        else
          K_Mo_latestInWork_7 n (σ) (x1 + (-1))
      else none
def F_Mo_latestInWork (σ : St) : Option (Int32 × St) :=
  K_Mo_latestInWork_7 gw_N (σ) ((σ.1 4) - 1)
def F_Mo_push (σ : St) (x1 : Int32) (x2 : Int32) (x3 : Int32) (x4 : Int64) : Option St :=
  if gw_in (σ.1 4) 300 then
    if gw_in (σ.1 4) 300 then
      if gw_in (σ.1 4) 300 then
        if gw_in (σ.1 4) 300 then
          some (sv (sg (sa (sa (sa σ 16 ((σ.1 4).toNatClampNeg) x1) 17 ((σ.1 4).toNatClampNeg) x2) 18 ((σ.1 4).toNatClampNeg) x3) 2 ((σ.1 4).toNatClampNeg) x4) 4 ((σ.1 4) + 1))
        else none
      else none
    else none
  else none
def K_Mo_need_164 (σ : St) (x1 : Int32) : Option St :=
  if (σ.1 14) = 0 then
    if gw_in x1 1000 then
      if gw_in x1 1000 then
        gw_bindv (F_Mo_atHand (σ) (σ.2.1 6 x1.toNatClampNeg) (σ.2.1 7 x1.toNatClampNeg)) fun σ15 =>
          some (σ15)
      else none
    else none
  else
    if gw_in x1 1000 then
      gw_bindv (F_Mo_push (sa σ 5 x1.toNatClampNeg 1) 0 x1 (-1) 0) fun σ18 =>
        if gw_in x1 1000 then
          if gw_in x1 1000 then
            gw_bindv (F_Mo_atHand (σ18) (σ18.2.1 6 x1.toNatClampNeg) (σ18.2.1 7 x1.toNatClampNeg)) fun σ22 =>
              some (σ22)
          else none
        else none
    else none
def K_Mo_need_113 (σ : St) (x1 : Int32) (x3 : Int32) : Option St :=
  if gw_in x1 1000 then
    if gw_in x1 1000 then
      if gw_in x1 1000 then
        if (σ.2.1 13 x1.toNatClampNeg) = 0 then
          if gw_in x1 1000 then
            gw_bind (F_Mo_latestInWork (sa (sa (sv (sv σ 4 x3) 17 ((σ.1 17) + 1)) 11 x1.toNatClampNeg ((σ.2.1 11 x1.toNatClampNeg) + 1)) 13 x1.toNatClampNeg 1)) fun r25 σ26 =>
              if gw_in x1 1000 then
                K_Mo_need_164 (sa σ26 12 x1.toNatClampNeg r25) x1
              else none
          else none
        else
          K_Mo_need_164 (sa (sv (sv σ 4 x3) 17 ((σ.1 17) + 1)) 11 x1.toNatClampNeg ((σ.2.1 11 x1.toNatClampNeg) + 1)) x1
      else none
    else none
  else none
def K_Mo_need_17 (σ : St) (x1 : Int32) (y0 : Int32) : Option St :=
  if gw_in x1 1000 then
    if (σ.2.1 5 x1.toNatClampNeg) = 1 then
      some (sv (sv σ 13 3) 18 x1)
    else
      if gw_in x1 1000 then
        if (σ.2.1 5 x1.toNatClampNeg) = 2 then
          if gw_in x1 1000 then
            if gw_in x1 1000 then
              if gw_in x1 1000 then
                if gw_in x1 1000 then
                  gw_bindv (F_Mo_valueAtHand (sv (sv σ 4 y0) 16 ((σ.1 16) + 1)) (σ.2.1 8 x1.toNatClampNeg) (σ.2.2.2 1 x1.toNatClampNeg) (σ.2.1 9 x1.toNatClampNeg) (σ.2.1 10 x1.toNatClampNeg)) fun σ34 =>
                    some (σ34)
                else none
              else none
            else none
          else none
        else
          if (σ.1 14) = 0 then
            K_Mo_need_113 (σ) x1 y0
          else
            if y0 = 300 then
              some (sv σ 13 5)
            else
              K_Mo_need_113 (σ) x1 y0
      else none
  else none
def F_Mo_need (σ : St) (x1 : Int32) (x2 : Int32) : Option St :=
  if x2 = 0 then
    K_Mo_need_17 (σ) x1 (σ.1 4)
  else
    K_Mo_need_17 (σ) x1 ((σ.1 4) - 1)
def K_Mo_thingOfPlace_5 : Nat → St → Int32 → Int32 → Int32 → Option (Int32 × St)
  | 0, _, _, _, _ => none
  | n + 1, σ, x2, x3, x4 =>
    if x2 ≤ x4 then
      if gw_in x3 1000 then
        some (σ.2.1 14 x3.toNatClampNeg, σ)
      else none
    else
      if gw_in x3 1000 then
        K_Mo_thingOfPlace_5 n (σ) x2 (σ.2.1 15 x3.toNatClampNeg) (x4 + 1)
      else none
def F_Mo_thingOfPlace (σ : St) (x1 : Int32) (x2 : Int32) : Option (Int32 × St) :=
  K_Mo_thingOfPlace_5 gw_N (σ) x2 x1 0
def F_Mo_isNew (σ : St) (x1 : Int32) : Option (Int32 × St) :=
  if gw_in x1 200 then
    if (σ.2.1 0 x1.toNatClampNeg) = 1 then
      some (0, σ)
    else
      some (1, σ)
  else none
def F_Mo_hasRoom (σ : St) (x1 : Int32) (x2 : Int32) (x3 : Int32) : Option (Int32 × St) :=
  if 1000 < ((σ.1 1) + x1) then
    if 0 = 0 then
      some (0, (sv σ 13 5))
    else
      some (0, σ)
  else
    if 300 < ((σ.1 2) + x1) then
      if 0 = 0 then
        some (0, (sv σ 13 5))
      else
        some (0, σ)
    else
      if 1000 < ((σ.1 3) + x2) then
        if 0 = 0 then
          some (0, (sv σ 13 5))
        else
          some (0, σ)
      else
        if 300 < ((σ.1 4) + x3) then
          if 0 = 0 then
            some (0, (sv σ 13 5))
          else
            some (0, σ)
        else
          if 1 = 0 then
            some (1, (sv σ 13 5))
          else
            some (1, σ)
def F_Mo_newThing (σ : St) (x1 : Int32) (x2 : Int32) : Option (Int32 × St) :=
  if gw_in (σ.1 1) 1000 then
    if gw_in (σ.1 1) 1000 then
      if gw_in (σ.1 1) 1000 then
        if gw_in (σ.1 1) 1000 then
          if gw_in (σ.1 1) 1000 then
            if gw_in (σ.1 1) 1000 then
              some (((σ.1 1) + 1) - 1, (sv (sv (sa (sa (sa (sa (sa (sa σ 5 ((σ.1 1).toNatClampNeg) 0) 6 ((σ.1 1).toNatClampNeg) x1) 7 ((σ.1 1).toNatClampNeg) x2) 11 ((σ.1 1).toNatClampNeg) 0) 13 ((σ.1 1).toNatClampNeg) 0) 12 ((σ.1 1).toNatClampNeg) (-1)) 1 ((σ.1 1) + 1)) 2 ((σ.1 2) + 1)))
            else none
          else none
        else none
      else none
    else none
  else none
def F_Mo_thingOf (σ : St) (x1 : Int32) : Option (Int32 × St) :=
  gw_bind (F_Mo_isNew (σ) x1) fun r2 σ3 =>
    if r2 = 0 then
      if gw_in x1 200 then
        gw_bind (F_Mo_thingOfPlace (σ3) (σ3.1 8) (σ3.2.1 1 x1.toNatClampNeg)) fun r7 σ8 =>
          some (r7, σ8)
      else none
    else
      gw_bind (F_Mo_newThing (σ3) x1 (σ3.1 8)) fun r10 σ11 =>
        some (r10, σ11)
def F_Mo_newPlace (σ : St) (x1 : Int32) (x2 : Int32) : Option (Int32 × St) :=
  if gw_in (σ.1 3) 1000 then
    if gw_in (σ.1 3) 1000 then
      some (((σ.1 3) + 1) - 1, (sv (sa (sa σ 14 ((σ.1 3).toNatClampNeg) x1) 15 ((σ.1 3).toNatClampNeg) x2) 3 ((σ.1 3) + 1)))
    else none
  else none
def K_Mo_goOnWithTerm_333 (σ : St) (x1 : Int32) (x2 : Int32) (y0 : Int32) : Option St :=
  gw_bindv (F_Mo_push (σ) y0 x1 (σ.1 8) 0) fun σ16 =>
    if x2 = 14 then
      if gw_in x1 200 then
        gw_bindv (F_Mo_atHand (σ16) (σ16.2.1 3 x1.toNatClampNeg) (σ16.1 8)) fun σ23 =>
          some (σ23)
      else none
    else
      if gw_in x1 200 then
        gw_bindv (F_Mo_atHand (σ16) (σ16.2.1 1 x1.toNatClampNeg) (σ16.1 8)) fun σ20 =>
          some (σ20)
      else none
def K_Mo_goOnWithTerm_194 (σ : St) (x1 : Int32) (y0 : Int32) : Option St :=
  gw_bind (F_Mo_hasRoom (σ) y0 0 1) fun r44 σ45 =>
    if r44 = 0 then
      some (σ45)
    else
      if gw_in x1 200 then
        gw_bind (F_Mo_thingOf (σ45) (σ45.2.1 2 x1.toNatClampNeg)) fun r49 σ50 =>
          gw_bindv (F_Mo_push (σ50) 1 r49 (-1) 0) fun σ52 =>
            if gw_in x1 200 then
              gw_bindv (F_Mo_atHand (σ52) (σ52.2.1 1 x1.toNatClampNeg) (σ52.1 8)) fun σ55 =>
                some (σ55)
            else none
      else none
def K_Mo_goOnWithTerm_126 (σ : St) (x1 : Int32) (y0 : Int32) (y1 : Int32) : Option St :=
  gw_bind (F_Mo_hasRoom (σ) (y1 + y0) 0 0) fun r67 σ68 =>
    if r67 = 0 then
      some (σ68)
    else
      if gw_in x1 200 then
        gw_bind (F_Mo_thingOf (σ68) (σ68.2.1 1 x1.toNatClampNeg)) fun r72 σ73 =>
          if gw_in x1 200 then
            gw_bind (F_Mo_thingOf (σ73) (σ73.2.1 2 x1.toNatClampNeg)) fun r76 σ77 =>
              gw_bindv (F_Mo_valueAtHand (σ77) 2 0 r72 r76) fun σ79 =>
                some (σ79)
          else none
      else none
def K_Mo_goOnWithTerm_108 (σ : St) (x1 : Int32) (y0 : Int32) : Option St :=
  if gw_in x1 200 then
    gw_bind (F_Mo_isNew (σ) (σ.2.1 2 x1.toNatClampNeg)) fun r63 σ64 =>
      if r63 = 0 then
        K_Mo_goOnWithTerm_126 (σ64) x1 0 y0
      else
        K_Mo_goOnWithTerm_126 (σ64) x1 1 y0
  else none
def F_Mo_goOnWithTerm (σ : St) : Option St :=
  if gw_in (σ.1 7) 200 then
    if (σ.2.1 0 ((σ.1 7).toNatClampNeg)) = 0 then
      if gw_in (σ.1 7) 200 then
        gw_bindv (F_Mo_valueAtHand (σ) 0 (σ.2.2.2 0 ((σ.1 7).toNatClampNeg)) (-1) (-1)) fun σ91 =>
          some (σ91)
      else none
    else
      if (σ.2.1 0 ((σ.1 7).toNatClampNeg)) = 2 then
        if gw_in (σ.1 7) 200 then
          gw_bindv (F_Mo_valueAtHand (σ) 1 0 (σ.2.1 1 ((σ.1 7).toNatClampNeg)) (σ.1 8)) fun σ88 =>
            some (σ88)
        else none
      else
        if (σ.2.1 0 ((σ.1 7).toNatClampNeg)) = 1 then
          if gw_in (σ.1 7) 200 then
            gw_bind (F_Mo_thingOfPlace (σ) (σ.1 8) (σ.2.1 1 ((σ.1 7).toNatClampNeg))) fun r82 σ83 =>
              gw_bindv (F_Mo_need (σ83) r82 0) fun σ85 =>
                some (σ85)
          else none
        else
          if (σ.2.1 0 ((σ.1 7).toNatClampNeg)) = 7 then
            if gw_in (σ.1 7) 200 then
              gw_bind (F_Mo_isNew (σ) (σ.2.1 1 ((σ.1 7).toNatClampNeg))) fun r58 σ59 =>
                if r58 = 0 then
                  K_Mo_goOnWithTerm_108 (σ59) (σ.1 7) 0
                else
                  K_Mo_goOnWithTerm_108 (σ59) (σ.1 7) 1
            else none
          else
            if (σ.2.1 0 ((σ.1 7).toNatClampNeg)) = 5 then
              if gw_in (σ.1 7) 200 then
                gw_bind (F_Mo_isNew (σ) (σ.2.1 2 ((σ.1 7).toNatClampNeg))) fun r40 σ41 =>
                  if r40 = 0 then
                    K_Mo_goOnWithTerm_194 (σ41) (σ.1 7) 0
                  else
                    K_Mo_goOnWithTerm_194 (σ41) (σ.1 7) 1
              else none
            else
              if (σ.2.1 0 ((σ.1 7).toNatClampNeg)) = 6 then
                gw_bind (F_Mo_hasRoom (σ) 1 1 0) fun r25 σ26 =>
                  if r25 = 0 then
                    some (σ26)
                  else
                    gw_bind (F_Mo_newPlace (σ26) (σ26.1 1) (σ26.1 8)) fun r29 σ30 =>
                      if gw_in (σ.1 7) 200 then
                        gw_bind (F_Mo_newThing (σ30) (σ30.2.1 1 ((σ.1 7).toNatClampNeg)) r29) fun r33 σ34 =>
                          if gw_in (σ.1 7) 200 then
                            gw_bindv (F_Mo_atHand (σ34) (σ34.2.1 2 ((σ.1 7).toNatClampNeg)) r29) fun σ37 =>
                              some (σ37)
                          else none
                      else none
              else
                gw_bind (F_Mo_hasRoom (σ) 0 0 1) fun r9 σ10 =>
                  if r9 = 0 then
                    some (σ10)
                  else
                    if (σ.2.1 0 ((σ.1 7).toNatClampNeg)) = 14 then
                      K_Mo_goOnWithTerm_333 (σ10) (σ.1 7) (σ.2.1 0 ((σ.1 7).toNatClampNeg)) 4
                    else
                      if (σ.2.1 0 ((σ.1 7).toNatClampNeg)) = 3 then
                        K_Mo_goOnWithTerm_333 (σ10) (σ.1 7) (σ.2.1 0 ((σ.1 7).toNatClampNeg)) 5
                      else
                        if (σ.2.1 0 ((σ.1 7).toNatClampNeg)) = 4 then
                          K_Mo_goOnWithTerm_333 (σ10) (σ.1 7) (σ.2.1 0 ((σ.1 7).toNatClampNeg)) 6
                        else
                          K_Mo_goOnWithTerm_333 (σ10) (σ.1 7) (σ.2.1 0 ((σ.1 7).toNatClampNeg)) 2
  else none
def K_Mo_act_18 (σ : St) (x1 : Int32) (x2 : Int64) (x4 : Int64) : Option St :=
  if x1 = 0 then
    gw_bindv (F_Mo_valueAtHand (sv σ 4 ((σ.1 4) - 1)) 0 (x2 + x4) (-1) (-1)) fun σ25 =>
      some (σ25)
  else
    if x1 = 1 then
      gw_bindv (F_Mo_valueAtHand (sv σ 4 ((σ.1 4) - 1)) 0 (x2 - x4) (-1) (-1)) fun σ23 =>
        some (σ23)
    else
      if x1 = 2 then
        gw_bindv (F_Mo_valueAtHand (sv σ 4 ((σ.1 4) - 1)) 0 (x2 * x4) (-1) (-1)) fun σ21 =>
          some (σ21)
      else
        if x1 = 3 then
          if ¬ x4 = 0 then
            gw_bindv (F_Mo_valueAtHand (sv σ 4 ((σ.1 4) - 1)) 0 (x2 / x4) (-1) (-1)) fun σ19 =>
              some (σ19)
          else none
        else
          if x1 = 4 then
            if (lg_cmp x2 x4) = 0 then
              gw_bindv (F_Mo_valueAtHand (sv σ 4 ((σ.1 4) - 1)) 0 1 (-1) (-1)) fun σ16 =>
                some (σ16)
            else
              gw_bindv (F_Mo_valueAtHand (sv σ 4 ((σ.1 4) - 1)) 0 0 (-1) (-1)) fun σ14 =>
                some (σ14)
          else
            if 0 ≤ (lg_cmp x2 x4) then
              gw_bindv (F_Mo_valueAtHand (sv σ 4 ((σ.1 4) - 1)) 0 0 (-1) (-1)) fun σ9 =>
                some (σ9)
            else
              gw_bindv (F_Mo_valueAtHand (sv σ 4 ((σ.1 4) - 1)) 0 1 (-1) (-1)) fun σ11 =>
                some (σ11)
def F_Mo_act (σ : St) (x1 : Int32) (x2 : Int64) (x4 : Int64) : Option St :=
  if x1 = 3 then
    if (lg_cmp x4 0) = 0 then
      some (sv σ 13 4)
    else
      K_Mo_act_18 (σ) x1 x2 x4
  else
    K_Mo_act_18 (σ) x1 x2 x4
def K_Mo_goOnWithValue_97 (σ : St) (x1 : Int32) (x2 : Int32) (y0 : Int32) : Option St :=
  if (σ.1 10) = y0 then
    if x2 = 1 then
      gw_bind (F_Mo_hasRoom (σ) 0 1 (-1)) fun r39 σ40 =>
        if r39 = 0 then
          some (σ40)
        else
          if gw_in x1 300 then
            gw_bind (F_Mo_newPlace (sv σ40 4 x1) (σ40.2.1 17 x1.toNatClampNeg) (σ40.1 12)) fun r44 σ45 =>
              gw_bindv (F_Mo_atHand (σ45) (σ40.1 11) r44) fun σ47 =>
                some (σ47)
          else none
    else
      if x2 = 2 then
        if gw_in x1 300 then
          if gw_in x1 300 then
            if gw_in x1 300 then
              if gw_in (σ.2.1 17 x1.toNatClampNeg) 200 then
                if gw_in x1 300 then
                  gw_bindv (F_Mo_atHand (sg (sa σ 16 x1.toNatClampNeg 3) 2 x1.toNatClampNeg (σ.2.2.1 0)) (σ.2.1 2 ((σ.2.1 17 x1.toNatClampNeg).toNatClampNeg)) (σ.2.1 18 x1.toNatClampNeg)) fun σ37 =>
                    some (σ37)
                else none
              else none
            else none
          else none
        else none
      else
        if x2 = 3 then
          if gw_in x1 300 then
            if gw_in (σ.2.1 17 x1.toNatClampNeg) 200 then
              if gw_in x1 300 then
                gw_bindv (F_Mo_act (σ) ((σ.2.1 0 ((σ.2.1 17 x1.toNatClampNeg).toNatClampNeg)) - 8) (σ.2.2.2 2 x1.toNatClampNeg) (σ.2.2.1 0)) fun σ30 =>
                  some (σ30)
              else none
            else none
          else none
        else
          if x2 = 4 then
            if (lg_cmp (σ.2.2.1 0) 0) = 0 then
              if gw_in x1 300 then
                if gw_in (σ.2.1 17 x1.toNatClampNeg) 200 then
                  if gw_in x1 300 then
                    gw_bindv (F_Mo_atHand (sv σ 4 x1) (σ.2.1 2 ((σ.2.1 17 x1.toNatClampNeg).toNatClampNeg)) (σ.2.1 18 x1.toNatClampNeg)) fun σ25 =>
                      some (σ25)
                  else none
                else none
              else none
            else
              if gw_in x1 300 then
                if gw_in (σ.2.1 17 x1.toNatClampNeg) 200 then
                  if gw_in x1 300 then
                    gw_bindv (F_Mo_atHand (sv σ 4 x1) (σ.2.1 1 ((σ.2.1 17 x1.toNatClampNeg).toNatClampNeg)) (σ.2.1 18 x1.toNatClampNeg)) fun σ20 =>
                      some (σ20)
                  else none
                else none
              else none
          else
            if x2 = 5 then
              gw_bindv (F_Mo_need (σ) (σ.1 11) 1) fun σ14 =>
                some (σ14)
            else
              gw_bindv (F_Mo_need (σ) (σ.1 12) 1) fun σ12 =>
                some (σ12)
  else
    some (sv σ 13 4)
def F_Mo_goOnWithValue (σ : St) : Option St :=
  if gw_in ((σ.1 4) - 1) 300 then
    if (σ.2.1 16 (((σ.1 4) - 1).toNatClampNeg)) = 0 then
      if gw_in ((σ.1 4) - 1) 300 then
        if gw_in (σ.2.1 17 (((σ.1 4) - 1).toNatClampNeg)) 1000 then
          if gw_in (σ.2.1 17 (((σ.1 4) - 1).toNatClampNeg)) 1000 then
            if gw_in (σ.2.1 17 (((σ.1 4) - 1).toNatClampNeg)) 1000 then
              if gw_in (σ.2.1 17 (((σ.1 4) - 1).toNatClampNeg)) 1000 then
                if gw_in (σ.2.1 17 (((σ.1 4) - 1).toNatClampNeg)) 1000 then
                  some (sv (sa (sa (sg (sa (sa σ 5 ((σ.2.1 17 (((σ.1 4) - 1).toNatClampNeg)).toNatClampNeg) 2) 8 ((σ.2.1 17 (((σ.1 4) - 1).toNatClampNeg)).toNatClampNeg) (σ.1 10)) 1 ((σ.2.1 17 (((σ.1 4) - 1).toNatClampNeg)).toNatClampNeg) (σ.2.2.1 0)) 9 ((σ.2.1 17 (((σ.1 4) - 1).toNatClampNeg)).toNatClampNeg) (σ.1 11)) 10 ((σ.2.1 17 (((σ.1 4) - 1).toNatClampNeg)).toNatClampNeg) (σ.1 12)) 4 ((σ.1 4) - 1))
                else none
              else none
            else none
          else none
        else none
      else none
    else
      if (σ.2.1 16 (((σ.1 4) - 1).toNatClampNeg)) = 1 then
        K_Mo_goOnWithValue_97 (σ) ((σ.1 4) - 1) (σ.2.1 16 (((σ.1 4) - 1).toNatClampNeg)) 1
      else
        if 5 ≤ (σ.2.1 16 (((σ.1 4) - 1).toNatClampNeg)) then
          K_Mo_goOnWithValue_97 (σ) ((σ.1 4) - 1) (σ.2.1 16 (((σ.1 4) - 1).toNatClampNeg)) 2
        else
          K_Mo_goOnWithValue_97 (σ) ((σ.1 4) - 1) (σ.2.1 16 (((σ.1 4) - 1).toNatClampNeg)) 0
  else none
def K_Mo_step_48 (σ : St) : Option St :=
  gw_bind (F_Mo_more (σ) (σ.1 5) (σ.1 4)) fun r6 σ7 =>
    if (σ7.1 13) = 1 then
      if (σ7.1 6) = 1 then
        if (σ7.1 4) = 0 then
          some (sv (sv σ7 5 r6) 13 2)
        else
          some (sv σ7 5 r6)
      else
        some (sv σ7 5 r6)
    else
      some (sv σ7 5 r6)
def F_Mo_step (σ : St) : Option St :=
  if (σ.1 6) = 2 then
    gw_bindv (F_Mo_need (sv σ 15 ((σ.1 15) + 1)) (σ.1 9) 0) fun σ14 =>
      K_Mo_step_48 (σ14)
  else
    if (σ.1 6) = 0 then
      gw_bindv (F_Mo_goOnWithTerm (sv σ 15 ((σ.1 15) + 1))) fun σ12 =>
        K_Mo_step_48 (σ12)
    else
      gw_bindv (F_Mo_goOnWithValue (sv σ 15 ((σ.1 15) + 1))) fun σ4 =>
        K_Mo_step_48 (σ4)
def K_Mo_run_37 : Nat → St → Int32 → Int32 → Option (Int32 × St)
  | 0, _, _, _ => none
  | n + 1, σ, x1, x2 =>
    if x1 ≤ x2 then
      some (x2, σ)
    else
      if (σ.1 13) = 1 then
        if (σ.1 19) ≤ 0 then
          gw_bindv (F_Mo_step (σ)) fun σ11 =>
            K_Mo_run_37 n (σ11) x1 (x2 + 1)
        else
          if ¬ (σ.1 19) = 0 then
            if ((σ.1 15) - (σ.1 15) / (σ.1 19) * (σ.1 19)) = 0 then
              gw_bind (F_Mo_sweep (σ)) fun r17 σ18 =>
                gw_bindv (F_Mo_step (σ18)) fun σ20 =>
                  K_Mo_run_37 n (σ20) x1 (x2 + 1)
            else
              gw_bindv (F_Mo_step (σ)) fun σ15 =>
                K_Mo_run_37 n (σ15) x1 (x2 + 1)
          else none
      else
        some (x2, σ)
def F_Mo_run (σ : St) (x1 : Int32) : Option (Int32 × St) :=
  if (σ.1 13) = 0 then
    gw_bind (F_Mo_thrownBy (σ) 1) fun r25 σ26 =>
      some (r25, σ26)
  else
    if x1 < 0 then
      gw_bind (F_Mo_thrownBy (σ) 2) fun r4 σ5 =>
        some (r4, σ5)
    else
      if x1 ≤ 5000 then
        K_Mo_run_37 gw_N (sv σ 20 0) x1 0
      else
        gw_bind (F_Mo_thrownBy (σ) 2) fun r22 σ23 =>
          some (r22, σ23)
def F_Mo_into (σ : St) (x1 : Int32) : Option St :=
  if (σ.1 13) = 2 then
    if (σ.1 10) = 2 then
      if x1 < 0 then
        some (sv σ 20 2)
      else
        if x1 ≤ 1 then
          if x1 = 0 then
            some (sv (sv (sv (sv σ 20 0) 9 (σ.1 11)) 6 2) 13 1)
          else
            some (sv (sv (sv (sv σ 20 0) 9 (σ.1 12)) 6 2) 13 1)
        else
          some (sv σ 20 2)
    else
      some (sv σ 20 1)
  else
    some (sv σ 20 1)
def F_Mo_outcome (σ : St) : Option (Int32 × St) :=
  some (σ.1 13, (sv σ 20 0))
def F_Mo_sort (σ : St) : Option (Int32 × St) :=
  if (σ.1 13) = 2 then
    some (σ.1 10, (sv σ 20 0))
  else
    some ((-1), (sv σ 20 0))
def F_Mo_value (σ : St) : Option (Int64 × St) :=
  if (σ.1 13) = 2 then
    if (σ.1 10) = 0 then
      some (σ.2.2.1 0, (sv σ 20 0))
    else
      some (0, (sv σ 20 0))
  else
    some (0, (sv σ 20 0))
def F_Mo_told (σ : St) (x1 : Int32) : Option (Int32 × St) :=
  if x1 < 0 then
    gw_bind (F_Mo_thrownBy (σ) 1) fun r3 σ4 =>
      some (r3, σ4)
  else
    if x1 ≤ 7 then
      if (σ.1 13) = 0 then
        some ((-1), (sv σ 20 0))
      else
        if x1 = 0 then
          some (σ.1 15, (sv σ 20 0))
        else
          if x1 = 1 then
            some (σ.1 1, (sv σ 20 0))
          else
            if x1 = 2 then
              some (σ.1 2, (sv σ 20 0))
            else
              if x1 = 3 then
                some (σ.1 4, (sv σ 20 0))
              else
                if x1 = 4 then
                  some (σ.1 5, (sv σ 20 0))
                else
                  if x1 = 5 then
                    some (σ.1 16, (sv σ 20 0))
                  else
                    if x1 = 6 then
                      some (σ.1 17, (sv σ 20 0))
                    else
                      some (σ.1 3, (sv σ 20 0))
    else
      gw_bind (F_Mo_thrownBy (σ) 1) fun r15 σ16 =>
        some (r15, σ16)
def F_Mo_isThing (σ : St) (x1 : Int32) : Option (Int32 × St) :=
  if (σ.1 13) = 0 then
    some (0, σ)
  else
    if x1 < 0 then
      some (0, σ)
    else
      if (σ.1 1) ≤ x1 then
        some (0, σ)
      else
        some (1, σ)
def F_Mo_thing (σ : St) (x1 : Int32) : Option (Int32 × St) :=
  gw_bind (F_Mo_isThing (σ) x1) fun r2 σ3 =>
    if r2 = 0 then
      gw_bind (F_Mo_thrownBy (σ3) 1) fun r7 σ8 =>
        some (r7, σ8)
    else
      if gw_in x1 1000 then
        some (σ3.2.1 5 x1.toNatClampNeg, (sv σ3 20 0))
      else none
def F_Mo_worked (σ : St) (x1 : Int32) (x2 : Int32) : Option (Int32 × St) :=
  gw_bind (F_Mo_isThing (σ) x1) fun r2 σ3 =>
    if r2 = 0 then
      gw_bind (F_Mo_thrownBy (σ3) 1) fun r19 σ20 =>
        some (r19, σ20)
    else
      if x2 < 0 then
        gw_bind (F_Mo_thrownBy (σ3) 2) fun r7 σ8 =>
          some (r7, σ8)
      else
        if x2 ≤ 2 then
          if x2 = 0 then
            if gw_in x1 1000 then
              some (σ3.2.1 11 x1.toNatClampNeg, (sv σ3 20 0))
            else none
          else
            if x2 = 1 then
              if gw_in x1 1000 then
                some (σ3.2.1 12 x1.toNatClampNeg, (sv σ3 20 0))
              else none
            else
              if gw_in x1 1000 then
                some (σ3.2.1 6 x1.toNatClampNeg, (sv σ3 20 0))
              else none
        else
          gw_bind (F_Mo_thrownBy (σ3) 2) fun r16 σ17 =>
            some (r16, σ17)
def K_Mo_ring_25 : Nat → St → Int32 → Int32 → Int32 → Int32 → Option (Int32 × St)
  | 0, _, _, _, _, _ => none
  | n + 1, σ, x1, x2, x3, x4 =>
    if (σ.1 4) ≤ x4 then
      gw_bind (F_Mo_thrownBy (σ) 1) fun r8 σ9 =>
        some (r8, σ9)
    else
      if gw_in x4 300 then
        if (σ.2.1 16 x4.toNatClampNeg) = 0 then
          if x3 = 0 then
            if gw_in x4 300 then
              if (σ.2.1 17 x4.toNatClampNeg) = (σ.1 18) then
                if 1 = 0 then
                  if 1 = 0 then
                    K_Mo_ring_25 n (σ) x1 (x2 + 0) 1 (x4 + 1)
                  else
                    K_Mo_ring_25 n (σ) x1 (x2 + 1) 1 (x4 + 1)
                else
                  if x2 = x1 then
                    if gw_in x4 300 then
                      some (σ.2.1 17 x4.toNatClampNeg, (sv σ 20 0))
                    else none
                  else
                    if 1 = 0 then
                      K_Mo_ring_25 n (σ) x1 (x2 + 0) 1 (x4 + 1)
                    else
                      K_Mo_ring_25 n (σ) x1 (x2 + 1) 1 (x4 + 1)
              else
                if 0 = 0 then
                  if 0 = 0 then
                    K_Mo_ring_25 n (σ) x1 (x2 + 0) 0 (x4 + 1)
                  else
                    K_Mo_ring_25 n (σ) x1 (x2 + 1) 0 (x4 + 1)
                else
                  if x2 = x1 then
                    if gw_in x4 300 then
                      some (σ.2.1 17 x4.toNatClampNeg, (sv σ 20 0))
                    else none
                  else
                    if 0 = 0 then
                      K_Mo_ring_25 n (σ) x1 (x2 + 0) 0 (x4 + 1)
                    else
                      K_Mo_ring_25 n (σ) x1 (x2 + 1) 0 (x4 + 1)
            else none
          else
            if 1 = 0 then
              if 1 = 0 then
                K_Mo_ring_25 n (σ) x1 (x2 + 0) 1 (x4 + 1)
              else
                K_Mo_ring_25 n (σ) x1 (x2 + 1) 1 (x4 + 1)
            else
              if x2 = x1 then
                if gw_in x4 300 then
                  some (σ.2.1 17 x4.toNatClampNeg, (sv σ 20 0))
                else none
              else
                if 1 = 0 then
                  K_Mo_ring_25 n (σ) x1 (x2 + 0) 1 (x4 + 1)
                else
                  K_Mo_ring_25 n (σ) x1 (x2 + 1) 1 (x4 + 1)
        else
          K_Mo_ring_25 n (σ) x1 x2 x3 (x4 + 1)
      else none
def F_Mo_ring (σ : St) (x1 : Int32) : Option (Int32 × St) :=
  if (σ.1 13) = 3 then
    if 0 ≤ x1 then
      K_Mo_ring_25 gw_N (σ) x1 0 0 0
    else
      gw_bind (F_Mo_thrownBy (σ) 1) fun r31 σ32 =>
        some (r31, σ32)
  else
    gw_bind (F_Mo_thrownBy (σ) 1) fun r3 σ4 =>
      some (r3, σ4)
def F_Mo_entry (σ : St) (x1 : Int32) : Option (Int32 × St) :=
  if (σ.1 13) = 0 then
    gw_bind (F_Mo_thrownBy (σ) 1) fun r3 σ4 =>
      some (r3, σ4)
  else
    if x1 < 0 then
      gw_bind (F_Mo_thrownBy (σ) 1) fun r7 σ8 =>
        some (r7, σ8)
    else
      if x1 < (σ.1 4) then
        if gw_in x1 300 then
          some (σ.2.1 16 x1.toNatClampNeg, (sv σ 20 0))
        else none
      else
        gw_bind (F_Mo_thrownBy (σ) 1) fun r12 σ13 =>
          some (r12, σ13)
def F_Mo_collect (σ : St) : Option (Int32 × St) :=
  if (σ.1 13) = 0 then
    gw_bind (F_Mo_thrownBy (σ) 1) fun r6 σ7 =>
      some (r6, σ7)
  else
    gw_bind (F_Mo_sweep (sv σ 20 0)) fun r3 σ4 =>
      some (r3, σ4)
def F_Mo_every (σ : St) (x1 : Int32) : Option (Int32 × St) :=
  if x1 < 0 then
    gw_bind (F_Mo_thrownBy (σ) 1) fun r3 σ4 =>
      some (r3, σ4)
  else
    if x1 ≤ 5000 then
      some (σ.1 19, (sv (sv σ 20 0) 19 x1))
    else
      gw_bind (F_Mo_thrownBy (σ) 1) fun r7 σ8 =>
        some (r7, σ8)
end
