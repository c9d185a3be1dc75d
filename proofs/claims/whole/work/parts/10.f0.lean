theorem tb_12 : (Jvm.Cond.initialized "java/lang/IllegalStateException") ∈ gw_all := List.mem_filter.mpr ⟨List.mem_append_right _ (List.mem_of_getElem? (i := 12) (by decide +kernel)), rfl⟩
theorem tb_13 : (Jvm.Cond.initialized "java/lang/IllegalArgumentException") ∈ gw_all := List.mem_filter.mpr ⟨List.mem_append_right _ (List.mem_of_getElem? (i := 13) (by decide +kernel)), rfl⟩
theorem tb_14 : (Jvm.Cond.initialized "java/lang/IndexOutOfBoundsException") ∈ gw_all := List.mem_filter.mpr ⟨List.mem_append_right _ (List.mem_of_getElem? (i := 14) (by decide +kernel)), rfl⟩
theorem tb_177 : (Jvm.Cond.fieldLinkNest "GraphWalker" (96 : Nat) "GraphWalker$Value" "first" "I" "GraphWalker") ∈ gw_all := List.mem_filter.mpr ⟨List.mem_append_right _ (List.mem_of_getElem? (i := 177) (by decide +kernel)), rfl⟩
theorem tb_181 : (Jvm.Cond.fieldLinkNest "GraphWalker" (99 : Nat) "GraphWalker$Value" "second" "I" "GraphWalker") ∈ gw_all := List.mem_filter.mpr ⟨List.mem_append_right _ (List.mem_of_getElem? (i := 181) (by decide +kernel)), rfl⟩
theorem tb_194 : (Jvm.Cond.fieldLinkNest "GraphWalker" (19 : Nat) "GraphWalker$Walk" "terms" "LGraphWalker$Terms;" "GraphWalker") ∈ gw_all := List.mem_filter.mpr ⟨List.mem_append_right _ (List.mem_of_getElem? (i := 194) (by decide +kernel)), rfl⟩
theorem tb_197 : (Jvm.Cond.fieldLinkNest "GraphWalker" (117 : Nat) "GraphWalker$Walk" "things" "LGraphWalker$Things;" "GraphWalker") ∈ gw_all := List.mem_filter.mpr ⟨List.mem_append_right _ (List.mem_of_getElem? (i := 197) (by decide +kernel)), rfl⟩
theorem tb_199 : (Jvm.Cond.fieldLinkNest "GraphWalker" (145 : Nat) "GraphWalker$Walk" "row" "LGraphWalker$Row;" "GraphWalker") ∈ gw_all := List.mem_filter.mpr ⟨List.mem_append_right _ (List.mem_of_getElem? (i := 199) (by decide +kernel)), rfl⟩
theorem tb_214 : (Jvm.Cond.fieldLinkNest "GraphWalker" (166 : Nat) "GraphWalker$Walk" "pace" "I" "GraphWalker") ∈ gw_all := List.mem_filter.mpr ⟨List.mem_append_right _ (List.mem_of_getElem? (i := 214) (by decide +kernel)), rfl⟩
theorem tb_275 : (Jvm.Cond.methodLink "GraphWalker" (16 : Nat) ({ cls := "GraphWalker", name := "refuseTermBeyondMost", desc := "()V" } : Jvm.MethodName)) ∈ gw_all := List.mem_filter.mpr ⟨List.mem_append_right _ (List.mem_of_getElem? (i := 275) (by decide +kernel)), rfl⟩
theorem tb_277 : (Jvm.Cond.instanceMethod ({ cls := "GraphWalker", name := "refuseTermBeyondMost", desc := "()V" } : Jvm.MethodName)) ∈ gw_all := List.mem_filter.mpr ⟨List.mem_append_right _ (List.mem_of_getElem? (i := 277) (by decide +kernel)), rfl⟩
theorem tb_278 : (Jvm.Cond.code ({ cls := "GraphWalker", name := "refuseTermBeyondMost", desc := "()V" } : Jvm.MethodName) prog_1_method_22_code (1 : Nat) (Option.none : Option Jvm.ClassFile.FieldType)) ∈ gw_T := List.mem_filter.mpr ⟨List.mem_append_right _ (List.mem_of_getElem? (i := 278) (by decide +kernel)), rfl⟩
theorem tb_279 : (Jvm.Cond.methodLink "GraphWalker" (172 : Nat) ({ cls := "GraphWalker$Terms", name := "isFull", desc := "()Z" } : Jvm.MethodName)) ∈ gw_all := List.mem_filter.mpr ⟨List.mem_append_right _ (List.mem_of_getElem? (i := 279) (by decide +kernel)), rfl⟩
theorem tb_280 : (Jvm.Cond.instanceMethod ({ cls := "GraphWalker$Terms", name := "isFull", desc := "()Z" } : Jvm.MethodName)) ∈ gw_all := List.mem_filter.mpr ⟨List.mem_append_right _ (List.mem_of_getElem? (i := 280) (by decide +kernel)), rfl⟩
theorem tb_281 : (Jvm.Cond.selects "GraphWalker$Terms" ({ cls := "GraphWalker$Terms", name := "isFull", desc := "()Z" } : Jvm.MethodName) ({ cls := "GraphWalker$Terms", name := "isFull", desc := "()Z" } : Jvm.MethodName)) ∈ gw_all := List.mem_filter.mpr ⟨List.mem_append_right _ (List.mem_of_getElem? (i := 281) (by decide +kernel)), rfl⟩
theorem tb_282 : (Jvm.Cond.code ({ cls := "GraphWalker$Terms", name := "isFull", desc := "()Z" } : Jvm.MethodName) prog_4_method_3_code (1 : Nat) (Option.some Jvm.ClassFile.FieldType.boolean)) ∈ gw_T := List.mem_filter.mpr ⟨List.mem_append_right _ (List.mem_of_getElem? (i := 282) (by decide +kernel)), rfl⟩
theorem tb_283 : (Jvm.Cond.classLink "GraphWalker" (62 : Nat) "java/lang/IllegalStateException") ∈ gw_all := List.mem_filter.mpr ⟨List.mem_append_right _ (List.mem_of_getElem? (i := 283) (by decide +kernel)), rfl⟩
theorem tb_284 : (Jvm.Cond.instantiable "java/lang/IllegalStateException" (6 : Nat)) ∈ gw_all := List.mem_filter.mpr ⟨List.mem_append_right _ (List.mem_of_getElem? (i := 284) (by decide +kernel)), rfl⟩
theorem tb_351 : (Jvm.Cond.methodLink "GraphWalker" (23 : Nat) ({ cls := "GraphWalker$Terms", name := "addNumber", desc := "(J)I" } : Jvm.MethodName)) ∈ gw_all := List.mem_filter.mpr ⟨List.mem_append_right _ (List.mem_of_getElem? (i := 351) (by decide +kernel)), rfl⟩
theorem tb_352 : (Jvm.Cond.instanceMethod ({ cls := "GraphWalker$Terms", name := "addNumber", desc := "(J)I" } : Jvm.MethodName)) ∈ gw_all := List.mem_filter.mpr ⟨List.mem_append_right _ (List.mem_of_getElem? (i := 352) (by decide +kernel)), rfl⟩
theorem tb_353 : (Jvm.Cond.selects "GraphWalker$Terms" ({ cls := "GraphWalker$Terms", name := "addNumber", desc := "(J)I" } : Jvm.MethodName) ({ cls := "GraphWalker$Terms", name := "addNumber", desc := "(J)I" } : Jvm.MethodName)) ∈ gw_all := List.mem_filter.mpr ⟨List.mem_append_right _ (List.mem_of_getElem? (i := 353) (by decide +kernel)), rfl⟩
theorem tb_354 : (Jvm.Cond.code ({ cls := "GraphWalker$Terms", name := "addNumber", desc := "(J)I" } : Jvm.MethodName) prog_4_method_4_code (3 : Nat) (Option.some Jvm.ClassFile.FieldType.int)) ∈ gw_T := List.mem_filter.mpr ⟨List.mem_append_right _ (List.mem_of_getElem? (i := 354) (by decide +kernel)), rfl⟩
theorem tb_367 : (Jvm.Cond.classLink "GraphWalker" (29 : Nat) "java/lang/IllegalArgumentException") ∈ gw_all := List.mem_filter.mpr ⟨List.mem_append_right _ (List.mem_of_getElem? (i := 367) (by decide +kernel)), rfl⟩
theorem tb_368 : (Jvm.Cond.instantiable "java/lang/IllegalArgumentException" (6 : Nat)) ∈ gw_all := List.mem_filter.mpr ⟨List.mem_append_right _ (List.mem_of_getElem? (i := 368) (by decide +kernel)), rfl⟩
theorem tb_383 : (Jvm.Cond.methodLink "GraphWalker" (36 : Nat) ({ cls := "GraphWalker$Terms", name := "addVariable", desc := "(I)I" } : Jvm.MethodName)) ∈ gw_all := List.mem_filter.mpr ⟨List.mem_append_right _ (List.mem_of_getElem? (i := 383) (by decide +kernel)), rfl⟩
theorem tb_384 : (Jvm.Cond.instanceMethod ({ cls := "GraphWalker$Terms", name := "addVariable", desc := "(I)I" } : Jvm.MethodName)) ∈ gw_all := List.mem_filter.mpr ⟨List.mem_append_right _ (List.mem_of_getElem? (i := 384) (by decide +kernel)), rfl⟩
theorem tb_385 : (Jvm.Cond.selects "GraphWalker$Terms" ({ cls := "GraphWalker$Terms", name := "addVariable", desc := "(I)I" } : Jvm.MethodName) ({ cls := "GraphWalker$Terms", name := "addVariable", desc := "(I)I" } : Jvm.MethodName)) ∈ gw_all := List.mem_filter.mpr ⟨List.mem_append_right _ (List.mem_of_getElem? (i := 385) (by decide +kernel)), rfl⟩
theorem tb_386 : (Jvm.Cond.code ({ cls := "GraphWalker$Terms", name := "addVariable", desc := "(I)I" } : Jvm.MethodName) prog_4_method_5_code (2 : Nat) (Option.some Jvm.ClassFile.FieldType.int)) ∈ gw_T := List.mem_filter.mpr ⟨List.mem_append_right _ (List.mem_of_getElem? (i := 386) (by decide +kernel)), rfl⟩
theorem tb_395 : (Jvm.Cond.methodLink "GraphWalker" (40 : Nat) ({ cls := "GraphWalker", name := "refuseMissingTerm", desc := "(I)V" } : Jvm.MethodName)) ∈ gw_all := List.mem_filter.mpr ⟨List.mem_append_right _ (List.mem_of_getElem? (i := 395) (by decide +kernel)), rfl⟩
theorem tb_397 : (Jvm.Cond.instanceMethod ({ cls := "GraphWalker", name := "refuseMissingTerm", desc := "(I)V" } : Jvm.MethodName)) ∈ gw_all := List.mem_filter.mpr ⟨List.mem_append_right _ (List.mem_of_getElem? (i := 397) (by decide +kernel)), rfl⟩
theorem tb_398 : (Jvm.Cond.code ({ cls := "GraphWalker", name := "refuseMissingTerm", desc := "(I)V" } : Jvm.MethodName) prog_1_method_21_code (2 : Nat) (Option.none : Option Jvm.ClassFile.FieldType)) ∈ gw_T := List.mem_filter.mpr ⟨List.mem_append_right _ (List.mem_of_getElem? (i := 398) (by decide +kernel)), rfl⟩
theorem tb_399 : (Jvm.Cond.methodLink "GraphWalker" (169 : Nat) ({ cls := "GraphWalker$Terms", name := "has", desc := "(I)Z" } : Jvm.MethodName)) ∈ gw_all := List.mem_filter.mpr ⟨List.mem_append_right _ (List.mem_of_getElem? (i := 399) (by decide +kernel)), rfl⟩
theorem tb_403 : (Jvm.Cond.classLink "GraphWalker" (140 : Nat) "java/lang/IndexOutOfBoundsException") ∈ gw_all := List.mem_filter.mpr ⟨List.mem_append_right _ (List.mem_of_getElem? (i := 403) (by decide +kernel)), rfl⟩
theorem tb_404 : (Jvm.Cond.instantiable "java/lang/IndexOutOfBoundsException" (6 : Nat)) ∈ gw_all := List.mem_filter.mpr ⟨List.mem_append_right _ (List.mem_of_getElem? (i := 404) (by decide +kernel)), rfl⟩
theorem tb_420 : (Jvm.Cond.methodLink "GraphWalker" (46 : Nat) ({ cls := "GraphWalker$Terms", name := "addOne", desc := "(II)I" } : Jvm.MethodName)) ∈ gw_all := List.mem_filter.mpr ⟨List.mem_append_right _ (List.mem_of_getElem? (i := 420) (by decide +kernel)), rfl⟩
theorem tb_421 : (Jvm.Cond.instanceMethod ({ cls := "GraphWalker$Terms", name := "addOne", desc := "(II)I" } : Jvm.MethodName)) ∈ gw_all := List.mem_filter.mpr ⟨List.mem_append_right _ (List.mem_of_getElem? (i := 421) (by decide +kernel)), rfl⟩
theorem tb_422 : (Jvm.Cond.selects "GraphWalker$Terms" ({ cls := "GraphWalker$Terms", name := "addOne", desc := "(II)I" } : Jvm.MethodName) ({ cls := "GraphWalker$Terms", name := "addOne", desc := "(II)I" } : Jvm.MethodName)) ∈ gw_all := List.mem_filter.mpr ⟨List.mem_append_right _ (List.mem_of_getElem? (i := 422) (by decide +kernel)), rfl⟩
theorem tb_423 : (Jvm.Cond.code ({ cls := "GraphWalker$Terms", name := "addOne", desc := "(II)I" } : Jvm.MethodName) prog_4_method_6_code (3 : Nat) (Option.some Jvm.ClassFile.FieldType.int)) ∈ gw_T := List.mem_filter.mpr ⟨List.mem_append_right _ (List.mem_of_getElem? (i := 423) (by decide +kernel)), rfl⟩
theorem tb_443 : (Jvm.Cond.methodLink "GraphWalker" (52 : Nat) ({ cls := "GraphWalker$Terms", name := "addTwo", desc := "(III)I" } : Jvm.MethodName)) ∈ gw_all := List.mem_filter.mpr ⟨List.mem_append_right _ (List.mem_of_getElem? (i := 443) (by decide +kernel)), rfl⟩
theorem tb_444 : (Jvm.Cond.instanceMethod ({ cls := "GraphWalker$Terms", name := "addTwo", desc := "(III)I" } : Jvm.MethodName)) ∈ gw_all := List.mem_filter.mpr ⟨List.mem_append_right _ (List.mem_of_getElem? (i := 444) (by decide +kernel)), rfl⟩
theorem tb_445 : (Jvm.Cond.selects "GraphWalker$Terms" ({ cls := "GraphWalker$Terms", name := "addTwo", desc := "(III)I" } : Jvm.MethodName) ({ cls := "GraphWalker$Terms", name := "addTwo", desc := "(III)I" } : Jvm.MethodName)) ∈ gw_all := List.mem_filter.mpr ⟨List.mem_append_right _ (List.mem_of_getElem? (i := 445) (by decide +kernel)), rfl⟩
theorem tb_446 : (Jvm.Cond.code ({ cls := "GraphWalker$Terms", name := "addTwo", desc := "(III)I" } : Jvm.MethodName) prog_4_method_7_code (5 : Nat) (Option.some Jvm.ClassFile.FieldType.int)) ∈ gw_T := List.mem_filter.mpr ⟨List.mem_append_right _ (List.mem_of_getElem? (i := 446) (by decide +kernel)), rfl⟩
theorem tb_454 : (Jvm.Cond.methodLink "GraphWalker" (56 : Nat) ({ cls := "GraphWalker$Terms", name := "addChoose", desc := "(III)I" } : Jvm.MethodName)) ∈ gw_all := List.mem_filter.mpr ⟨List.mem_append_right _ (List.mem_of_getElem? (i := 454) (by decide +kernel)), rfl⟩
theorem tb_455 : (Jvm.Cond.instanceMethod ({ cls := "GraphWalker$Terms", name := "addChoose", desc := "(III)I" } : Jvm.MethodName)) ∈ gw_all := List.mem_filter.mpr ⟨List.mem_append_right _ (List.mem_of_getElem? (i := 455) (by decide +kernel)), rfl⟩
theorem tb_456 : (Jvm.Cond.selects "GraphWalker$Terms" ({ cls := "GraphWalker$Terms", name := "addChoose", desc := "(III)I" } : Jvm.MethodName) ({ cls := "GraphWalker$Terms", name := "addChoose", desc := "(III)I" } : Jvm.MethodName)) ∈ gw_all := List.mem_filter.mpr ⟨List.mem_append_right _ (List.mem_of_getElem? (i := 456) (by decide +kernel)), rfl⟩
theorem tb_457 : (Jvm.Cond.code ({ cls := "GraphWalker$Terms", name := "addChoose", desc := "(III)I" } : Jvm.MethodName) prog_4_method_8_code (5 : Nat) (Option.some Jvm.ClassFile.FieldType.int)) ∈ gw_T := List.mem_filter.mpr ⟨List.mem_append_right _ (List.mem_of_getElem? (i := 457) (by decide +kernel)), rfl⟩
theorem tb_465 : (Jvm.Cond.methodLink "GraphWalker" (59 : Nat) ({ cls := "GraphWalker$Terms", name := "lackOf", desc := "(I)I" } : Jvm.MethodName)) ∈ gw_all := List.mem_filter.mpr ⟨List.mem_append_right _ (List.mem_of_getElem? (i := 465) (by decide +kernel)), rfl⟩
theorem tb_474 : (Jvm.Cond.methodLink "GraphWalker" (67 : Nat) ({ cls := "GraphWalker$Walk", name := "start", desc := "(IZ)V" } : Jvm.MethodName)) ∈ gw_all := List.mem_filter.mpr ⟨List.mem_append_right _ (List.mem_of_getElem? (i := 474) (by decide +kernel)), rfl⟩
theorem tb_475 : (Jvm.Cond.instanceMethod ({ cls := "GraphWalker$Walk", name := "start", desc := "(IZ)V" } : Jvm.MethodName)) ∈ gw_all := List.mem_filter.mpr ⟨List.mem_append_right _ (List.mem_of_getElem? (i := 475) (by decide +kernel)), rfl⟩
theorem tb_476 : (Jvm.Cond.selects "GraphWalker$Walk" ({ cls := "GraphWalker$Walk", name := "start", desc := "(IZ)V" } : Jvm.MethodName) ({ cls := "GraphWalker$Walk", name := "start", desc := "(IZ)V" } : Jvm.MethodName)) ∈ gw_all := List.mem_filter.mpr ⟨List.mem_append_right _ (List.mem_of_getElem? (i := 476) (by decide +kernel)), rfl⟩
theorem tb_477 : (Jvm.Cond.code ({ cls := "GraphWalker$Walk", name := "start", desc := "(IZ)V" } : Jvm.MethodName) prog_7_method_2_code (3 : Nat) (Option.none : Option Jvm.ClassFile.FieldType)) ∈ gw_T := List.mem_filter.mpr ⟨List.mem_append_right _ (List.mem_of_getElem? (i := 477) (by decide +kernel)), rfl⟩
theorem tb_509 : (Jvm.Cond.methodLink "GraphWalker" (71 : Nat) ({ cls := "GraphWalker", name := "refuseMissingRun", desc := "()V" } : Jvm.MethodName)) ∈ gw_all := List.mem_filter.mpr ⟨List.mem_append_right _ (List.mem_of_getElem? (i := 509) (by decide +kernel)), rfl⟩
theorem tb_511 : (Jvm.Cond.instanceMethod ({ cls := "GraphWalker", name := "refuseMissingRun", desc := "()V" } : Jvm.MethodName)) ∈ gw_all := List.mem_filter.mpr ⟨List.mem_append_right _ (List.mem_of_getElem? (i := 511) (by decide +kernel)), rfl⟩
theorem tb_512 : (Jvm.Cond.code ({ cls := "GraphWalker", name := "refuseMissingRun", desc := "()V" } : Jvm.MethodName) prog_1_method_23_code (1 : Nat) (Option.none : Option Jvm.ClassFile.FieldType)) ∈ gw_T := List.mem_filter.mpr ⟨List.mem_append_right _ (List.mem_of_getElem? (i := 512) (by decide +kernel)), rfl⟩
theorem tb_515 : (Jvm.Cond.methodLink "GraphWalker" (80 : Nat) ({ cls := "GraphWalker$Walk", name := "step", desc := "()V" } : Jvm.MethodName)) ∈ gw_all := List.mem_filter.mpr ⟨List.mem_append_right _ (List.mem_of_getElem? (i := 515) (by decide +kernel)), rfl⟩
theorem tb_516 : (Jvm.Cond.instanceMethod ({ cls := "GraphWalker$Walk", name := "step", desc := "()V" } : Jvm.MethodName)) ∈ gw_all := List.mem_filter.mpr ⟨List.mem_append_right _ (List.mem_of_getElem? (i := 516) (by decide +kernel)), rfl⟩
theorem tb_517 : (Jvm.Cond.selects "GraphWalker$Walk" ({ cls := "GraphWalker$Walk", name := "step", desc := "()V" } : Jvm.MethodName) ({ cls := "GraphWalker$Walk", name := "step", desc := "()V" } : Jvm.MethodName)) ∈ gw_all := List.mem_filter.mpr ⟨List.mem_append_right _ (List.mem_of_getElem? (i := 517) (by decide +kernel)), rfl⟩
theorem tb_518 : (Jvm.Cond.code ({ cls := "GraphWalker$Walk", name := "step", desc := "()V" } : Jvm.MethodName) prog_7_method_4_code (1 : Nat) (Option.none : Option Jvm.ClassFile.FieldType)) ∈ gw_T := List.mem_filter.mpr ⟨List.mem_append_right _ (List.mem_of_getElem? (i := 518) (by decide +kernel)), rfl⟩
theorem tb_780 : (Jvm.Cond.methodLink "GraphWalker" (102 : Nat) ({ cls := "GraphWalker$Walk", name := "turnTo", desc := "(I)V" } : Jvm.MethodName)) ∈ gw_all := List.mem_filter.mpr ⟨List.mem_append_right _ (List.mem_of_getElem? (i := 780) (by decide +kernel)), rfl⟩
theorem tb_781 : (Jvm.Cond.instanceMethod ({ cls := "GraphWalker$Walk", name := "turnTo", desc := "(I)V" } : Jvm.MethodName)) ∈ gw_all := List.mem_filter.mpr ⟨List.mem_append_right _ (List.mem_of_getElem? (i := 781) (by decide +kernel)), rfl⟩
theorem tb_782 : (Jvm.Cond.selects "GraphWalker$Walk" ({ cls := "GraphWalker$Walk", name := "turnTo", desc := "(I)V" } : Jvm.MethodName) ({ cls := "GraphWalker$Walk", name := "turnTo", desc := "(I)V" } : Jvm.MethodName)) ∈ gw_all := List.mem_filter.mpr ⟨List.mem_append_right _ (List.mem_of_getElem? (i := 782) (by decide +kernel)), rfl⟩
theorem tb_783 : (Jvm.Cond.code ({ cls := "GraphWalker$Walk", name := "turnTo", desc := "(I)V" } : Jvm.MethodName) prog_7_method_3_code (2 : Nat) (Option.none : Option Jvm.ClassFile.FieldType)) ∈ gw_T := List.mem_filter.mpr ⟨List.mem_append_right _ (List.mem_of_getElem? (i := 783) (by decide +kernel)), rfl⟩
theorem tb_792 : (Jvm.Cond.methodLink "GraphWalker" (111 : Nat) ({ cls := "GraphWalker$Walk", name := "tally", desc := "(I)I" } : Jvm.MethodName)) ∈ gw_all := List.mem_filter.mpr ⟨List.mem_append_right _ (List.mem_of_getElem? (i := 792) (by decide +kernel)), rfl⟩
theorem tb_793 : (Jvm.Cond.instanceMethod ({ cls := "GraphWalker$Walk", name := "tally", desc := "(I)I" } : Jvm.MethodName)) ∈ gw_all := List.mem_filter.mpr ⟨List.mem_append_right _ (List.mem_of_getElem? (i := 793) (by decide +kernel)), rfl⟩
theorem tb_794 : (Jvm.Cond.selects "GraphWalker$Walk" ({ cls := "GraphWalker$Walk", name := "tally", desc := "(I)I" } : Jvm.MethodName) ({ cls := "GraphWalker$Walk", name := "tally", desc := "(I)I" } : Jvm.MethodName)) ∈ gw_all := List.mem_filter.mpr ⟨List.mem_append_right _ (List.mem_of_getElem? (i := 794) (by decide +kernel)), rfl⟩
theorem tb_795 : (Jvm.Cond.code ({ cls := "GraphWalker$Walk", name := "tally", desc := "(I)I" } : Jvm.MethodName) prog_7_method_5_code (2 : Nat) (Option.some Jvm.ClassFile.FieldType.int)) ∈ gw_T := List.mem_filter.mpr ⟨List.mem_append_right _ (List.mem_of_getElem? (i := 795) (by decide +kernel)), rfl⟩
theorem tb_803 : (Jvm.Cond.methodLink "GraphWalker" (114 : Nat) ({ cls := "GraphWalker", name := "refuseMissingThing", desc := "(I)V" } : Jvm.MethodName)) ∈ gw_all := List.mem_filter.mpr ⟨List.mem_append_right _ (List.mem_of_getElem? (i := 803) (by decide +kernel)), rfl⟩
theorem tb_805 : (Jvm.Cond.instanceMethod ({ cls := "GraphWalker", name := "refuseMissingThing", desc := "(I)V" } : Jvm.MethodName)) ∈ gw_all := List.mem_filter.mpr ⟨List.mem_append_right _ (List.mem_of_getElem? (i := 805) (by decide +kernel)), rfl⟩
theorem tb_806 : (Jvm.Cond.code ({ cls := "GraphWalker", name := "refuseMissingThing", desc := "(I)V" } : Jvm.MethodName) prog_1_method_24_code (2 : Nat) (Option.none : Option Jvm.ClassFile.FieldType)) ∈ gw_T := List.mem_filter.mpr ⟨List.mem_append_right _ (List.mem_of_getElem? (i := 806) (by decide +kernel)), rfl⟩
theorem tb_807 : (Jvm.Cond.methodLink "GraphWalker" (180 : Nat) ({ cls := "GraphWalker$Things", name := "has", desc := "(I)Z" } : Jvm.MethodName)) ∈ gw_all := List.mem_filter.mpr ⟨List.mem_append_right _ (List.mem_of_getElem? (i := 807) (by decide +kernel)), rfl⟩
theorem tb_809 : (Jvm.Cond.methodLink "GraphWalker" (121 : Nat) ({ cls := "GraphWalker$Things", name := "stateOf", desc := "(I)I" } : Jvm.MethodName)) ∈ gw_all := List.mem_filter.mpr ⟨List.mem_append_right _ (List.mem_of_getElem? (i := 809) (by decide +kernel)), rfl⟩
theorem tb_818 : (Jvm.Cond.methodLink "GraphWalker" (128 : Nat) ({ cls := "GraphWalker$Things", name := "timesOf", desc := "(I)I" } : Jvm.MethodName)) ∈ gw_all := List.mem_filter.mpr ⟨List.mem_append_right _ (List.mem_of_getElem? (i := 818) (by decide +kernel)), rfl⟩
theorem tb_819 : (Jvm.Cond.instanceMethod ({ cls := "GraphWalker$Things", name := "timesOf", desc := "(I)I" } : Jvm.MethodName)) ∈ gw_all := List.mem_filter.mpr ⟨List.mem_append_right _ (List.mem_of_getElem? (i := 819) (by decide +kernel)), rfl⟩
theorem tb_820 : (Jvm.Cond.selects "GraphWalker$Things" ({ cls := "GraphWalker$Things", name := "timesOf", desc := "(I)I" } : Jvm.MethodName) ({ cls := "GraphWalker$Things", name := "timesOf", desc := "(I)I" } : Jvm.MethodName)) ∈ gw_all := List.mem_filter.mpr ⟨List.mem_append_right _ (List.mem_of_getElem? (i := 820) (by decide +kernel)), rfl⟩
theorem tb_821 : (Jvm.Cond.code ({ cls := "GraphWalker$Things", name := "timesOf", desc := "(I)I" } : Jvm.MethodName) prog_5_method_9_code (2 : Nat) (Option.some Jvm.ClassFile.FieldType.int)) ∈ gw_T := List.mem_filter.mpr ⟨List.mem_append_right _ (List.mem_of_getElem? (i := 821) (by decide +kernel)), rfl⟩
theorem tb_822 : (Jvm.Cond.methodLink "GraphWalker" (131 : Nat) ({ cls := "GraphWalker$Things", name := "neederOf", desc := "(I)I" } : Jvm.MethodName)) ∈ gw_all := List.mem_filter.mpr ⟨List.mem_append_right _ (List.mem_of_getElem? (i := 822) (by decide +kernel)), rfl⟩
theorem tb_823 : (Jvm.Cond.instanceMethod ({ cls := "GraphWalker$Things", name := "neederOf", desc := "(I)I" } : Jvm.MethodName)) ∈ gw_all := List.mem_filter.mpr ⟨List.mem_append_right _ (List.mem_of_getElem? (i := 823) (by decide +kernel)), rfl⟩
theorem tb_824 : (Jvm.Cond.selects "GraphWalker$Things" ({ cls := "GraphWalker$Things", name := "neederOf", desc := "(I)I" } : Jvm.MethodName) ({ cls := "GraphWalker$Things", name := "neederOf", desc := "(I)I" } : Jvm.MethodName)) ∈ gw_all := List.mem_filter.mpr ⟨List.mem_append_right _ (List.mem_of_getElem? (i := 824) (by decide +kernel)), rfl⟩
theorem tb_825 : (Jvm.Cond.code ({ cls := "GraphWalker$Things", name := "neederOf", desc := "(I)I" } : Jvm.MethodName) prog_5_method_10_code (2 : Nat) (Option.some Jvm.ClassFile.FieldType.int)) ∈ gw_T := List.mem_filter.mpr ⟨List.mem_append_right _ (List.mem_of_getElem? (i := 825) (by decide +kernel)), rfl⟩
theorem tb_826 : (Jvm.Cond.methodLink "GraphWalker" (134 : Nat) ({ cls := "GraphWalker$Things", name := "termOf", desc := "(I)I" } : Jvm.MethodName)) ∈ gw_all := List.mem_filter.mpr ⟨List.mem_append_right _ (List.mem_of_getElem? (i := 826) (by decide +kernel)), rfl⟩
theorem tb_834 : (Jvm.Cond.methodLink "GraphWalker" (137 : Nat) ({ cls := "GraphWalker$Walk", name := "ringThing", desc := "(I)I" } : Jvm.MethodName)) ∈ gw_all := List.mem_filter.mpr ⟨List.mem_append_right _ (List.mem_of_getElem? (i := 834) (by decide +kernel)), rfl⟩
theorem tb_835 : (Jvm.Cond.instanceMethod ({ cls := "GraphWalker$Walk", name := "ringThing", desc := "(I)I" } : Jvm.MethodName)) ∈ gw_all := List.mem_filter.mpr ⟨List.mem_append_right _ (List.mem_of_getElem? (i := 835) (by decide +kernel)), rfl⟩
theorem tb_836 : (Jvm.Cond.selects "GraphWalker$Walk" ({ cls := "GraphWalker$Walk", name := "ringThing", desc := "(I)I" } : Jvm.MethodName) ({ cls := "GraphWalker$Walk", name := "ringThing", desc := "(I)I" } : Jvm.MethodName)) ∈ gw_all := List.mem_filter.mpr ⟨List.mem_append_right _ (List.mem_of_getElem? (i := 836) (by decide +kernel)), rfl⟩
theorem tb_837 : (Jvm.Cond.code ({ cls := "GraphWalker$Walk", name := "ringThing", desc := "(I)I" } : Jvm.MethodName) prog_7_method_6_code (5 : Nat) (Option.some Jvm.ClassFile.FieldType.int)) ∈ gw_T := List.mem_filter.mpr ⟨List.mem_append_right _ (List.mem_of_getElem? (i := 837) (by decide +kernel)), rfl⟩
theorem tb_846 : (Jvm.Cond.methodLink "GraphWalker" (149 : Nat) ({ cls := "GraphWalker$Row", name := "has", desc := "(I)Z" } : Jvm.MethodName)) ∈ gw_all := List.mem_filter.mpr ⟨List.mem_append_right _ (List.mem_of_getElem? (i := 846) (by decide +kernel)), rfl⟩
theorem tb_848 : (Jvm.Cond.methodLink "GraphWalker" (157 : Nat) ({ cls := "GraphWalker$Row", name := "kindOf", desc := "(I)I" } : Jvm.MethodName)) ∈ gw_all := List.mem_filter.mpr ⟨List.mem_append_right _ (List.mem_of_getElem? (i := 848) (by decide +kernel)), rfl⟩
theorem tb_856 : (Jvm.Cond.methodLink "GraphWalker" (160 : Nat) ({ cls := "GraphWalker$Walk", name := "sweepUnreached", desc := "()I" } : Jvm.MethodName)) ∈ gw_all := List.mem_filter.mpr ⟨List.mem_append_right _ (List.mem_of_getElem? (i := 856) (by decide +kernel)), rfl⟩
theorem sl_Gw_refuseMissingRun : Cond.selects R_Gw y_Gw_refuseMissingRun y_Gw_refuseMissingRun ∈ gw_all := List.mem_filter.mpr ⟨List.mem_append_left _ (List.mem_of_getElem? (i := 5) (by decide +kernel)), rfl⟩
theorem sl_Gw_refuseMissingTerm : Cond.selects R_Gw y_Gw_refuseMissingTerm y_Gw_refuseMissingTerm ∈ gw_all := List.mem_filter.mpr ⟨List.mem_append_left _ (List.mem_of_getElem? (i := 3) (by decide +kernel)), rfl⟩
theorem sl_Gw_refuseMissingThing : Cond.selects R_Gw y_Gw_refuseMissingThing y_Gw_refuseMissingThing ∈ gw_all := List.mem_filter.mpr ⟨List.mem_append_left _ (List.mem_of_getElem? (i := 26) (by decide +kernel)), rfl⟩
theorem sl_Gw_refuseTermBeyondMost : Cond.selects R_Gw y_Gw_refuseTermBeyondMost y_Gw_refuseTermBeyondMost ∈ gw_all := List.mem_filter.mpr ⟨List.mem_append_left _ (List.mem_of_getElem? (i := 0) (by decide +kernel)), rfl⟩
theorem tbS_376 : (Jvm.Cond.stringRef "GraphWalker" (31 : Nat) "a variable is 0 to 60") ∈ lw_tbl := List.mem_append_right _ (List.mem_of_getElem? (i := 376) (by decide +kernel))
theorem tbS_419 : (Jvm.Cond.stringRef "GraphWalker" (44 : Nat) "a sort is 0 to 2") ∈ lw_tbl := List.mem_append_right _ (List.mem_of_getElem? (i := 419) (by decide +kernel))
theorem tbS_442 : (Jvm.Cond.stringRef "GraphWalker" (50 : Nat) "a sort is 0 to 8") ∈ lw_tbl := List.mem_append_right _ (List.mem_of_getElem? (i := 442) (by decide +kernel))
theorem tbS_473 : (Jvm.Cond.stringRef "GraphWalker" (64 : Nat) "the term is not closed") ∈ lw_tbl := List.mem_append_right _ (List.mem_of_getElem? (i := 473) (by decide +kernel))
theorem tbS_514 : (Jvm.Cond.stringRef "GraphWalker" (74 : Nat) "steps are 0 to 5000") ∈ lw_tbl := List.mem_append_right _ (List.mem_of_getElem? (i := 514) (by decide +kernel))
theorem tbS_778 : (Jvm.Cond.stringRef "GraphWalker" (92 : Nat) "there is no pair that is done") ∈ lw_tbl := List.mem_append_right _ (List.mem_of_getElem? (i := 778) (by decide +kernel))
theorem tbS_779 : (Jvm.Cond.stringRef "GraphWalker" (94 : Nat) "a pair has 0 and 1") ∈ lw_tbl := List.mem_append_right _ (List.mem_of_getElem? (i := 779) (by decide +kernel))
theorem tbS_791 : (Jvm.Cond.stringRef "GraphWalker" (109 : Nat) "told is 0 to 7") ∈ lw_tbl := List.mem_append_right _ (List.mem_of_getElem? (i := 791) (by decide +kernel))
theorem tbS_817 : (Jvm.Cond.stringRef "GraphWalker" (126 : Nat) "worked is 0 to 2") ∈ lw_tbl := List.mem_append_right _ (List.mem_of_getElem? (i := 817) (by decide +kernel))
theorem tbS_838 : (Jvm.Cond.stringRef "GraphWalker" (142 : Nat) "the ring has no such thing") ∈ lw_tbl := List.mem_append_right _ (List.mem_of_getElem? (i := 838) (by decide +kernel))
theorem tbS_847 : (Jvm.Cond.stringRef "GraphWalker" (155 : Nat) "there is no such entry") ∈ lw_tbl := List.mem_append_right _ (List.mem_of_getElem? (i := 847) (by decide +kernel))
theorem tbS_864 : (Jvm.Cond.stringRef "GraphWalker" (164 : Nat) "every is 0 to 5000") ∈ lw_tbl := List.mem_append_right _ (List.mem_of_getElem? (i := 864) (by decide +kernel))
theorem tbS_412 : (Jvm.Cond.stringRef "GraphWalker" (170 : Nat) "there is no such term") ∈ lw_tbl := List.mem_append_right _ (List.mem_of_getElem? (i := 412) (by decide +kernel))
theorem tbS_324 : (Jvm.Cond.stringRef "GraphWalker" (176 : Nat) "there are 200 terms") ∈ lw_tbl := List.mem_append_right _ (List.mem_of_getElem? (i := 324) (by decide +kernel))
theorem tbS_513 : (Jvm.Cond.stringRef "GraphWalker" (178 : Nat) "there is no run") ∈ lw_tbl := List.mem_append_right _ (List.mem_of_getElem? (i := 513) (by decide +kernel))
theorem tbS_808 : (Jvm.Cond.stringRef "GraphWalker" (181 : Nat) "there is no such thing") ∈ lw_tbl := List.mem_append_right _ (List.mem_of_getElem? (i := 808) (by decide +kernel))
theorem tbI_Gw : (Jvm.Cond.initialized "GraphWalker") ∈ gw_T := List.mem_filter.mpr ⟨List.mem_append_right _ (List.mem_of_getElem? (i := 1) (by decide +kernel)), rfl⟩
theorem d_Gw_refuseTermBeyondMost_0 : decode b_Gw_refuseTermBeyondMost 0 = .ok (.aload_n 0, 1) := by decide +kernel
theorem d_Gw_refuseTermBeyondMost_1 : decode b_Gw_refuseTermBeyondMost 1 = .ok (.getfield 10, 3) := by decide +kernel
theorem d_Gw_refuseTermBeyondMost_4 : decode b_Gw_refuseTermBeyondMost 4 = .ok (.getfield 19, 3) := by decide +kernel
theorem d_Gw_refuseTermBeyondMost_7 : decode b_Gw_refuseTermBeyondMost 7 = .ok (.invokevirtual 172, 3) := by decide +kernel
theorem d_Gw_refuseTermBeyondMost_10 : decode b_Gw_refuseTermBeyondMost 10 = .ok (.ifCond .eq 13, 3) := by decide +kernel
theorem d_Gw_refuseTermBeyondMost_13 : decode b_Gw_refuseTermBeyondMost 13 = .ok (.new 62, 3) := by decide +kernel
theorem d_Gw_refuseTermBeyondMost_16 : decode b_Gw_refuseTermBeyondMost 16 = .ok (.dup, 1) := by decide +kernel
theorem d_Gw_refuseTermBeyondMost_17 : decode b_Gw_refuseTermBeyondMost 17 = .ok (.ldc 176, 2) := by decide +kernel
theorem d_Gw_refuseTermBeyondMost_19 : decode b_Gw_refuseTermBeyondMost 19 = .ok (.invokespecial 66, 3) := by decide +kernel
theorem d_Gw_refuseTermBeyondMost_22 : decode b_Gw_refuseTermBeyondMost 22 = .ok (.athrow, 1) := by decide +kernel
theorem d_Gw_refuseTermBeyondMost_23 : decode b_Gw_refuseTermBeyondMost 23 = .ok (.return_, 1) := by decide +kernel
theorem d_Gw_number_0 : decode b_Gw_number 0 = .ok (.aload_n 0, 1) := by decide +kernel
theorem d_Gw_number_1 : decode b_Gw_number 1 = .ok (.invokevirtual 16, 3) := by decide +kernel
theorem d_Gw_number_4 : decode b_Gw_number 4 = .ok (.aload_n 0, 1) := by decide +kernel
theorem d_Gw_number_5 : decode b_Gw_number 5 = .ok (.getfield 10, 3) := by decide +kernel
theorem d_Gw_number_8 : decode b_Gw_number 8 = .ok (.getfield 19, 3) := by decide +kernel
theorem d_Gw_number_11 : decode b_Gw_number 11 = .ok (.lload_n 1, 1) := by decide +kernel
theorem d_Gw_number_12 : decode b_Gw_number 12 = .ok (.invokevirtual 23, 3) := by decide +kernel
theorem d_Gw_number_15 : decode b_Gw_number 15 = .ok (.ireturn, 1) := by decide +kernel
theorem d_Gw_variable_0 : decode b_Gw_variable 0 = .ok (.aload_n 0, 1) := by decide +kernel
theorem d_Gw_variable_1 : decode b_Gw_variable 1 = .ok (.invokevirtual 16, 3) := by decide +kernel
theorem d_Gw_variable_4 : decode b_Gw_variable 4 = .ok (.iload_n 1, 1) := by decide +kernel
theorem d_Gw_variable_5 : decode b_Gw_variable 5 = .ok (.ifCond .lt 9, 3) := by decide +kernel
theorem d_Gw_variable_8 : decode b_Gw_variable 8 = .ok (.iload_n 1, 1) := by decide +kernel
theorem d_Gw_variable_9 : decode b_Gw_variable 9 = .ok (.bipush 60, 2) := by decide +kernel
theorem d_Gw_variable_11 : decode b_Gw_variable 11 = .ok (.if_icmp .le 13, 3) := by decide +kernel
theorem d_Gw_variable_14 : decode b_Gw_variable 14 = .ok (.new 29, 3) := by decide +kernel
theorem d_Gw_variable_17 : decode b_Gw_variable 17 = .ok (.dup, 1) := by decide +kernel
theorem d_Gw_variable_18 : decode b_Gw_variable 18 = .ok (.ldc 31, 2) := by decide +kernel
theorem d_Gw_variable_20 : decode b_Gw_variable 20 = .ok (.invokespecial 33, 3) := by decide +kernel
theorem d_Gw_variable_23 : decode b_Gw_variable 23 = .ok (.athrow, 1) := by decide +kernel
theorem d_Gw_variable_24 : decode b_Gw_variable 24 = .ok (.aload_n 0, 1) := by decide +kernel
theorem d_Gw_variable_25 : decode b_Gw_variable 25 = .ok (.getfield 10, 3) := by decide +kernel
theorem d_Gw_variable_28 : decode b_Gw_variable 28 = .ok (.getfield 19, 3) := by decide +kernel
theorem d_Gw_variable_31 : decode b_Gw_variable 31 = .ok (.iload_n 1, 1) := by decide +kernel
theorem d_Gw_variable_32 : decode b_Gw_variable 32 = .ok (.invokevirtual 36, 3) := by decide +kernel
theorem d_Gw_variable_35 : decode b_Gw_variable 35 = .ok (.ireturn, 1) := by decide +kernel
theorem d_Gw_refuseMissingTerm_0 : decode b_Gw_refuseMissingTerm 0 = .ok (.aload_n 0, 1) := by decide +kernel
theorem d_Gw_refuseMissingTerm_1 : decode b_Gw_refuseMissingTerm 1 = .ok (.getfield 10, 3) := by decide +kernel
theorem d_Gw_refuseMissingTerm_4 : decode b_Gw_refuseMissingTerm 4 = .ok (.getfield 19, 3) := by decide +kernel
theorem d_Gw_refuseMissingTerm_7 : decode b_Gw_refuseMissingTerm 7 = .ok (.iload_n 1, 1) := by decide +kernel
theorem d_Gw_refuseMissingTerm_8 : decode b_Gw_refuseMissingTerm 8 = .ok (.invokevirtual 169, 3) := by decide +kernel
theorem d_Gw_refuseMissingTerm_11 : decode b_Gw_refuseMissingTerm 11 = .ok (.ifCond .ne 13, 3) := by decide +kernel
theorem d_Gw_refuseMissingTerm_14 : decode b_Gw_refuseMissingTerm 14 = .ok (.new 140, 3) := by decide +kernel
theorem d_Gw_refuseMissingTerm_17 : decode b_Gw_refuseMissingTerm 17 = .ok (.dup, 1) := by decide +kernel
theorem d_Gw_refuseMissingTerm_18 : decode b_Gw_refuseMissingTerm 18 = .ok (.ldc 170, 2) := by decide +kernel
theorem d_Gw_refuseMissingTerm_20 : decode b_Gw_refuseMissingTerm 20 = .ok (.invokespecial 144, 3) := by decide +kernel
theorem d_Gw_refuseMissingTerm_23 : decode b_Gw_refuseMissingTerm 23 = .ok (.athrow, 1) := by decide +kernel
theorem d_Gw_refuseMissingTerm_24 : decode b_Gw_refuseMissingTerm 24 = .ok (.return_, 1) := by decide +kernel
theorem d_Gw_one_0 : decode b_Gw_one 0 = .ok (.aload_n 0, 1) := by decide +kernel
theorem d_Gw_one_1 : decode b_Gw_one 1 = .ok (.iload_n 2, 1) := by decide +kernel
theorem d_Gw_one_2 : decode b_Gw_one 2 = .ok (.invokevirtual 40, 3) := by decide +kernel
theorem d_Gw_one_5 : decode b_Gw_one 5 = .ok (.aload_n 0, 1) := by decide +kernel
theorem d_Gw_one_6 : decode b_Gw_one 6 = .ok (.invokevirtual 16, 3) := by decide +kernel
theorem d_Gw_one_9 : decode b_Gw_one 9 = .ok (.iload_n 1, 1) := by decide +kernel
theorem d_Gw_one_10 : decode b_Gw_one 10 = .ok (.ifCond .lt 8, 3) := by decide +kernel
theorem d_Gw_one_13 : decode b_Gw_one 13 = .ok (.iload_n 1, 1) := by decide +kernel
theorem d_Gw_one_14 : decode b_Gw_one 14 = .ok (.iconst 2, 1) := by decide +kernel
theorem d_Gw_one_15 : decode b_Gw_one 15 = .ok (.if_icmp .le 13, 3) := by decide +kernel
theorem d_Gw_one_18 : decode b_Gw_one 18 = .ok (.new 29, 3) := by decide +kernel
theorem d_Gw_one_21 : decode b_Gw_one 21 = .ok (.dup, 1) := by decide +kernel
theorem d_Gw_one_22 : decode b_Gw_one 22 = .ok (.ldc 44, 2) := by decide +kernel
theorem d_Gw_one_24 : decode b_Gw_one 24 = .ok (.invokespecial 33, 3) := by decide +kernel
theorem d_Gw_one_27 : decode b_Gw_one 27 = .ok (.athrow, 1) := by decide +kernel
theorem d_Gw_one_28 : decode b_Gw_one 28 = .ok (.aload_n 0, 1) := by decide +kernel
theorem d_Gw_one_29 : decode b_Gw_one 29 = .ok (.getfield 10, 3) := by decide +kernel
theorem d_Gw_one_32 : decode b_Gw_one 32 = .ok (.getfield 19, 3) := by decide +kernel
theorem d_Gw_one_35 : decode b_Gw_one 35 = .ok (.iload_n 1, 1) := by decide +kernel
theorem d_Gw_one_36 : decode b_Gw_one 36 = .ok (.iload_n 2, 1) := by decide +kernel
theorem d_Gw_one_37 : decode b_Gw_one 37 = .ok (.invokevirtual 46, 3) := by decide +kernel
theorem d_Gw_one_40 : decode b_Gw_one 40 = .ok (.ireturn, 1) := by decide +kernel
theorem d_Gw_two_0 : decode b_Gw_two 0 = .ok (.aload_n 0, 1) := by decide +kernel
theorem d_Gw_two_1 : decode b_Gw_two 1 = .ok (.iload_n 2, 1) := by decide +kernel
theorem d_Gw_two_2 : decode b_Gw_two 2 = .ok (.invokevirtual 40, 3) := by decide +kernel
theorem d_Gw_two_5 : decode b_Gw_two 5 = .ok (.aload_n 0, 1) := by decide +kernel
theorem d_Gw_two_6 : decode b_Gw_two 6 = .ok (.iload_n 3, 1) := by decide +kernel
theorem d_Gw_two_7 : decode b_Gw_two 7 = .ok (.invokevirtual 40, 3) := by decide +kernel
theorem d_Gw_two_10 : decode b_Gw_two 10 = .ok (.aload_n 0, 1) := by decide +kernel
theorem d_Gw_two_11 : decode b_Gw_two 11 = .ok (.invokevirtual 16, 3) := by decide +kernel
theorem d_Gw_two_14 : decode b_Gw_two 14 = .ok (.iload_n 1, 1) := by decide +kernel
theorem d_Gw_two_15 : decode b_Gw_two 15 = .ok (.ifCond .lt 9, 3) := by decide +kernel
theorem d_Gw_two_18 : decode b_Gw_two 18 = .ok (.iload_n 1, 1) := by decide +kernel
theorem d_Gw_two_19 : decode b_Gw_two 19 = .ok (.bipush 8, 2) := by decide +kernel
theorem d_Gw_two_21 : decode b_Gw_two 21 = .ok (.if_icmp .le 13, 3) := by decide +kernel
theorem d_Gw_two_24 : decode b_Gw_two 24 = .ok (.new 29, 3) := by decide +kernel
theorem d_Gw_two_27 : decode b_Gw_two 27 = .ok (.dup, 1) := by decide +kernel
theorem d_Gw_two_28 : decode b_Gw_two 28 = .ok (.ldc 50, 2) := by decide +kernel
theorem d_Gw_two_30 : decode b_Gw_two 30 = .ok (.invokespecial 33, 3) := by decide +kernel
theorem d_Gw_two_33 : decode b_Gw_two 33 = .ok (.athrow, 1) := by decide +kernel
theorem d_Gw_two_34 : decode b_Gw_two 34 = .ok (.aload_n 0, 1) := by decide +kernel
theorem d_Gw_two_35 : decode b_Gw_two 35 = .ok (.getfield 10, 3) := by decide +kernel
theorem d_Gw_two_38 : decode b_Gw_two 38 = .ok (.getfield 19, 3) := by decide +kernel
theorem d_Gw_two_41 : decode b_Gw_two 41 = .ok (.iload_n 1, 1) := by decide +kernel
theorem d_Gw_two_42 : decode b_Gw_two 42 = .ok (.iload_n 2, 1) := by decide +kernel
theorem d_Gw_two_43 : decode b_Gw_two 43 = .ok (.iload_n 3, 1) := by decide +kernel
theorem d_Gw_two_44 : decode b_Gw_two 44 = .ok (.invokevirtual 52, 3) := by decide +kernel
theorem d_Gw_two_47 : decode b_Gw_two 47 = .ok (.ireturn, 1) := by decide +kernel
theorem d_Gw_choose_0 : decode b_Gw_choose 0 = .ok (.aload_n 0, 1) := by decide +kernel
theorem d_Gw_choose_1 : decode b_Gw_choose 1 = .ok (.iload_n 1, 1) := by decide +kernel
theorem d_Gw_choose_2 : decode b_Gw_choose 2 = .ok (.invokevirtual 40, 3) := by decide +kernel
theorem d_Gw_choose_5 : decode b_Gw_choose 5 = .ok (.aload_n 0, 1) := by decide +kernel
theorem d_Gw_choose_6 : decode b_Gw_choose 6 = .ok (.iload_n 2, 1) := by decide +kernel
theorem d_Gw_choose_7 : decode b_Gw_choose 7 = .ok (.invokevirtual 40, 3) := by decide +kernel
theorem d_Gw_choose_10 : decode b_Gw_choose 10 = .ok (.aload_n 0, 1) := by decide +kernel
theorem d_Gw_choose_11 : decode b_Gw_choose 11 = .ok (.iload_n 3, 1) := by decide +kernel
theorem d_Gw_choose_12 : decode b_Gw_choose 12 = .ok (.invokevirtual 40, 3) := by decide +kernel
theorem d_Gw_choose_15 : decode b_Gw_choose 15 = .ok (.aload_n 0, 1) := by decide +kernel
theorem d_Gw_choose_16 : decode b_Gw_choose 16 = .ok (.invokevirtual 16, 3) := by decide +kernel
theorem d_Gw_choose_19 : decode b_Gw_choose 19 = .ok (.aload_n 0, 1) := by decide +kernel
theorem d_Gw_choose_20 : decode b_Gw_choose 20 = .ok (.getfield 10, 3) := by decide +kernel
theorem d_Gw_choose_23 : decode b_Gw_choose 23 = .ok (.getfield 19, 3) := by decide +kernel
theorem d_Gw_choose_26 : decode b_Gw_choose 26 = .ok (.iload_n 1, 1) := by decide +kernel
theorem d_Gw_choose_27 : decode b_Gw_choose 27 = .ok (.iload_n 2, 1) := by decide +kernel
theorem d_Gw_choose_28 : decode b_Gw_choose 28 = .ok (.iload_n 3, 1) := by decide +kernel
theorem d_Gw_choose_29 : decode b_Gw_choose 29 = .ok (.invokevirtual 56, 3) := by decide +kernel
theorem d_Gw_choose_32 : decode b_Gw_choose 32 = .ok (.ireturn, 1) := by decide +kernel
theorem d_Gw_lacks_0 : decode b_Gw_lacks 0 = .ok (.aload_n 0, 1) := by decide +kernel
theorem d_Gw_lacks_1 : decode b_Gw_lacks 1 = .ok (.iload_n 1, 1) := by decide +kernel
theorem d_Gw_lacks_2 : decode b_Gw_lacks 2 = .ok (.invokevirtual 40, 3) := by decide +kernel
theorem d_Gw_lacks_5 : decode b_Gw_lacks 5 = .ok (.aload_n 0, 1) := by decide +kernel
theorem d_Gw_lacks_6 : decode b_Gw_lacks 6 = .ok (.getfield 10, 3) := by decide +kernel
theorem d_Gw_lacks_9 : decode b_Gw_lacks 9 = .ok (.getfield 19, 3) := by decide +kernel
theorem d_Gw_lacks_12 : decode b_Gw_lacks 12 = .ok (.iload_n 1, 1) := by decide +kernel
theorem d_Gw_lacks_13 : decode b_Gw_lacks 13 = .ok (.invokevirtual 59, 3) := by decide +kernel
theorem d_Gw_lacks_16 : decode b_Gw_lacks 16 = .ok (.ireturn, 1) := by decide +kernel
theorem d_Gw_begin_0 : decode b_Gw_begin 0 = .ok (.aload_n 0, 1) := by decide +kernel
theorem d_Gw_begin_1 : decode b_Gw_begin 1 = .ok (.iload_n 1, 1) := by decide +kernel
theorem d_Gw_begin_2 : decode b_Gw_begin 2 = .ok (.invokevirtual 40, 3) := by decide +kernel
theorem d_Gw_begin_5 : decode b_Gw_begin 5 = .ok (.aload_n 0, 1) := by decide +kernel
theorem d_Gw_begin_6 : decode b_Gw_begin 6 = .ok (.getfield 10, 3) := by decide +kernel
theorem d_Gw_begin_9 : decode b_Gw_begin 9 = .ok (.getfield 19, 3) := by decide +kernel
theorem d_Gw_begin_12 : decode b_Gw_begin 12 = .ok (.iload_n 1, 1) := by decide +kernel
theorem d_Gw_begin_13 : decode b_Gw_begin 13 = .ok (.invokevirtual 59, 3) := by decide +kernel
theorem d_Gw_begin_16 : decode b_Gw_begin 16 = .ok (.ifCond .eq 13, 3) := by decide +kernel
theorem d_Gw_begin_19 : decode b_Gw_begin 19 = .ok (.new 62, 3) := by decide +kernel
theorem d_Gw_begin_22 : decode b_Gw_begin 22 = .ok (.dup, 1) := by decide +kernel
theorem d_Gw_begin_23 : decode b_Gw_begin 23 = .ok (.ldc 64, 2) := by decide +kernel
theorem d_Gw_begin_25 : decode b_Gw_begin 25 = .ok (.invokespecial 66, 3) := by decide +kernel
theorem d_Gw_begin_28 : decode b_Gw_begin 28 = .ok (.athrow, 1) := by decide +kernel
theorem d_Gw_begin_29 : decode b_Gw_begin 29 = .ok (.aload_n 0, 1) := by decide +kernel
theorem d_Gw_begin_30 : decode b_Gw_begin 30 = .ok (.getfield 10, 3) := by decide +kernel
theorem d_Gw_begin_33 : decode b_Gw_begin 33 = .ok (.iload_n 1, 1) := by decide +kernel
theorem d_Gw_begin_34 : decode b_Gw_begin 34 = .ok (.iload_n 2, 1) := by decide +kernel
theorem d_Gw_begin_35 : decode b_Gw_begin 35 = .ok (.invokevirtual 67, 3) := by decide +kernel
theorem d_Gw_begin_38 : decode b_Gw_begin 38 = .ok (.return_, 1) := by decide +kernel
theorem d_Gw_refuseMissingRun_0 : decode b_Gw_refuseMissingRun 0 = .ok (.aload_n 0, 1) := by decide +kernel
theorem d_Gw_refuseMissingRun_1 : decode b_Gw_refuseMissingRun 1 = .ok (.getfield 10, 3) := by decide +kernel
theorem d_Gw_refuseMissingRun_4 : decode b_Gw_refuseMissingRun 4 = .ok (.getfield 76, 3) := by decide +kernel
theorem d_Gw_refuseMissingRun_7 : decode b_Gw_refuseMissingRun 7 = .ok (.ifCond .ne 13, 3) := by decide +kernel
theorem d_Gw_refuseMissingRun_10 : decode b_Gw_refuseMissingRun 10 = .ok (.new 62, 3) := by decide +kernel
theorem d_Gw_refuseMissingRun_13 : decode b_Gw_refuseMissingRun 13 = .ok (.dup, 1) := by decide +kernel
theorem d_Gw_refuseMissingRun_14 : decode b_Gw_refuseMissingRun 14 = .ok (.ldc 178, 2) := by decide +kernel
theorem d_Gw_refuseMissingRun_16 : decode b_Gw_refuseMissingRun 16 = .ok (.invokespecial 66, 3) := by decide +kernel
theorem d_Gw_refuseMissingRun_19 : decode b_Gw_refuseMissingRun 19 = .ok (.athrow, 1) := by decide +kernel
theorem d_Gw_refuseMissingRun_20 : decode b_Gw_refuseMissingRun 20 = .ok (.return_, 1) := by decide +kernel
theorem d_Gw_run_0 : decode b_Gw_run 0 = .ok (.aload_n 0, 1) := by decide +kernel
theorem d_Gw_run_1 : decode b_Gw_run 1 = .ok (.invokevirtual 71, 3) := by decide +kernel
theorem d_Gw_run_4 : decode b_Gw_run 4 = .ok (.iload_n 1, 1) := by decide +kernel
theorem d_Gw_run_5 : decode b_Gw_run 5 = .ok (.ifCond .lt 10, 3) := by decide +kernel
theorem d_Gw_run_8 : decode b_Gw_run 8 = .ok (.iload_n 1, 1) := by decide +kernel
theorem d_Gw_run_9 : decode b_Gw_run 9 = .ok (.sipush 5000, 3) := by decide +kernel
theorem d_Gw_run_12 : decode b_Gw_run 12 = .ok (.if_icmp .le 13, 3) := by decide +kernel
theorem d_Gw_run_15 : decode b_Gw_run 15 = .ok (.new 29, 3) := by decide +kernel
theorem d_Gw_run_18 : decode b_Gw_run 18 = .ok (.dup, 1) := by decide +kernel
theorem d_Gw_run_19 : decode b_Gw_run 19 = .ok (.ldc 74, 2) := by decide +kernel
theorem d_Gw_run_21 : decode b_Gw_run 21 = .ok (.invokespecial 33, 3) := by decide +kernel
theorem d_Gw_run_24 : decode b_Gw_run 24 = .ok (.athrow, 1) := by decide +kernel
theorem d_Gw_run_25 : decode b_Gw_run 25 = .ok (.iconst 0, 1) := by decide +kernel
theorem d_Gw_run_26 : decode b_Gw_run 26 = .ok (.istore_n 2, 1) := by decide +kernel
theorem d_Gw_run_27 : decode b_Gw_run 27 = .ok (.iload_n 2, 1) := by decide +kernel
theorem d_Gw_run_28 : decode b_Gw_run 28 = .ok (.iload_n 1, 1) := by decide +kernel
theorem d_Gw_run_29 : decode b_Gw_run 29 = .ok (.if_icmp .ge 27, 3) := by decide +kernel
theorem d_Gw_run_32 : decode b_Gw_run 32 = .ok (.aload_n 0, 1) := by decide +kernel
theorem d_Gw_run_33 : decode b_Gw_run 33 = .ok (.getfield 10, 3) := by decide +kernel
theorem d_Gw_run_36 : decode b_Gw_run 36 = .ok (.getfield 76, 3) := by decide +kernel
theorem d_Gw_run_39 : decode b_Gw_run 39 = .ok (.iconst 1, 1) := by decide +kernel
theorem d_Gw_run_40 : decode b_Gw_run 40 = .ok (.if_icmp .ne 16, 3) := by decide +kernel
theorem d_Gw_run_43 : decode b_Gw_run 43 = .ok (.aload_n 0, 1) := by decide +kernel
theorem d_Gw_run_44 : decode b_Gw_run 44 = .ok (.getfield 10, 3) := by decide +kernel
theorem d_Gw_run_47 : decode b_Gw_run 47 = .ok (.invokevirtual 80, 3) := by decide +kernel
theorem d_Gw_run_50 : decode b_Gw_run 50 = .ok (.iinc 2 1, 3) := by decide +kernel
theorem d_Gw_run_53 : decode b_Gw_run 53 = .ok (.goto (-26), 3) := by decide +kernel
theorem d_Gw_run_56 : decode b_Gw_run 56 = .ok (.iload_n 2, 1) := by decide +kernel
theorem d_Gw_run_57 : decode b_Gw_run 57 = .ok (.ireturn, 1) := by decide +kernel
theorem d_Gw_into_0 : decode b_Gw_into 0 = .ok (.aload_n 0, 1) := by decide +kernel
theorem d_Gw_into_1 : decode b_Gw_into 1 = .ok (.getfield 10, 3) := by decide +kernel
theorem d_Gw_into_4 : decode b_Gw_into 4 = .ok (.getfield 76, 3) := by decide +kernel
theorem d_Gw_into_7 : decode b_Gw_into 7 = .ok (.iconst 2, 1) := by decide +kernel
theorem d_Gw_into_8 : decode b_Gw_into 8 = .ok (.if_icmp .ne 17, 3) := by decide +kernel
theorem d_Gw_into_11 : decode b_Gw_into 11 = .ok (.aload_n 0, 1) := by decide +kernel
theorem d_Gw_into_12 : decode b_Gw_into 12 = .ok (.getfield 10, 3) := by decide +kernel
theorem d_Gw_into_15 : decode b_Gw_into 15 = .ok (.getfield 83, 3) := by decide +kernel
theorem d_Gw_into_18 : decode b_Gw_into 18 = .ok (.getfield 87, 3) := by decide +kernel
theorem d_Gw_into_21 : decode b_Gw_into 21 = .ok (.iconst 2, 1) := by decide +kernel
theorem d_Gw_into_22 : decode b_Gw_into 22 = .ok (.if_icmp .eq 13, 3) := by decide +kernel
theorem d_Gw_into_25 : decode b_Gw_into 25 = .ok (.new 62, 3) := by decide +kernel
theorem d_Gw_into_28 : decode b_Gw_into 28 = .ok (.dup, 1) := by decide +kernel
theorem d_Gw_into_29 : decode b_Gw_into 29 = .ok (.ldc 92, 2) := by decide +kernel
theorem d_Gw_into_31 : decode b_Gw_into 31 = .ok (.invokespecial 66, 3) := by decide +kernel
theorem d_Gw_into_34 : decode b_Gw_into 34 = .ok (.athrow, 1) := by decide +kernel
theorem d_Gw_into_35 : decode b_Gw_into 35 = .ok (.iload_n 1, 1) := by decide +kernel
theorem d_Gw_into_36 : decode b_Gw_into 36 = .ok (.ifCond .lt 8, 3) := by decide +kernel
theorem d_Gw_into_39 : decode b_Gw_into 39 = .ok (.iload_n 1, 1) := by decide +kernel
theorem d_Gw_into_40 : decode b_Gw_into 40 = .ok (.iconst 1, 1) := by decide +kernel
theorem d_Gw_into_41 : decode b_Gw_into 41 = .ok (.if_icmp .le 13, 3) := by decide +kernel
theorem d_Gw_into_44 : decode b_Gw_into 44 = .ok (.new 29, 3) := by decide +kernel
theorem d_Gw_into_47 : decode b_Gw_into 47 = .ok (.dup, 1) := by decide +kernel
theorem d_Gw_into_48 : decode b_Gw_into 48 = .ok (.ldc 94, 2) := by decide +kernel
theorem d_Gw_into_50 : decode b_Gw_into 50 = .ok (.invokespecial 33, 3) := by decide +kernel
theorem d_Gw_into_53 : decode b_Gw_into 53 = .ok (.athrow, 1) := by decide +kernel
theorem d_Gw_into_54 : decode b_Gw_into 54 = .ok (.aload_n 0, 1) := by decide +kernel
theorem d_Gw_into_55 : decode b_Gw_into 55 = .ok (.getfield 10, 3) := by decide +kernel
theorem d_Gw_into_58 : decode b_Gw_into 58 = .ok (.iload_n 1, 1) := by decide +kernel
theorem d_Gw_into_59 : decode b_Gw_into 59 = .ok (.ifCond .ne 16, 3) := by decide +kernel
theorem d_Gw_into_62 : decode b_Gw_into 62 = .ok (.aload_n 0, 1) := by decide +kernel
theorem d_Gw_into_63 : decode b_Gw_into 63 = .ok (.getfield 10, 3) := by decide +kernel
theorem d_Gw_into_66 : decode b_Gw_into 66 = .ok (.getfield 83, 3) := by decide +kernel
theorem d_Gw_into_69 : decode b_Gw_into 69 = .ok (.getfield 96, 3) := by decide +kernel
theorem d_Gw_into_72 : decode b_Gw_into 72 = .ok (.goto 13, 3) := by decide +kernel
theorem d_Gw_into_75 : decode b_Gw_into 75 = .ok (.aload_n 0, 1) := by decide +kernel
theorem d_Gw_into_76 : decode b_Gw_into 76 = .ok (.getfield 10, 3) := by decide +kernel
theorem d_Gw_into_79 : decode b_Gw_into 79 = .ok (.getfield 83, 3) := by decide +kernel
theorem d_Gw_into_82 : decode b_Gw_into 82 = .ok (.getfield 99, 3) := by decide +kernel
theorem d_Gw_into_85 : decode b_Gw_into 85 = .ok (.invokevirtual 102, 3) := by decide +kernel
theorem d_Gw_into_88 : decode b_Gw_into 88 = .ok (.return_, 1) := by decide +kernel
theorem d_Gw_told_0 : decode b_Gw_told 0 = .ok (.iload_n 1, 1) := by decide +kernel
theorem d_Gw_told_1 : decode b_Gw_told 1 = .ok (.ifCond .lt 9, 3) := by decide +kernel
theorem d_Gw_told_4 : decode b_Gw_told 4 = .ok (.iload_n 1, 1) := by decide +kernel
theorem d_Gw_told_5 : decode b_Gw_told 5 = .ok (.bipush 7, 2) := by decide +kernel
theorem d_Gw_told_7 : decode b_Gw_told 7 = .ok (.if_icmp .le 13, 3) := by decide +kernel
theorem d_Gw_told_10 : decode b_Gw_told 10 = .ok (.new 29, 3) := by decide +kernel
theorem d_Gw_told_13 : decode b_Gw_told 13 = .ok (.dup, 1) := by decide +kernel
theorem d_Gw_told_14 : decode b_Gw_told 14 = .ok (.ldc 109, 2) := by decide +kernel
theorem d_Gw_told_16 : decode b_Gw_told 16 = .ok (.invokespecial 33, 3) := by decide +kernel
theorem d_Gw_told_19 : decode b_Gw_told 19 = .ok (.athrow, 1) := by decide +kernel
theorem d_Gw_told_20 : decode b_Gw_told 20 = .ok (.aload_n 0, 1) := by decide +kernel
theorem d_Gw_told_21 : decode b_Gw_told 21 = .ok (.getfield 10, 3) := by decide +kernel
theorem d_Gw_told_24 : decode b_Gw_told 24 = .ok (.getfield 76, 3) := by decide +kernel
theorem d_Gw_told_27 : decode b_Gw_told 27 = .ok (.ifCond .ne 7, 3) := by decide +kernel
theorem d_Gw_told_30 : decode b_Gw_told 30 = .ok (.iconst (-1), 1) := by decide +kernel
theorem d_Gw_told_31 : decode b_Gw_told 31 = .ok (.goto 11, 3) := by decide +kernel
theorem d_Gw_told_34 : decode b_Gw_told 34 = .ok (.aload_n 0, 1) := by decide +kernel
theorem d_Gw_told_35 : decode b_Gw_told 35 = .ok (.getfield 10, 3) := by decide +kernel
theorem d_Gw_told_38 : decode b_Gw_told 38 = .ok (.iload_n 1, 1) := by decide +kernel
theorem d_Gw_told_39 : decode b_Gw_told 39 = .ok (.invokevirtual 111, 3) := by decide +kernel
theorem d_Gw_told_42 : decode b_Gw_told 42 = .ok (.ireturn, 1) := by decide +kernel
theorem d_Gw_refuseMissingThing_0 : decode b_Gw_refuseMissingThing 0 = .ok (.aload_n 0, 1) := by decide +kernel
theorem d_Gw_refuseMissingThing_1 : decode b_Gw_refuseMissingThing 1 = .ok (.getfield 10, 3) := by decide +kernel
theorem d_Gw_refuseMissingThing_4 : decode b_Gw_refuseMissingThing 4 = .ok (.getfield 117, 3) := by decide +kernel
theorem d_Gw_refuseMissingThing_7 : decode b_Gw_refuseMissingThing 7 = .ok (.iload_n 1, 1) := by decide +kernel
theorem d_Gw_refuseMissingThing_8 : decode b_Gw_refuseMissingThing 8 = .ok (.invokevirtual 180, 3) := by decide +kernel
theorem d_Gw_refuseMissingThing_11 : decode b_Gw_refuseMissingThing 11 = .ok (.ifCond .ne 13, 3) := by decide +kernel
theorem d_Gw_refuseMissingThing_14 : decode b_Gw_refuseMissingThing 14 = .ok (.new 140, 3) := by decide +kernel
theorem d_Gw_refuseMissingThing_17 : decode b_Gw_refuseMissingThing 17 = .ok (.dup, 1) := by decide +kernel
theorem d_Gw_refuseMissingThing_18 : decode b_Gw_refuseMissingThing 18 = .ok (.ldc 181, 2) := by decide +kernel
theorem d_Gw_refuseMissingThing_20 : decode b_Gw_refuseMissingThing 20 = .ok (.invokespecial 144, 3) := by decide +kernel
theorem d_Gw_refuseMissingThing_23 : decode b_Gw_refuseMissingThing 23 = .ok (.athrow, 1) := by decide +kernel
theorem d_Gw_refuseMissingThing_24 : decode b_Gw_refuseMissingThing 24 = .ok (.return_, 1) := by decide +kernel
theorem d_Gw_thing_0 : decode b_Gw_thing 0 = .ok (.aload_n 0, 1) := by decide +kernel
theorem d_Gw_thing_1 : decode b_Gw_thing 1 = .ok (.iload_n 1, 1) := by decide +kernel
theorem d_Gw_thing_2 : decode b_Gw_thing 2 = .ok (.invokevirtual 114, 3) := by decide +kernel
theorem d_Gw_thing_5 : decode b_Gw_thing 5 = .ok (.aload_n 0, 1) := by decide +kernel
theorem d_Gw_thing_6 : decode b_Gw_thing 6 = .ok (.getfield 10, 3) := by decide +kernel
theorem d_Gw_thing_9 : decode b_Gw_thing 9 = .ok (.getfield 117, 3) := by decide +kernel
theorem d_Gw_thing_12 : decode b_Gw_thing 12 = .ok (.iload_n 1, 1) := by decide +kernel
theorem d_Gw_thing_13 : decode b_Gw_thing 13 = .ok (.invokevirtual 121, 3) := by decide +kernel
theorem d_Gw_thing_16 : decode b_Gw_thing 16 = .ok (.ireturn, 1) := by decide +kernel
theorem d_Gw_worked_0 : decode b_Gw_worked 0 = .ok (.aload_n 0, 1) := by decide +kernel
theorem d_Gw_worked_1 : decode b_Gw_worked 1 = .ok (.iload_n 1, 1) := by decide +kernel
theorem d_Gw_worked_2 : decode b_Gw_worked 2 = .ok (.invokevirtual 114, 3) := by decide +kernel
theorem d_Gw_worked_5 : decode b_Gw_worked 5 = .ok (.iload_n 2, 1) := by decide +kernel
theorem d_Gw_worked_6 : decode b_Gw_worked 6 = .ok (.ifCond .lt 8, 3) := by decide +kernel
theorem d_Gw_worked_9 : decode b_Gw_worked 9 = .ok (.iload_n 2, 1) := by decide +kernel
theorem d_Gw_worked_10 : decode b_Gw_worked 10 = .ok (.iconst 2, 1) := by decide +kernel
theorem d_Gw_worked_11 : decode b_Gw_worked 11 = .ok (.if_icmp .le 13, 3) := by decide +kernel
theorem d_Gw_worked_14 : decode b_Gw_worked 14 = .ok (.new 29, 3) := by decide +kernel
theorem d_Gw_worked_17 : decode b_Gw_worked 17 = .ok (.dup, 1) := by decide +kernel
theorem d_Gw_worked_18 : decode b_Gw_worked 18 = .ok (.ldc 126, 2) := by decide +kernel
theorem d_Gw_worked_20 : decode b_Gw_worked 20 = .ok (.invokespecial 33, 3) := by decide +kernel
theorem d_Gw_worked_23 : decode b_Gw_worked 23 = .ok (.athrow, 1) := by decide +kernel
theorem d_Gw_worked_24 : decode b_Gw_worked 24 = .ok (.iload_n 2, 1) := by decide +kernel
theorem d_Gw_worked_25 : decode b_Gw_worked 25 = .ok (.ifCond .ne 15, 3) := by decide +kernel
theorem d_Gw_worked_28 : decode b_Gw_worked 28 = .ok (.aload_n 0, 1) := by decide +kernel
theorem d_Gw_worked_29 : decode b_Gw_worked 29 = .ok (.getfield 10, 3) := by decide +kernel
theorem d_Gw_worked_32 : decode b_Gw_worked 32 = .ok (.getfield 117, 3) := by decide +kernel
theorem d_Gw_worked_35 : decode b_Gw_worked 35 = .ok (.iload_n 1, 1) := by decide +kernel
theorem d_Gw_worked_36 : decode b_Gw_worked 36 = .ok (.invokevirtual 128, 3) := by decide +kernel
theorem d_Gw_worked_39 : decode b_Gw_worked 39 = .ok (.ireturn, 1) := by decide +kernel
theorem d_Gw_worked_40 : decode b_Gw_worked 40 = .ok (.iload_n 2, 1) := by decide +kernel
theorem d_Gw_worked_41 : decode b_Gw_worked 41 = .ok (.iconst 1, 1) := by decide +kernel
theorem d_Gw_worked_42 : decode b_Gw_worked 42 = .ok (.if_icmp .ne 17, 3) := by decide +kernel
theorem d_Gw_worked_45 : decode b_Gw_worked 45 = .ok (.aload_n 0, 1) := by decide +kernel
theorem d_Gw_worked_46 : decode b_Gw_worked 46 = .ok (.getfield 10, 3) := by decide +kernel
theorem d_Gw_worked_49 : decode b_Gw_worked 49 = .ok (.getfield 117, 3) := by decide +kernel
theorem d_Gw_worked_52 : decode b_Gw_worked 52 = .ok (.iload_n 1, 1) := by decide +kernel
theorem d_Gw_worked_53 : decode b_Gw_worked 53 = .ok (.invokevirtual 131, 3) := by decide +kernel
theorem d_Gw_worked_56 : decode b_Gw_worked 56 = .ok (.goto 14, 3) := by decide +kernel
theorem d_Gw_worked_59 : decode b_Gw_worked 59 = .ok (.aload_n 0, 1) := by decide +kernel
theorem d_Gw_worked_60 : decode b_Gw_worked 60 = .ok (.getfield 10, 3) := by decide +kernel
theorem d_Gw_worked_63 : decode b_Gw_worked 63 = .ok (.getfield 117, 3) := by decide +kernel
theorem d_Gw_worked_66 : decode b_Gw_worked 66 = .ok (.iload_n 1, 1) := by decide +kernel
theorem d_Gw_worked_67 : decode b_Gw_worked 67 = .ok (.invokevirtual 134, 3) := by decide +kernel
theorem d_Gw_worked_70 : decode b_Gw_worked 70 = .ok (.ireturn, 1) := by decide +kernel
theorem d_Gw_ring_0 : decode b_Gw_ring 0 = .ok (.aload_n 0, 1) := by decide +kernel
theorem d_Gw_ring_1 : decode b_Gw_ring 1 = .ok (.getfield 10, 3) := by decide +kernel
theorem d_Gw_ring_4 : decode b_Gw_ring 4 = .ok (.iload_n 1, 1) := by decide +kernel
theorem d_Gw_ring_5 : decode b_Gw_ring 5 = .ok (.invokevirtual 137, 3) := by decide +kernel
theorem d_Gw_ring_8 : decode b_Gw_ring 8 = .ok (.istore_n 2, 1) := by decide +kernel
theorem d_Gw_ring_9 : decode b_Gw_ring 9 = .ok (.iload_n 2, 1) := by decide +kernel
theorem d_Gw_ring_10 : decode b_Gw_ring 10 = .ok (.iconst (-1), 1) := by decide +kernel
theorem d_Gw_ring_11 : decode b_Gw_ring 11 = .ok (.if_icmp .ne 13, 3) := by decide +kernel
theorem d_Gw_ring_14 : decode b_Gw_ring 14 = .ok (.new 140, 3) := by decide +kernel
theorem d_Gw_ring_17 : decode b_Gw_ring 17 = .ok (.dup, 1) := by decide +kernel
theorem d_Gw_ring_18 : decode b_Gw_ring 18 = .ok (.ldc 142, 2) := by decide +kernel
theorem d_Gw_ring_20 : decode b_Gw_ring 20 = .ok (.invokespecial 144, 3) := by decide +kernel
theorem d_Gw_ring_23 : decode b_Gw_ring 23 = .ok (.athrow, 1) := by decide +kernel
theorem d_Gw_ring_24 : decode b_Gw_ring 24 = .ok (.iload_n 2, 1) := by decide +kernel
theorem d_Gw_ring_25 : decode b_Gw_ring 25 = .ok (.ireturn, 1) := by decide +kernel
theorem d_Gw_entry_0 : decode b_Gw_entry 0 = .ok (.aload_n 0, 1) := by decide +kernel
theorem d_Gw_entry_1 : decode b_Gw_entry 1 = .ok (.getfield 10, 3) := by decide +kernel
theorem d_Gw_entry_4 : decode b_Gw_entry 4 = .ok (.getfield 145, 3) := by decide +kernel
theorem d_Gw_entry_7 : decode b_Gw_entry 7 = .ok (.iload_n 1, 1) := by decide +kernel
theorem d_Gw_entry_8 : decode b_Gw_entry 8 = .ok (.invokevirtual 149, 3) := by decide +kernel
theorem d_Gw_entry_11 : decode b_Gw_entry 11 = .ok (.ifCond .ne 13, 3) := by decide +kernel
theorem d_Gw_entry_14 : decode b_Gw_entry 14 = .ok (.new 140, 3) := by decide +kernel
theorem d_Gw_entry_17 : decode b_Gw_entry 17 = .ok (.dup, 1) := by decide +kernel
theorem d_Gw_entry_18 : decode b_Gw_entry 18 = .ok (.ldc 155, 2) := by decide +kernel
theorem d_Gw_entry_20 : decode b_Gw_entry 20 = .ok (.invokespecial 144, 3) := by decide +kernel
theorem d_Gw_entry_23 : decode b_Gw_entry 23 = .ok (.athrow, 1) := by decide +kernel
theorem d_Gw_entry_24 : decode b_Gw_entry 24 = .ok (.aload_n 0, 1) := by decide +kernel
theorem d_Gw_entry_25 : decode b_Gw_entry 25 = .ok (.getfield 10, 3) := by decide +kernel
theorem d_Gw_entry_28 : decode b_Gw_entry 28 = .ok (.getfield 145, 3) := by decide +kernel
theorem d_Gw_entry_31 : decode b_Gw_entry 31 = .ok (.iload_n 1, 1) := by decide +kernel
theorem d_Gw_entry_32 : decode b_Gw_entry 32 = .ok (.invokevirtual 157, 3) := by decide +kernel
theorem d_Gw_entry_35 : decode b_Gw_entry 35 = .ok (.ireturn, 1) := by decide +kernel
theorem d_Gw_collect_0 : decode b_Gw_collect 0 = .ok (.aload_n 0, 1) := by decide +kernel
theorem d_Gw_collect_1 : decode b_Gw_collect 1 = .ok (.invokevirtual 71, 3) := by decide +kernel
theorem d_Gw_collect_4 : decode b_Gw_collect 4 = .ok (.aload_n 0, 1) := by decide +kernel
theorem d_Gw_collect_5 : decode b_Gw_collect 5 = .ok (.getfield 10, 3) := by decide +kernel
theorem d_Gw_collect_8 : decode b_Gw_collect 8 = .ok (.invokevirtual 160, 3) := by decide +kernel
theorem d_Gw_collect_11 : decode b_Gw_collect 11 = .ok (.ireturn, 1) := by decide +kernel
theorem d_Gw_every_0 : decode b_Gw_every 0 = .ok (.iload_n 1, 1) := by decide +kernel
theorem d_Gw_every_1 : decode b_Gw_every 1 = .ok (.ifCond .lt 10, 3) := by decide +kernel
theorem d_Gw_every_4 : decode b_Gw_every 4 = .ok (.iload_n 1, 1) := by decide +kernel
theorem d_Gw_every_5 : decode b_Gw_every 5 = .ok (.sipush 5000, 3) := by decide +kernel
theorem d_Gw_every_8 : decode b_Gw_every 8 = .ok (.if_icmp .le 13, 3) := by decide +kernel
theorem d_Gw_every_11 : decode b_Gw_every 11 = .ok (.new 29, 3) := by decide +kernel
theorem d_Gw_every_14 : decode b_Gw_every 14 = .ok (.dup, 1) := by decide +kernel
theorem d_Gw_every_15 : decode b_Gw_every 15 = .ok (.ldc 164, 2) := by decide +kernel
theorem d_Gw_every_17 : decode b_Gw_every 17 = .ok (.invokespecial 33, 3) := by decide +kernel
theorem d_Gw_every_20 : decode b_Gw_every 20 = .ok (.athrow, 1) := by decide +kernel
theorem d_Gw_every_21 : decode b_Gw_every 21 = .ok (.aload_n 0, 1) := by decide +kernel
theorem d_Gw_every_22 : decode b_Gw_every 22 = .ok (.getfield 10, 3) := by decide +kernel
theorem d_Gw_every_25 : decode b_Gw_every 25 = .ok (.getfield 166, 3) := by decide +kernel
theorem d_Gw_every_28 : decode b_Gw_every 28 = .ok (.istore_n 2, 1) := by decide +kernel
theorem d_Gw_every_29 : decode b_Gw_every 29 = .ok (.aload_n 0, 1) := by decide +kernel
theorem d_Gw_every_30 : decode b_Gw_every 30 = .ok (.getfield 10, 3) := by decide +kernel
theorem d_Gw_every_33 : decode b_Gw_every 33 = .ok (.iload_n 1, 1) := by decide +kernel
theorem d_Gw_every_34 : decode b_Gw_every 34 = .ok (.putfield 166, 3) := by decide +kernel
theorem d_Gw_every_37 : decode b_Gw_every 37 = .ok (.iload_n 2, 1) := by decide +kernel
theorem d_Gw_every_38 : decode b_Gw_every 38 = .ok (.ireturn, 1) := by decide +kernel
/-! THE FACE: what may throw -/
def gw_bindT {γ : Type} (o : Option ((Nat × Int32) × St)) (f : Nat → Int32 → St → Option γ) : Option γ := match o with
  | none => none
  | some q => f q.1.1 q.1.2 q.2
theorem gw_bndT {γ : Type} {o : Option ((Nat × Int32) × St)} {f : Nat → Int32 → St → Option γ} {y : γ} (hF : gw_bindT o f = some y) : ∃ (k : Nat) (r : Int32) (t : St), o = some ((k, r), t) ∧ f k r t = some y := by
  cases o with
  | none => cases hF
  | some q => exact ⟨q.1.1, q.1.2, q.2, rfl, hF⟩
def F_Gw_refuseTermBeyondMost (σ : St) : Option ((Nat × Int32) × St) :=
  gw_bind (F_Te_isFull (σ)) fun r2 σ3 =>
    if r2 = 0 then
      some ((0, 0), σ3)
    else
      some ((2, 0), σ3)
def F_Gw_number (σ : St) (x1 : Int64) : Option ((Nat × Int32) × St) :=
  gw_bindT (F_Gw_refuseTermBeyondMost (σ)) fun k2 r3 σ4 =>
    if k2 = 0 then
      gw_bind (F_Te_addNumber (σ4) x1) fun r7 σ8 =>
        some ((0, r7), σ8)
    else
      some ((k2, 0), σ4)
def F_Gw_variable (σ : St) (x1 : Int32) : Option ((Nat × Int32) × St) :=
  gw_bindT (F_Gw_refuseTermBeyondMost (σ)) fun k2 r3 σ4 =>
    if k2 = 0 then
      if x1 < 0 then
        some ((3, 0), σ4)
      else
        if x1 ≤ 60 then
          gw_bind (F_Te_addVariable (σ4) x1) fun r9 σ10 =>
            some ((0, r9), σ10)
        else
          some ((3, 0), σ4)
    else
      some ((k2, 0), σ4)
def F_Gw_refuseMissingTerm (σ : St) (x1 : Int32) : Option ((Nat × Int32) × St) :=
  gw_bind (F_Te_has (σ) x1) fun r2 σ3 =>
    if r2 = 0 then
      some ((1, 0), σ3)
    else
      some ((0, 0), σ3)
def F_Gw_one (σ : St) (x1 : Int32) (x2 : Int32) : Option ((Nat × Int32) × St) :=
  gw_bindT (F_Gw_refuseMissingTerm (σ) x2) fun k2 r3 σ4 =>
    if k2 = 0 then
      gw_bindT (F_Gw_refuseTermBeyondMost (σ4)) fun k7 r8 σ9 =>
        if k7 = 0 then
          if x1 < 0 then
            some ((3, 0), σ9)
          else
            if x1 ≤ 2 then
              gw_bind (F_Te_addOne (σ9) x1 x2) fun r14 σ15 =>
                some ((0, r14), σ15)
            else
              some ((3, 0), σ9)
        else
          some ((k7, 0), σ9)
    else
      some ((k2, 0), σ4)
def F_Gw_two (σ : St) (x1 : Int32) (x2 : Int32) (x3 : Int32) : Option ((Nat × Int32) × St) :=
  gw_bindT (F_Gw_refuseMissingTerm (σ) x2) fun k2 r3 σ4 =>
    if k2 = 0 then
      gw_bindT (F_Gw_refuseMissingTerm (σ4) x3) fun k7 r8 σ9 =>
        if k7 = 0 then
          gw_bindT (F_Gw_refuseTermBeyondMost (σ9)) fun k12 r13 σ14 =>
            if k12 = 0 then
              if x1 < 0 then
                some ((3, 0), σ14)
              else
                if x1 ≤ 8 then
                  gw_bind (F_Te_addTwo (σ14) x1 x2 x3) fun r19 σ20 =>
                    some ((0, r19), σ20)
                else
                  some ((3, 0), σ14)
            else
              some ((k12, 0), σ14)
        else
          some ((k7, 0), σ9)
    else
      some ((k2, 0), σ4)
def F_Gw_choose (σ : St) (x1 : Int32) (x2 : Int32) (x3 : Int32) : Option ((Nat × Int32) × St) :=
  gw_bindT (F_Gw_refuseMissingTerm (σ) x1) fun k2 r3 σ4 =>
    if k2 = 0 then
      gw_bindT (F_Gw_refuseMissingTerm (σ4) x2) fun k7 r8 σ9 =>
        if k7 = 0 then
          gw_bindT (F_Gw_refuseMissingTerm (σ9) x3) fun k12 r13 σ14 =>
            if k12 = 0 then
              gw_bindT (F_Gw_refuseTermBeyondMost (σ14)) fun k17 r18 σ19 =>
                if k17 = 0 then
                  gw_bind (F_Te_addChoose (σ19) x1 x2 x3) fun r22 σ23 =>
                    some ((0, r22), σ23)
                else
                  some ((k17, 0), σ19)
            else
              some ((k12, 0), σ14)
        else
          some ((k7, 0), σ9)
    else
      some ((k2, 0), σ4)
def F_Gw_lacks (σ : St) (x1 : Int32) : Option ((Nat × Int32) × St) :=
  gw_bindT (F_Gw_refuseMissingTerm (σ) x1) fun k2 r3 σ4 =>
    if k2 = 0 then
      gw_bind (F_Te_lackOf (σ4) x1) fun r7 σ8 =>
        some ((0, r7), σ8)
    else
      some ((k2, 0), σ4)
def F_Gw_begin (σ : St) (x1 : Int32) (x2 : Int32) : Option ((Nat × Int32) × St) :=
  gw_bindT (F_Gw_refuseMissingTerm (σ) x1) fun k2 r3 σ4 =>
    if k2 = 0 then
      gw_bind (F_Te_lackOf (σ4) x1) fun r7 σ8 =>
        if r7 = 0 then
          gw_bindv (F_Wa_start (σ8) x1 x2) fun σ11 =>
            some ((0, 0), σ11)
        else
          some ((2, 0), σ8)
    else
      some ((k2, 0), σ4)
def F_Gw_refuseMissingRun (σ : St) : Option ((Nat × Int32) × St) :=
  if (σ.1 0) = 0 then
    some ((2, 0), σ)
  else
    some ((0, 0), σ)
def K_Gw_run_27 : Nat → St → Int32 → Int32 → Option ((Nat × Int32) × St)
  | 0, _, _, _ => none
  | n + 1, σ, x1, x2 =>
    if x1 ≤ x2 then
      some ((0, x2), σ)
    else
      if (σ.1 0) = 1 then
        gw_bindv (F_Wa_step (σ)) fun σ11 =>
          K_Gw_run_27 n (σ11) x1 (x2 + 1)
      else
        some ((0, x2), σ)
def F_Gw_run (σ : St) (x1 : Int32) : Option ((Nat × Int32) × St) :=
  gw_bindT (F_Gw_refuseMissingRun (σ)) fun k2 r3 σ4 =>
    if k2 = 0 then
      if x1 < 0 then
        some ((3, 0), σ4)
      else
        if x1 ≤ 5000 then
          K_Gw_run_27 gw_N (σ4) x1 0
        else
          some ((3, 0), σ4)
    else
      some ((k2, 0), σ4)
def F_Gw_into (σ : St) (x1 : Int32) : Option ((Nat × Int32) × St) :=
  if (σ.1 0) = 2 then
    if (σ.1 19) = 2 then
      if x1 < 0 then
        some ((3, 0), σ)
      else
        if x1 ≤ 1 then
          if x1 = 0 then
            gw_bindv (F_Wa_turnTo (σ) (σ.1 20)) fun σ9 =>
              some ((0, 0), σ9)
          else
            gw_bindv (F_Wa_turnTo (σ) (σ.1 21)) fun σ7 =>
              some ((0, 0), σ7)
        else
          some ((3, 0), σ)
    else
      some ((2, 0), σ)
  else
    some ((2, 0), σ)
def F_Gw_told (σ : St) (x1 : Int32) : Option ((Nat × Int32) × St) :=
  if x1 < 0 then
    some ((3, 0), σ)
  else
    if x1 ≤ 7 then
      if (σ.1 0) = 0 then
        some ((0, (-1)), σ)
      else
        gw_bind (F_Wa_tally (σ) x1) fun r5 σ6 =>
          some ((0, r5), σ6)
    else
      some ((3, 0), σ)
def F_Gw_refuseMissingThing (σ : St) (x1 : Int32) : Option ((Nat × Int32) × St) :=
  gw_bind (F_Th_has (σ) x1) fun r2 σ3 =>
    if r2 = 0 then
      some ((1, 0), σ3)
    else
      some ((0, 0), σ3)
def F_Gw_thing (σ : St) (x1 : Int32) : Option ((Nat × Int32) × St) :=
  gw_bindT (F_Gw_refuseMissingThing (σ) x1) fun k2 r3 σ4 =>
    if k2 = 0 then
      gw_bind (F_Th_stateOf (σ4) x1) fun r7 σ8 =>
        some ((0, r7), σ8)
    else
      some ((k2, 0), σ4)
def F_Gw_worked (σ : St) (x1 : Int32) (x2 : Int32) : Option ((Nat × Int32) × St) :=
  gw_bindT (F_Gw_refuseMissingThing (σ) x1) fun k2 r3 σ4 =>
    if k2 = 0 then
      if x2 < 0 then
        some ((3, 0), σ4)
      else
        if x2 ≤ 2 then
          if x2 = 0 then
            gw_bind (F_Th_timesOf (σ4) x1) fun r17 σ18 =>
              some ((0, r17), σ18)
          else
            if x2 = 1 then
              gw_bind (F_Th_neederOf (σ4) x1) fun r14 σ15 =>
                some ((0, r14), σ15)
            else
              gw_bind (F_Th_termOf (σ4) x1) fun r11 σ12 =>
                some ((0, r11), σ12)
        else
          some ((3, 0), σ4)
    else
      some ((k2, 0), σ4)
def F_Gw_ring (σ : St) (x1 : Int32) : Option ((Nat × Int32) × St) :=
  gw_bind (F_Wa_ringThing (σ) x1) fun r2 σ3 =>
    if r2 = (-1) then
      some ((1, 0), σ3)
    else
      some ((0, r2), σ3)
def F_Gw_entry (σ : St) (x1 : Int32) : Option ((Nat × Int32) × St) :=
  gw_bind (F_Ro_has (σ) x1) fun r2 σ3 =>
    if r2 = 0 then
      some ((1, 0), σ3)
    else
      gw_bind (F_Ro_kindOf (σ3) x1) fun r6 σ7 =>
        some ((0, r6), σ7)
def F_Gw_collect (σ : St) : Option ((Nat × Int32) × St) :=
  gw_bindT (F_Gw_refuseMissingRun (σ)) fun k2 r3 σ4 =>
    if k2 = 0 then
      gw_bind (F_Wa_sweepUnreached (σ4)) fun r7 σ8 =>
        some ((0, r7), σ8)
    else
      some ((k2, 0), σ4)
def F_Gw_every (σ : St) (x1 : Int32) : Option ((Nat × Int32) × St) :=
  if x1 < 0 then
    some ((3, 0), σ)
  else
    if x1 ≤ 5000 then
      some ((0, σ.1 10), (sv σ 10 x1))
    else
      some ((3, 0), σ)
abbrev rm_Gw_refuseTermBeyondMost : Room := { frames := 6, cells := 1, slots := 6, locals := 82 }
abbrev rm_Gw_number : Room := { frames := 7, cells := 1, slots := 6, locals := 102 }
abbrev rm_Gw_variable : Room := { frames := 7, cells := 1, slots := 6, locals := 102 }
abbrev rm_Gw_refuseMissingTerm : Room := { frames := 6, cells := 1, slots := 6, locals := 82 }
abbrev rm_Gw_one : Room := { frames := 7, cells := 1, slots := 6, locals := 103 }
abbrev rm_Gw_two : Room := { frames := 7, cells := 1, slots := 6, locals := 103 }
abbrev rm_Gw_choose : Room := { frames := 7, cells := 1, slots := 6, locals := 103 }
abbrev rm_Gw_lacks : Room := { frames := 7, cells := 1, slots := 6, locals := 103 }
abbrev rm_Gw_begin : Room := { frames := 7, cells := 1, slots := 6, locals := 103 }
abbrev rm_Gw_refuseMissingRun : Room := { frames := 6, cells := 1, slots := 6, locals := 82 }
abbrev rm_Gw_run : Room := { frames := 7, cells := 1, slots := 6, locals := 151 }
abbrev rm_Gw_into : Room := { frames := 6, cells := 1, slots := 6, locals := 82 }
abbrev rm_Gw_told : Room := { frames := 6, cells := 1, slots := 6, locals := 82 }
abbrev rm_Gw_refuseMissingThing : Room := { frames := 6, cells := 1, slots := 6, locals := 82 }
abbrev rm_Gw_thing : Room := { frames := 7, cells := 1, slots := 6, locals := 103 }
abbrev rm_Gw_worked : Room := { frames := 7, cells := 1, slots := 6, locals := 103 }
abbrev rm_Gw_ring : Room := { frames := 6, cells := 1, slots := 6, locals := 82 }
abbrev rm_Gw_entry : Room := { frames := 6, cells := 1, slots := 6, locals := 82 }
abbrev rm_Gw_collect : Room := { frames := 7, cells := 1, slots := 6, locals := 131 }
abbrev rm_Gw_every : Room := { frames := 6, cells := 1, slots := 6, locals := 82 }
theorem fg_Gw_19 {p : Program} {l : Launch} {e : Env} {R : Room} {s : State} {m : MethodId} {args : Array Value} {below : List Frame} {meth : Method} {c : Code} {Q : State → Prop} {cc : ByteArray} {nL : Nat} {D : va_G} {A : Nat → Prop} {cells slots : Nat} {lv : List (Nat × Value)} {pc : Nat} {st : List Value} {ad : Nat → Nat} {cI cL cZ : ClassId} {σ : St} (C : gw_C p s m args meth c cc nL R_Gw D gw_cl (gw_ty cI cL cZ) A) (hdg : decode cc pc = .ok (.getfield 19, 3)) (kk : gw_W p l e R s m args below meth c D gw_cl A Q cells slots nL (wC ad cI cL cZ σ) lv (pc + 3) (.ref (ad 2) :: st)) : gw_W p l e R s m args below meth c D gw_cl A Q cells slots nL (wC ad cI cL cZ σ) lv pc (.ref (ad 1) :: st) := by
  exact gw_getN (K := R_Wa) (T := T_Wa) (N := 17) C 0 i_Wa rfl (by decide) tb_194 1 rfl rfl hdg kk
theorem fg_Gw_96 {p : Program} {l : Launch} {e : Env} {R : Room} {s : State} {m : MethodId} {args : Array Value} {below : List Frame} {meth : Method} {c : Code} {Q : State → Prop} {cc : ByteArray} {nL : Nat} {D : va_G} {A : Nat → Prop} {cells slots : Nat} {lv : List (Nat × Value)} {pc : Nat} {st : List Value} {ad : Nat → Nat} {cI cL cZ : ClassId} {σ : St} {v : Int32} (C : gw_C p s m args meth c cc nL R_Gw D gw_cl (gw_ty cI cL cZ) A) (hv : σ.1 20 = v) (hdg : decode cc pc = .ok (.getfield 96, 3)) (kk : gw_W p l e R s m args below meth c D gw_cl A Q cells slots nL (wC ad cI cL cZ σ) lv (pc + 3) (.int v :: st)) : gw_W p l e R s m args below meth c D gw_cl A Q cells slots nL (wC ad cI cL cZ σ) lv pc (.ref (ad 6) :: st) := by
  subst hv; exact gw_getN (K := R_Va) (T := T_Va) (N := 4) C 2 i_Va rfl (by decide) tb_177 6 rfl rfl hdg kk
theorem fg_Gw_99 {p : Program} {l : Launch} {e : Env} {R : Room} {s : State} {m : MethodId} {args : Array Value} {below : List Frame} {meth : Method} {c : Code} {Q : State → Prop} {cc : ByteArray} {nL : Nat} {D : va_G} {A : Nat → Prop} {cells slots : Nat} {lv : List (Nat × Value)} {pc : Nat} {st : List Value} {ad : Nat → Nat} {cI cL cZ : ClassId} {σ : St} {v : Int32} (C : gw_C p s m args meth c cc nL R_Gw D gw_cl (gw_ty cI cL cZ) A) (hv : σ.1 21 = v) (hdg : decode cc pc = .ok (.getfield 99, 3)) (kk : gw_W p l e R s m args below meth c D gw_cl A Q cells slots nL (wC ad cI cL cZ σ) lv (pc + 3) (.int v :: st)) : gw_W p l e R s m args below meth c D gw_cl A Q cells slots nL (wC ad cI cL cZ σ) lv pc (.ref (ad 6) :: st) := by
  subst hv; exact gw_getN (K := R_Va) (T := T_Va) (N := 4) C 3 i_Va rfl (by decide) tb_181 6 rfl rfl hdg kk
theorem fg_Gw_117 {p : Program} {l : Launch} {e : Env} {R : Room} {s : State} {m : MethodId} {args : Array Value} {below : List Frame} {meth : Method} {c : Code} {Q : State → Prop} {cc : ByteArray} {nL : Nat} {D : va_G} {A : Nat → Prop} {cells slots : Nat} {lv : List (Nat × Value)} {pc : Nat} {st : List Value} {ad : Nat → Nat} {cI cL cZ : ClassId} {σ : St} (C : gw_C p s m args meth c cc nL R_Gw D gw_cl (gw_ty cI cL cZ) A) (hdg : decode cc pc = .ok (.getfield 117, 3)) (kk : gw_W p l e R s m args below meth c D gw_cl A Q cells slots nL (wC ad cI cL cZ σ) lv (pc + 3) (.ref (ad 4) :: st)) : gw_W p l e R s m args below meth c D gw_cl A Q cells slots nL (wC ad cI cL cZ σ) lv pc (.ref (ad 1) :: st) := by
  exact gw_getN (K := R_Wa) (T := T_Wa) (N := 17) C 2 i_Wa rfl (by decide) tb_197 1 rfl rfl hdg kk
theorem fg_Gw_145 {p : Program} {l : Launch} {e : Env} {R : Room} {s : State} {m : MethodId} {args : Array Value} {below : List Frame} {meth : Method} {c : Code} {Q : State → Prop} {cc : ByteArray} {nL : Nat} {D : va_G} {A : Nat → Prop} {cells slots : Nat} {lv : List (Nat × Value)} {pc : Nat} {st : List Value} {ad : Nat → Nat} {cI cL cZ : ClassId} {σ : St} (C : gw_C p s m args meth c cc nL R_Gw D gw_cl (gw_ty cI cL cZ) A) (hdg : decode cc pc = .ok (.getfield 145, 3)) (kk : gw_W p l e R s m args below meth c D gw_cl A Q cells slots nL (wC ad cI cL cZ σ) lv (pc + 3) (.ref (ad 5) :: st)) : gw_W p l e R s m args below meth c D gw_cl A Q cells slots nL (wC ad cI cL cZ σ) lv pc (.ref (ad 1) :: st) := by
  exact gw_getN (K := R_Wa) (T := T_Wa) (N := 17) C 3 i_Wa rfl (by decide) tb_199 1 rfl rfl hdg kk
theorem fg_Gw_166 {p : Program} {l : Launch} {e : Env} {R : Room} {s : State} {m : MethodId} {args : Array Value} {below : List Frame} {meth : Method} {c : Code} {Q : State → Prop} {cc : ByteArray} {nL : Nat} {D : va_G} {A : Nat → Prop} {cells slots : Nat} {lv : List (Nat × Value)} {pc : Nat} {st : List Value} {ad : Nat → Nat} {cI cL cZ : ClassId} {σ : St} {v : Int32} (C : gw_C p s m args meth c cc nL R_Gw D gw_cl (gw_ty cI cL cZ) A) (hv : σ.1 10 = v) (hdg : decode cc pc = .ok (.getfield 166, 3)) (kk : gw_W p l e R s m args below meth c D gw_cl A Q cells slots nL (wC ad cI cL cZ σ) lv (pc + 3) (.int v :: st)) : gw_W p l e R s m args below meth c D gw_cl A Q cells slots nL (wC ad cI cL cZ σ) lv pc (.ref (ad 1) :: st) := by
  subst hv; exact gw_getN (K := R_Wa) (T := T_Wa) (N := 17) C 15 i_Wa rfl (by decide) tb_214 1 rfl rfl hdg kk
theorem fp_Gw_166 {p : Program} {l : Launch} {e : Env} {R : Room} {s : State} {m : MethodId} {args : Array Value} {below : List Frame} {meth : Method} {c : Code} {Q : State → Prop} {cc : ByteArray} {nL : Nat} {D : va_G} {A : Nat → Prop} {cells slots : Nat} {lv : List (Nat × Value)} {pc : Nat} {st : List Value} {ad : Nat → Nat} {cI cL cZ : ClassId} {σ : St} {x : Int32} (C : gw_C p s m args meth c cc nL R_Gw D gw_cl (gw_ty cI cL cZ) A) (hdg : decode cc pc = .ok (.putfield 166, 3)) (kk : gw_W p l e R s m args below meth c D gw_cl A Q cells slots nL (wC ad cI cL cZ (sv σ 10 x)) lv (pc + 3) st) : gw_W p l e R s m args below meth c D gw_cl A Q cells slots nL (wC ad cI cL cZ σ) lv pc (.int x :: .ref (ad 1) :: st) :=
  gw_putN (K := R_Wa) (T := T_Wa) (N := 17) (ty := .int) C 15 i_Wa t_Wa t_Wa_ok n_Wa rfl (by decide) tb_214 rfl (by decide +kernel) 1 rfl rfl rfl (Nat.le_of_ble_eq_true rfl) hdg (wswC_v10 ad cI cL cZ σ x) kk
theorem fcT_Gw_16 {p : Program} {l : Launch} {e : Env} {R : Room} {s : State} {m : MethodId} {args : Array Value} {below : List Frame} {meth : Method} {c : Code} {cc : ByteArray} {nL : Nat} {D : va_G} {A : Nat → Prop} {lv : List (Nat × Value)} {pc : Nat} {st : List Value} {ad : Nat → Nat} {cI cL cZ : ClassId} {σ σ' : St} {As : List Value} {o : Option Value} {σF : St} {k kF : Nat} {oF : Option Value} (CT : gw_CT l p s m args meth c cc nL R_Gw D gw_cl (gw_ty cI cL cZ) A) (hM : gw_MT l y_Gw_refuseTermBeyondMost w_Gw_refuseTermBeyondMost rm_Gw_refuseTermBeyondMost D gw_cl (gw_ty cI cL cZ) (.ref (ad 0) :: As) (wC ad cI cL cZ σ) (wC ad cI cL cZ σ') k o) (hR : rm_Gw_refuseTermBeyondMost.frames + 1 ≤ R.frames ∧ 8 + (1 + 11) + rm_Gw_refuseTermBeyondMost.locals ≤ R.locals) (hf : 0 + rm_Gw_refuseTermBeyondMost.cells ≤ R.cells ∧ 0 + rm_Gw_refuseTermBeyondMost.slots ≤ R.slots) (hn : As.length = 0) (hW : (st.map fun v => v.category).sum ≤ 8) (hdg : decode cc pc = .ok (.invokevirtual 16, 3)) (hem : c.exceptionTable.isEmpty = true) (kk : k = 0 → gw_W p l e R s m args below meth c D gw_cl A (MQT below (gw_QcT D gw_cl (wC ad cI cL cZ σF) kF oF A) args s (gw_kc kF) (gw_ks kF) A) 0 0 nL (wC ad cI cL cZ σ') lv (pc + 3) (o.toList ++ st)) (kt : k ≠ 0 → kF = k ∧ (wC ad cI cL cZ σF) = (wC ad cI cL cZ σ')) : gw_W p l e R s m args below meth c D gw_cl A (MQT below (gw_QcT D gw_cl (wC ad cI cL cZ σF) kF oF A) args s (gw_kc kF) (gw_ks kF) A) 0 0 nL (wC ad cI cL cZ σ) lv pc (As.reverse ++ .ref (ad 0) :: st) :=
  gw_callVT (T := T_Gw) (N := 1) (q0 := 0) CT hM tb_278 tb_275 tb_277 sl_Gw_refuseTermBeyondMost tbI_Gw (by decide +kernel) hR hf rfl rfl hn hW hdg hem kk kt
theorem fc_Gw_23 {p : Program} {l : Launch} {e : Env} {R : Room} {s : State} {m : MethodId} {args : Array Value} {below : List Frame} {meth : Method} {c : Code} {Q : State → Prop} {cc : ByteArray} {nL : Nat} {D : va_G} {A : Nat → Prop} {cells slots : Nat} {lv : List (Nat × Value)} {pc : Nat} {st : List Value} {ad : Nat → Nat} {cI cL cZ : ClassId} {σ σ' : St} {As : List Value} {o : Option Value} (C : gw_C p s m args meth c cc nL R_Gw D gw_cl (gw_ty cI cL cZ) A) (hM : gw_M l y_Te_addNumber w_Te_addNumber rm_Te_addNumber D gw_cl (gw_ty cI cL cZ) (.ref (ad 2) :: As) (wC ad cI cL cZ σ) (wC ad cI cL cZ σ') o) (hR : rm_Te_addNumber.frames + 1 ≤ R.frames ∧ 8 + (3 + 11) + rm_Te_addNumber.locals ≤ R.locals) (hf : cells + 0 ≤ R.cells ∧ slots + 0 ≤ R.slots) (hn : As.length = 1) (hW : (st.map fun v => v.category).sum ≤ 8) (hdg : decode cc pc = .ok (.invokevirtual 23, 3)) (kk : gw_W p l e R s m args below meth c D gw_cl A Q cells slots nL (wC ad cI cL cZ σ') lv (pc + 3) (o.toList ++ st)) : gw_W p l e R s m args below meth c D gw_cl A Q cells slots nL (wC ad cI cL cZ σ) lv pc (As.reverse ++ .ref (ad 2) :: st) :=
  gw_callV (T := T_Te) (N := 7) (q0 := 2) C hM (gw_good tb_354) tb_351 tb_352 tb_353 tb_3 (by decide +kernel) hR hf rfl rfl rfl rfl hn hW hdg kk
theorem fc_Gw_36 {p : Program} {l : Launch} {e : Env} {R : Room} {s : State} {m : MethodId} {args : Array Value} {below : List Frame} {meth : Method} {c : Code} {Q : State → Prop} {cc : ByteArray} {nL : Nat} {D : va_G} {A : Nat → Prop} {cells slots : Nat} {lv : List (Nat × Value)} {pc : Nat} {st : List Value} {ad : Nat → Nat} {cI cL cZ : ClassId} {σ σ' : St} {As : List Value} {o : Option Value} (C : gw_C p s m args meth c cc nL R_Gw D gw_cl (gw_ty cI cL cZ) A) (hM : gw_M l y_Te_addVariable w_Te_addVariable rm_Te_addVariable D gw_cl (gw_ty cI cL cZ) (.ref (ad 2) :: As) (wC ad cI cL cZ σ) (wC ad cI cL cZ σ') o) (hR : rm_Te_addVariable.frames + 1 ≤ R.frames ∧ 8 + (2 + 11) + rm_Te_addVariable.locals ≤ R.locals) (hf : cells + 0 ≤ R.cells ∧ slots + 0 ≤ R.slots) (hn : As.length = 1) (hW : (st.map fun v => v.category).sum ≤ 8) (hdg : decode cc pc = .ok (.invokevirtual 36, 3)) (kk : gw_W p l e R s m args below meth c D gw_cl A Q cells slots nL (wC ad cI cL cZ σ') lv (pc + 3) (o.toList ++ st)) : gw_W p l e R s m args below meth c D gw_cl A Q cells slots nL (wC ad cI cL cZ σ) lv pc (As.reverse ++ .ref (ad 2) :: st) :=
  gw_callV (T := T_Te) (N := 7) (q0 := 2) C hM (gw_good tb_386) tb_383 tb_384 tb_385 tb_3 (by decide +kernel) hR hf rfl rfl rfl rfl hn hW hdg kk
theorem fcT_Gw_40 {p : Program} {l : Launch} {e : Env} {R : Room} {s : State} {m : MethodId} {args : Array Value} {below : List Frame} {meth : Method} {c : Code} {cc : ByteArray} {nL : Nat} {D : va_G} {A : Nat → Prop} {lv : List (Nat × Value)} {pc : Nat} {st : List Value} {ad : Nat → Nat} {cI cL cZ : ClassId} {σ σ' : St} {As : List Value} {o : Option Value} {σF : St} {k kF : Nat} {oF : Option Value} (CT : gw_CT l p s m args meth c cc nL R_Gw D gw_cl (gw_ty cI cL cZ) A) (hM : gw_MT l y_Gw_refuseMissingTerm w_Gw_refuseMissingTerm rm_Gw_refuseMissingTerm D gw_cl (gw_ty cI cL cZ) (.ref (ad 0) :: As) (wC ad cI cL cZ σ) (wC ad cI cL cZ σ') k o) (hR : rm_Gw_refuseMissingTerm.frames + 1 ≤ R.frames ∧ 8 + (2 + 11) + rm_Gw_refuseMissingTerm.locals ≤ R.locals) (hf : 0 + rm_Gw_refuseMissingTerm.cells ≤ R.cells ∧ 0 + rm_Gw_refuseMissingTerm.slots ≤ R.slots) (hn : As.length = 1) (hW : (st.map fun v => v.category).sum ≤ 8) (hdg : decode cc pc = .ok (.invokevirtual 40, 3)) (hem : c.exceptionTable.isEmpty = true) (kk : k = 0 → gw_W p l e R s m args below meth c D gw_cl A (MQT below (gw_QcT D gw_cl (wC ad cI cL cZ σF) kF oF A) args s (gw_kc kF) (gw_ks kF) A) 0 0 nL (wC ad cI cL cZ σ') lv (pc + 3) (o.toList ++ st)) (kt : k ≠ 0 → kF = k ∧ (wC ad cI cL cZ σF) = (wC ad cI cL cZ σ')) : gw_W p l e R s m args below meth c D gw_cl A (MQT below (gw_QcT D gw_cl (wC ad cI cL cZ σF) kF oF A) args s (gw_kc kF) (gw_ks kF) A) 0 0 nL (wC ad cI cL cZ σ) lv pc (As.reverse ++ .ref (ad 0) :: st) :=
  gw_callVT (T := T_Gw) (N := 1) (q0 := 0) CT hM tb_398 tb_395 tb_397 sl_Gw_refuseMissingTerm tbI_Gw (by decide +kernel) hR hf rfl rfl hn hW hdg hem kk kt
theorem fc_Gw_46 {p : Program} {l : Launch} {e : Env} {R : Room} {s : State} {m : MethodId} {args : Array Value} {below : List Frame} {meth : Method} {c : Code} {Q : State → Prop} {cc : ByteArray} {nL : Nat} {D : va_G} {A : Nat → Prop} {cells slots : Nat} {lv : List (Nat × Value)} {pc : Nat} {st : List Value} {ad : Nat → Nat} {cI cL cZ : ClassId} {σ σ' : St} {As : List Value} {o : Option Value} (C : gw_C p s m args meth c cc nL R_Gw D gw_cl (gw_ty cI cL cZ) A) (hM : gw_M l y_Te_addOne w_Te_addOne rm_Te_addOne D gw_cl (gw_ty cI cL cZ) (.ref (ad 2) :: As) (wC ad cI cL cZ σ) (wC ad cI cL cZ σ') o) (hR : rm_Te_addOne.frames + 1 ≤ R.frames ∧ 8 + (3 + 11) + rm_Te_addOne.locals ≤ R.locals) (hf : cells + 0 ≤ R.cells ∧ slots + 0 ≤ R.slots) (hn : As.length = 2) (hW : (st.map fun v => v.category).sum ≤ 8) (hdg : decode cc pc = .ok (.invokevirtual 46, 3)) (kk : gw_W p l e R s m args below meth c D gw_cl A Q cells slots nL (wC ad cI cL cZ σ') lv (pc + 3) (o.toList ++ st)) : gw_W p l e R s m args below meth c D gw_cl A Q cells slots nL (wC ad cI cL cZ σ) lv pc (As.reverse ++ .ref (ad 2) :: st) :=
  gw_callV (T := T_Te) (N := 7) (q0 := 2) C hM (gw_good tb_423) tb_420 tb_421 tb_422 tb_3 (by decide +kernel) hR hf rfl rfl rfl rfl hn hW hdg kk
theorem fc_Gw_52 {p : Program} {l : Launch} {e : Env} {R : Room} {s : State} {m : MethodId} {args : Array Value} {below : List Frame} {meth : Method} {c : Code} {Q : State → Prop} {cc : ByteArray} {nL : Nat} {D : va_G} {A : Nat → Prop} {cells slots : Nat} {lv : List (Nat × Value)} {pc : Nat} {st : List Value} {ad : Nat → Nat} {cI cL cZ : ClassId} {σ σ' : St} {As : List Value} {o : Option Value} (C : gw_C p s m args meth c cc nL R_Gw D gw_cl (gw_ty cI cL cZ) A) (hM : gw_M l y_Te_addTwo w_Te_addTwo rm_Te_addTwo D gw_cl (gw_ty cI cL cZ) (.ref (ad 2) :: As) (wC ad cI cL cZ σ) (wC ad cI cL cZ σ') o) (hR : rm_Te_addTwo.frames + 1 ≤ R.frames ∧ 8 + (5 + 11) + rm_Te_addTwo.locals ≤ R.locals) (hf : cells + 0 ≤ R.cells ∧ slots + 0 ≤ R.slots) (hn : As.length = 3) (hW : (st.map fun v => v.category).sum ≤ 8) (hdg : decode cc pc = .ok (.invokevirtual 52, 3)) (kk : gw_W p l e R s m args below meth c D gw_cl A Q cells slots nL (wC ad cI cL cZ σ') lv (pc + 3) (o.toList ++ st)) : gw_W p l e R s m args below meth c D gw_cl A Q cells slots nL (wC ad cI cL cZ σ) lv pc (As.reverse ++ .ref (ad 2) :: st) :=
  gw_callV (T := T_Te) (N := 7) (q0 := 2) C hM (gw_good tb_446) tb_443 tb_444 tb_445 tb_3 (by decide +kernel) hR hf rfl rfl rfl rfl hn hW hdg kk
theorem fc_Gw_56 {p : Program} {l : Launch} {e : Env} {R : Room} {s : State} {m : MethodId} {args : Array Value} {below : List Frame} {meth : Method} {c : Code} {Q : State → Prop} {cc : ByteArray} {nL : Nat} {D : va_G} {A : Nat → Prop} {cells slots : Nat} {lv : List (Nat × Value)} {pc : Nat} {st : List Value} {ad : Nat → Nat} {cI cL cZ : ClassId} {σ σ' : St} {As : List Value} {o : Option Value} (C : gw_C p s m args meth c cc nL R_Gw D gw_cl (gw_ty cI cL cZ) A) (hM : gw_M l y_Te_addChoose w_Te_addChoose rm_Te_addChoose D gw_cl (gw_ty cI cL cZ) (.ref (ad 2) :: As) (wC ad cI cL cZ σ) (wC ad cI cL cZ σ') o) (hR : rm_Te_addChoose.frames + 1 ≤ R.frames ∧ 8 + (5 + 11) + rm_Te_addChoose.locals ≤ R.locals) (hf : cells + 0 ≤ R.cells ∧ slots + 0 ≤ R.slots) (hn : As.length = 3) (hW : (st.map fun v => v.category).sum ≤ 8) (hdg : decode cc pc = .ok (.invokevirtual 56, 3)) (kk : gw_W p l e R s m args below meth c D gw_cl A Q cells slots nL (wC ad cI cL cZ σ') lv (pc + 3) (o.toList ++ st)) : gw_W p l e R s m args below meth c D gw_cl A Q cells slots nL (wC ad cI cL cZ σ) lv pc (As.reverse ++ .ref (ad 2) :: st) :=
  gw_callV (T := T_Te) (N := 7) (q0 := 2) C hM (gw_good tb_457) tb_454 tb_455 tb_456 tb_3 (by decide +kernel) hR hf rfl rfl rfl rfl hn hW hdg kk
theorem fc_Gw_59 {p : Program} {l : Launch} {e : Env} {R : Room} {s : State} {m : MethodId} {args : Array Value} {below : List Frame} {meth : Method} {c : Code} {Q : State → Prop} {cc : ByteArray} {nL : Nat} {D : va_G} {A : Nat → Prop} {cells slots : Nat} {lv : List (Nat × Value)} {pc : Nat} {st : List Value} {ad : Nat → Nat} {cI cL cZ : ClassId} {σ σ' : St} {As : List Value} {o : Option Value} (C : gw_C p s m args meth c cc nL R_Gw D gw_cl (gw_ty cI cL cZ) A) (hM : gw_M l y_Te_lackOf w_Te_lackOf rm_Te_lackOf D gw_cl (gw_ty cI cL cZ) (.ref (ad 2) :: As) (wC ad cI cL cZ σ) (wC ad cI cL cZ σ') o) (hR : rm_Te_lackOf.frames + 1 ≤ R.frames ∧ 8 + (2 + 11) + rm_Te_lackOf.locals ≤ R.locals) (hf : cells + 0 ≤ R.cells ∧ slots + 0 ≤ R.slots) (hn : As.length = 1) (hW : (st.map fun v => v.category).sum ≤ 8) (hdg : decode cc pc = .ok (.invokevirtual 59, 3)) (kk : gw_W p l e R s m args below meth c D gw_cl A Q cells slots nL (wC ad cI cL cZ σ') lv (pc + 3) (o.toList ++ st)) : gw_W p l e R s m args below meth c D gw_cl A Q cells slots nL (wC ad cI cL cZ σ) lv pc (As.reverse ++ .ref (ad 2) :: st) :=
  gw_callV (T := T_Te) (N := 7) (q0 := 2) C hM (gw_good tb_427) tb_465 tb_425 tb_426 tb_3 (by decide +kernel) hR hf rfl rfl rfl rfl hn hW hdg kk
theorem fc_Gw_67 {p : Program} {l : Launch} {e : Env} {R : Room} {s : State} {m : MethodId} {args : Array Value} {below : List Frame} {meth : Method} {c : Code} {Q : State → Prop} {cc : ByteArray} {nL : Nat} {D : va_G} {A : Nat → Prop} {cells slots : Nat} {lv : List (Nat × Value)} {pc : Nat} {st : List Value} {ad : Nat → Nat} {cI cL cZ : ClassId} {σ σ' : St} {As : List Value} {o : Option Value} (C : gw_C p s m args meth c cc nL R_Gw D gw_cl (gw_ty cI cL cZ) A) (hM : gw_M l y_Wa_start w_Wa_start rm_Wa_start D gw_cl (gw_ty cI cL cZ) (.ref (ad 1) :: As) (wC ad cI cL cZ σ) (wC ad cI cL cZ σ') o) (hR : rm_Wa_start.frames + 1 ≤ R.frames ∧ 8 + (3 + 11) + rm_Wa_start.locals ≤ R.locals) (hf : cells + 0 ≤ R.cells ∧ slots + 0 ≤ R.slots) (hn : As.length = 2) (hW : (st.map fun v => v.category).sum ≤ 8) (hdg : decode cc pc = .ok (.invokevirtual 67, 3)) (kk : gw_W p l e R s m args below meth c D gw_cl A Q cells slots nL (wC ad cI cL cZ σ') lv (pc + 3) (o.toList ++ st)) : gw_W p l e R s m args below meth c D gw_cl A Q cells slots nL (wC ad cI cL cZ σ) lv pc (As.reverse ++ .ref (ad 1) :: st) :=
  gw_callV (T := T_Wa) (N := 17) (q0 := 1) C hM (gw_good tb_477) tb_474 tb_475 tb_476 tb_2 (by decide +kernel) hR hf rfl rfl rfl rfl hn hW hdg kk
theorem fcT_Gw_71 {p : Program} {l : Launch} {e : Env} {R : Room} {s : State} {m : MethodId} {args : Array Value} {below : List Frame} {meth : Method} {c : Code} {cc : ByteArray} {nL : Nat} {D : va_G} {A : Nat → Prop} {lv : List (Nat × Value)} {pc : Nat} {st : List Value} {ad : Nat → Nat} {cI cL cZ : ClassId} {σ σ' : St} {As : List Value} {o : Option Value} {σF : St} {k kF : Nat} {oF : Option Value} (CT : gw_CT l p s m args meth c cc nL R_Gw D gw_cl (gw_ty cI cL cZ) A) (hM : gw_MT l y_Gw_refuseMissingRun w_Gw_refuseMissingRun rm_Gw_refuseMissingRun D gw_cl (gw_ty cI cL cZ) (.ref (ad 0) :: As) (wC ad cI cL cZ σ) (wC ad cI cL cZ σ') k o) (hR : rm_Gw_refuseMissingRun.frames + 1 ≤ R.frames ∧ 8 + (1 + 11) + rm_Gw_refuseMissingRun.locals ≤ R.locals) (hf : 0 + rm_Gw_refuseMissingRun.cells ≤ R.cells ∧ 0 + rm_Gw_refuseMissingRun.slots ≤ R.slots) (hn : As.length = 0) (hW : (st.map fun v => v.category).sum ≤ 8) (hdg : decode cc pc = .ok (.invokevirtual 71, 3)) (hem : c.exceptionTable.isEmpty = true) (kk : k = 0 → gw_W p l e R s m args below meth c D gw_cl A (MQT below (gw_QcT D gw_cl (wC ad cI cL cZ σF) kF oF A) args s (gw_kc kF) (gw_ks kF) A) 0 0 nL (wC ad cI cL cZ σ') lv (pc + 3) (o.toList ++ st)) (kt : k ≠ 0 → kF = k ∧ (wC ad cI cL cZ σF) = (wC ad cI cL cZ σ')) : gw_W p l e R s m args below meth c D gw_cl A (MQT below (gw_QcT D gw_cl (wC ad cI cL cZ σF) kF oF A) args s (gw_kc kF) (gw_ks kF) A) 0 0 nL (wC ad cI cL cZ σ) lv pc (As.reverse ++ .ref (ad 0) :: st) :=
  gw_callVT (T := T_Gw) (N := 1) (q0 := 0) CT hM tb_512 tb_509 tb_511 sl_Gw_refuseMissingRun tbI_Gw (by decide +kernel) hR hf rfl rfl hn hW hdg hem kk kt
theorem fc_Gw_80 {p : Program} {l : Launch} {e : Env} {R : Room} {s : State} {m : MethodId} {args : Array Value} {below : List Frame} {meth : Method} {c : Code} {Q : State → Prop} {cc : ByteArray} {nL : Nat} {D : va_G} {A : Nat → Prop} {cells slots : Nat} {lv : List (Nat × Value)} {pc : Nat} {st : List Value} {ad : Nat → Nat} {cI cL cZ : ClassId} {σ σ' : St} {As : List Value} {o : Option Value} (C : gw_C p s m args meth c cc nL R_Gw D gw_cl (gw_ty cI cL cZ) A) (hM : gw_M l y_Wa_step w_Wa_step rm_Wa_step D gw_cl (gw_ty cI cL cZ) (.ref (ad 1) :: As) (wC ad cI cL cZ σ) (wC ad cI cL cZ σ') o) (hR : rm_Wa_step.frames + 1 ≤ R.frames ∧ 8 + (1 + 11) + rm_Wa_step.locals ≤ R.locals) (hf : cells + 0 ≤ R.cells ∧ slots + 0 ≤ R.slots) (hn : As.length = 0) (hW : (st.map fun v => v.category).sum ≤ 8) (hdg : decode cc pc = .ok (.invokevirtual 80, 3)) (kk : gw_W p l e R s m args below meth c D gw_cl A Q cells slots nL (wC ad cI cL cZ σ') lv (pc + 3) (o.toList ++ st)) : gw_W p l e R s m args below meth c D gw_cl A Q cells slots nL (wC ad cI cL cZ σ) lv pc (As.reverse ++ .ref (ad 1) :: st) :=
  gw_callV (T := T_Wa) (N := 17) (q0 := 1) C hM (gw_good tb_518) tb_515 tb_516 tb_517 tb_2 (by decide +kernel) hR hf rfl rfl rfl rfl hn hW hdg kk
theorem fc_Gw_102 {p : Program} {l : Launch} {e : Env} {R : Room} {s : State} {m : MethodId} {args : Array Value} {below : List Frame} {meth : Method} {c : Code} {Q : State → Prop} {cc : ByteArray} {nL : Nat} {D : va_G} {A : Nat → Prop} {cells slots : Nat} {lv : List (Nat × Value)} {pc : Nat} {st : List Value} {ad : Nat → Nat} {cI cL cZ : ClassId} {σ σ' : St} {As : List Value} {o : Option Value} (C : gw_C p s m args meth c cc nL R_Gw D gw_cl (gw_ty cI cL cZ) A) (hM : gw_M l y_Wa_turnTo w_Wa_turnTo rm_Wa_turnTo D gw_cl (gw_ty cI cL cZ) (.ref (ad 1) :: As) (wC ad cI cL cZ σ) (wC ad cI cL cZ σ') o) (hR : rm_Wa_turnTo.frames + 1 ≤ R.frames ∧ 8 + (2 + 11) + rm_Wa_turnTo.locals ≤ R.locals) (hf : cells + 0 ≤ R.cells ∧ slots + 0 ≤ R.slots) (hn : As.length = 1) (hW : (st.map fun v => v.category).sum ≤ 8) (hdg : decode cc pc = .ok (.invokevirtual 102, 3)) (kk : gw_W p l e R s m args below meth c D gw_cl A Q cells slots nL (wC ad cI cL cZ σ') lv (pc + 3) (o.toList ++ st)) : gw_W p l e R s m args below meth c D gw_cl A Q cells slots nL (wC ad cI cL cZ σ) lv pc (As.reverse ++ .ref (ad 1) :: st) :=
  gw_callV (T := T_Wa) (N := 17) (q0 := 1) C hM (gw_good tb_783) tb_780 tb_781 tb_782 tb_2 (by decide +kernel) hR hf rfl rfl rfl rfl hn hW hdg kk
theorem fc_Gw_111 {p : Program} {l : Launch} {e : Env} {R : Room} {s : State} {m : MethodId} {args : Array Value} {below : List Frame} {meth : Method} {c : Code} {Q : State → Prop} {cc : ByteArray} {nL : Nat} {D : va_G} {A : Nat → Prop} {cells slots : Nat} {lv : List (Nat × Value)} {pc : Nat} {st : List Value} {ad : Nat → Nat} {cI cL cZ : ClassId} {σ σ' : St} {As : List Value} {o : Option Value} (C : gw_C p s m args meth c cc nL R_Gw D gw_cl (gw_ty cI cL cZ) A) (hM : gw_M l y_Wa_tally w_Wa_tally rm_Wa_tally D gw_cl (gw_ty cI cL cZ) (.ref (ad 1) :: As) (wC ad cI cL cZ σ) (wC ad cI cL cZ σ') o) (hR : rm_Wa_tally.frames + 1 ≤ R.frames ∧ 8 + (2 + 11) + rm_Wa_tally.locals ≤ R.locals) (hf : cells + 0 ≤ R.cells ∧ slots + 0 ≤ R.slots) (hn : As.length = 1) (hW : (st.map fun v => v.category).sum ≤ 8) (hdg : decode cc pc = .ok (.invokevirtual 111, 3)) (kk : gw_W p l e R s m args below meth c D gw_cl A Q cells slots nL (wC ad cI cL cZ σ') lv (pc + 3) (o.toList ++ st)) : gw_W p l e R s m args below meth c D gw_cl A Q cells slots nL (wC ad cI cL cZ σ) lv pc (As.reverse ++ .ref (ad 1) :: st) :=
  gw_callV (T := T_Wa) (N := 17) (q0 := 1) C hM (gw_good tb_795) tb_792 tb_793 tb_794 tb_2 (by decide +kernel) hR hf rfl rfl rfl rfl hn hW hdg kk
theorem fcT_Gw_114 {p : Program} {l : Launch} {e : Env} {R : Room} {s : State} {m : MethodId} {args : Array Value} {below : List Frame} {meth : Method} {c : Code} {cc : ByteArray} {nL : Nat} {D : va_G} {A : Nat → Prop} {lv : List (Nat × Value)} {pc : Nat} {st : List Value} {ad : Nat → Nat} {cI cL cZ : ClassId} {σ σ' : St} {As : List Value} {o : Option Value} {σF : St} {k kF : Nat} {oF : Option Value} (CT : gw_CT l p s m args meth c cc nL R_Gw D gw_cl (gw_ty cI cL cZ) A) (hM : gw_MT l y_Gw_refuseMissingThing w_Gw_refuseMissingThing rm_Gw_refuseMissingThing D gw_cl (gw_ty cI cL cZ) (.ref (ad 0) :: As) (wC ad cI cL cZ σ) (wC ad cI cL cZ σ') k o) (hR : rm_Gw_refuseMissingThing.frames + 1 ≤ R.frames ∧ 8 + (2 + 11) + rm_Gw_refuseMissingThing.locals ≤ R.locals) (hf : 0 + rm_Gw_refuseMissingThing.cells ≤ R.cells ∧ 0 + rm_Gw_refuseMissingThing.slots ≤ R.slots) (hn : As.length = 1) (hW : (st.map fun v => v.category).sum ≤ 8) (hdg : decode cc pc = .ok (.invokevirtual 114, 3)) (hem : c.exceptionTable.isEmpty = true) (kk : k = 0 → gw_W p l e R s m args below meth c D gw_cl A (MQT below (gw_QcT D gw_cl (wC ad cI cL cZ σF) kF oF A) args s (gw_kc kF) (gw_ks kF) A) 0 0 nL (wC ad cI cL cZ σ') lv (pc + 3) (o.toList ++ st)) (kt : k ≠ 0 → kF = k ∧ (wC ad cI cL cZ σF) = (wC ad cI cL cZ σ')) : gw_W p l e R s m args below meth c D gw_cl A (MQT below (gw_QcT D gw_cl (wC ad cI cL cZ σF) kF oF A) args s (gw_kc kF) (gw_ks kF) A) 0 0 nL (wC ad cI cL cZ σ) lv pc (As.reverse ++ .ref (ad 0) :: st) :=
  gw_callVT (T := T_Gw) (N := 1) (q0 := 0) CT hM tb_806 tb_803 tb_805 sl_Gw_refuseMissingThing tbI_Gw (by decide +kernel) hR hf rfl rfl hn hW hdg hem kk kt
theorem fc_Gw_121 {p : Program} {l : Launch} {e : Env} {R : Room} {s : State} {m : MethodId} {args : Array Value} {below : List Frame} {meth : Method} {c : Code} {Q : State → Prop} {cc : ByteArray} {nL : Nat} {D : va_G} {A : Nat → Prop} {cells slots : Nat} {lv : List (Nat × Value)} {pc : Nat} {st : List Value} {ad : Nat → Nat} {cI cL cZ : ClassId} {σ σ' : St} {As : List Value} {o : Option Value} (C : gw_C p s m args meth c cc nL R_Gw D gw_cl (gw_ty cI cL cZ) A) (hM : gw_M l y_Th_stateOf w_Th_stateOf rm_Th_stateOf D gw_cl (gw_ty cI cL cZ) (.ref (ad 4) :: As) (wC ad cI cL cZ σ) (wC ad cI cL cZ σ') o) (hR : rm_Th_stateOf.frames + 1 ≤ R.frames ∧ 8 + (2 + 11) + rm_Th_stateOf.locals ≤ R.locals) (hf : cells + 0 ≤ R.cells ∧ slots + 0 ≤ R.slots) (hn : As.length = 1) (hW : (st.map fun v => v.category).sum ≤ 8) (hdg : decode cc pc = .ok (.invokevirtual 121, 3)) (kk : gw_W p l e R s m args below meth c D gw_cl A Q cells slots nL (wC ad cI cL cZ σ') lv (pc + 3) (o.toList ++ st)) : gw_W p l e R s m args below meth c D gw_cl A Q cells slots nL (wC ad cI cL cZ σ) lv pc (As.reverse ++ .ref (ad 4) :: st) :=
  gw_callV (T := T_Th) (N := 15) (q0 := 4) C hM (gw_good tb_590) tb_809 tb_588 tb_589 tb_5 (by decide +kernel) hR hf rfl rfl rfl rfl hn hW hdg kk
theorem fc_Gw_128 {p : Program} {l : Launch} {e : Env} {R : Room} {s : State} {m : MethodId} {args : Array Value} {below : List Frame} {meth : Method} {c : Code} {Q : State → Prop} {cc : ByteArray} {nL : Nat} {D : va_G} {A : Nat → Prop} {cells slots : Nat} {lv : List (Nat × Value)} {pc : Nat} {st : List Value} {ad : Nat → Nat} {cI cL cZ : ClassId} {σ σ' : St} {As : List Value} {o : Option Value} (C : gw_C p s m args meth c cc nL R_Gw D gw_cl (gw_ty cI cL cZ) A) (hM : gw_M l y_Th_timesOf w_Th_timesOf rm_Th_timesOf D gw_cl (gw_ty cI cL cZ) (.ref (ad 4) :: As) (wC ad cI cL cZ σ) (wC ad cI cL cZ σ') o) (hR : rm_Th_timesOf.frames + 1 ≤ R.frames ∧ 8 + (2 + 11) + rm_Th_timesOf.locals ≤ R.locals) (hf : cells + 0 ≤ R.cells ∧ slots + 0 ≤ R.slots) (hn : As.length = 1) (hW : (st.map fun v => v.category).sum ≤ 8) (hdg : decode cc pc = .ok (.invokevirtual 128, 3)) (kk : gw_W p l e R s m args below meth c D gw_cl A Q cells slots nL (wC ad cI cL cZ σ') lv (pc + 3) (o.toList ++ st)) : gw_W p l e R s m args below meth c D gw_cl A Q cells slots nL (wC ad cI cL cZ σ) lv pc (As.reverse ++ .ref (ad 4) :: st) :=
  gw_callV (T := T_Th) (N := 15) (q0 := 4) C hM (gw_good tb_821) tb_818 tb_819 tb_820 tb_5 (by decide +kernel) hR hf rfl rfl rfl rfl hn hW hdg kk
theorem fc_Gw_131 {p : Program} {l : Launch} {e : Env} {R : Room} {s : State} {m : MethodId} {args : Array Value} {below : List Frame} {meth : Method} {c : Code} {Q : State → Prop} {cc : ByteArray} {nL : Nat} {D : va_G} {A : Nat → Prop} {cells slots : Nat} {lv : List (Nat × Value)} {pc : Nat} {st : List Value} {ad : Nat → Nat} {cI cL cZ : ClassId} {σ σ' : St} {As : List Value} {o : Option Value} (C : gw_C p s m args meth c cc nL R_Gw D gw_cl (gw_ty cI cL cZ) A) (hM : gw_M l y_Th_neederOf w_Th_neederOf rm_Th_neederOf D gw_cl (gw_ty cI cL cZ) (.ref (ad 4) :: As) (wC ad cI cL cZ σ) (wC ad cI cL cZ σ') o) (hR : rm_Th_neederOf.frames + 1 ≤ R.frames ∧ 8 + (2 + 11) + rm_Th_neederOf.locals ≤ R.locals) (hf : cells + 0 ≤ R.cells ∧ slots + 0 ≤ R.slots) (hn : As.length = 1) (hW : (st.map fun v => v.category).sum ≤ 8) (hdg : decode cc pc = .ok (.invokevirtual 131, 3)) (kk : gw_W p l e R s m args below meth c D gw_cl A Q cells slots nL (wC ad cI cL cZ σ') lv (pc + 3) (o.toList ++ st)) : gw_W p l e R s m args below meth c D gw_cl A Q cells slots nL (wC ad cI cL cZ σ) lv pc (As.reverse ++ .ref (ad 4) :: st) :=
  gw_callV (T := T_Th) (N := 15) (q0 := 4) C hM (gw_good tb_825) tb_822 tb_823 tb_824 tb_5 (by decide +kernel) hR hf rfl rfl rfl rfl hn hW hdg kk
theorem fc_Gw_134 {p : Program} {l : Launch} {e : Env} {R : Room} {s : State} {m : MethodId} {args : Array Value} {below : List Frame} {meth : Method} {c : Code} {Q : State → Prop} {cc : ByteArray} {nL : Nat} {D : va_G} {A : Nat → Prop} {cells slots : Nat} {lv : List (Nat × Value)} {pc : Nat} {st : List Value} {ad : Nat → Nat} {cI cL cZ : ClassId} {σ σ' : St} {As : List Value} {o : Option Value} (C : gw_C p s m args meth c cc nL R_Gw D gw_cl (gw_ty cI cL cZ) A) (hM : gw_M l y_Th_termOf w_Th_termOf rm_Th_termOf D gw_cl (gw_ty cI cL cZ) (.ref (ad 4) :: As) (wC ad cI cL cZ σ) (wC ad cI cL cZ σ') o) (hR : rm_Th_termOf.frames + 1 ≤ R.frames ∧ 8 + (2 + 11) + rm_Th_termOf.locals ≤ R.locals) (hf : cells + 0 ≤ R.cells ∧ slots + 0 ≤ R.slots) (hn : As.length = 1) (hW : (st.map fun v => v.category).sum ≤ 8) (hdg : decode cc pc = .ok (.invokevirtual 134, 3)) (kk : gw_W p l e R s m args below meth c D gw_cl A Q cells slots nL (wC ad cI cL cZ σ') lv (pc + 3) (o.toList ++ st)) : gw_W p l e R s m args below meth c D gw_cl A Q cells slots nL (wC ad cI cL cZ σ) lv pc (As.reverse ++ .ref (ad 4) :: st) :=
  gw_callV (T := T_Th) (N := 15) (q0 := 4) C hM (gw_good tb_679) tb_826 tb_677 tb_678 tb_5 (by decide +kernel) hR hf rfl rfl rfl rfl hn hW hdg kk
theorem fc_Gw_137 {p : Program} {l : Launch} {e : Env} {R : Room} {s : State} {m : MethodId} {args : Array Value} {below : List Frame} {meth : Method} {c : Code} {Q : State → Prop} {cc : ByteArray} {nL : Nat} {D : va_G} {A : Nat → Prop} {cells slots : Nat} {lv : List (Nat × Value)} {pc : Nat} {st : List Value} {ad : Nat → Nat} {cI cL cZ : ClassId} {σ σ' : St} {As : List Value} {o : Option Value} (C : gw_C p s m args meth c cc nL R_Gw D gw_cl (gw_ty cI cL cZ) A) (hM : gw_M l y_Wa_ringThing w_Wa_ringThing rm_Wa_ringThing D gw_cl (gw_ty cI cL cZ) (.ref (ad 1) :: As) (wC ad cI cL cZ σ) (wC ad cI cL cZ σ') o) (hR : rm_Wa_ringThing.frames + 1 ≤ R.frames ∧ 8 + (5 + 11) + rm_Wa_ringThing.locals ≤ R.locals) (hf : cells + 0 ≤ R.cells ∧ slots + 0 ≤ R.slots) (hn : As.length = 1) (hW : (st.map fun v => v.category).sum ≤ 8) (hdg : decode cc pc = .ok (.invokevirtual 137, 3)) (kk : gw_W p l e R s m args below meth c D gw_cl A Q cells slots nL (wC ad cI cL cZ σ') lv (pc + 3) (o.toList ++ st)) : gw_W p l e R s m args below meth c D gw_cl A Q cells slots nL (wC ad cI cL cZ σ) lv pc (As.reverse ++ .ref (ad 1) :: st) :=
  gw_callV (T := T_Wa) (N := 17) (q0 := 1) C hM (gw_good tb_837) tb_834 tb_835 tb_836 tb_2 (by decide +kernel) hR hf rfl rfl rfl rfl hn hW hdg kk
theorem fc_Gw_149 {p : Program} {l : Launch} {e : Env} {R : Room} {s : State} {m : MethodId} {args : Array Value} {below : List Frame} {meth : Method} {c : Code} {Q : State → Prop} {cc : ByteArray} {nL : Nat} {D : va_G} {A : Nat → Prop} {cells slots : Nat} {lv : List (Nat × Value)} {pc : Nat} {st : List Value} {ad : Nat → Nat} {cI cL cZ : ClassId} {σ σ' : St} {As : List Value} {o : Option Value} (C : gw_C p s m args meth c cc nL R_Gw D gw_cl (gw_ty cI cL cZ) A) (hM : gw_M l y_Ro_has w_Ro_has rm_Ro_has D gw_cl (gw_ty cI cL cZ) (.ref (ad 5) :: As) (wC ad cI cL cZ σ) (wC ad cI cL cZ σ') o) (hR : rm_Ro_has.frames + 1 ≤ R.frames ∧ 8 + (2 + 11) + rm_Ro_has.locals ≤ R.locals) (hf : cells + 0 ≤ R.cells ∧ slots + 0 ≤ R.slots) (hn : As.length = 1) (hW : (st.map fun v => v.category).sum ≤ 8) (hdg : decode cc pc = .ok (.invokevirtual 149, 3)) (kk : gw_W p l e R s m args below meth c D gw_cl A Q cells slots nL (wC ad cI cL cZ σ') lv (pc + 3) (o.toList ++ st)) : gw_W p l e R s m args below meth c D gw_cl A Q cells slots nL (wC ad cI cL cZ σ) lv pc (As.reverse ++ .ref (ad 5) :: st) :=
  gw_callV (T := T_Ro) (N := 6) (q0 := 5) C hM (gw_good tb_570) tb_846 tb_568 tb_569 tb_6 (by decide +kernel) hR hf rfl rfl rfl rfl hn hW hdg kk
theorem fc_Gw_157 {p : Program} {l : Launch} {e : Env} {R : Room} {s : State} {m : MethodId} {args : Array Value} {below : List Frame} {meth : Method} {c : Code} {Q : State → Prop} {cc : ByteArray} {nL : Nat} {D : va_G} {A : Nat → Prop} {cells slots : Nat} {lv : List (Nat × Value)} {pc : Nat} {st : List Value} {ad : Nat → Nat} {cI cL cZ : ClassId} {σ σ' : St} {As : List Value} {o : Option Value} (C : gw_C p s m args meth c cc nL R_Gw D gw_cl (gw_ty cI cL cZ) A) (hM : gw_M l y_Ro_kindOf w_Ro_kindOf rm_Ro_kindOf D gw_cl (gw_ty cI cL cZ) (.ref (ad 5) :: As) (wC ad cI cL cZ σ) (wC ad cI cL cZ σ') o) (hR : rm_Ro_kindOf.frames + 1 ≤ R.frames ∧ 8 + (2 + 11) + rm_Ro_kindOf.locals ≤ R.locals) (hf : cells + 0 ≤ R.cells ∧ slots + 0 ≤ R.slots) (hn : As.length = 1) (hW : (st.map fun v => v.category).sum ≤ 8) (hdg : decode cc pc = .ok (.invokevirtual 157, 3)) (kk : gw_W p l e R s m args below meth c D gw_cl A Q cells slots nL (wC ad cI cL cZ σ') lv (pc + 3) (o.toList ++ st)) : gw_W p l e R s m args below meth c D gw_cl A Q cells slots nL (wC ad cI cL cZ σ) lv pc (As.reverse ++ .ref (ad 5) :: st) :=
  gw_callV (T := T_Ro) (N := 6) (q0 := 5) C hM (gw_good tb_566) tb_848 tb_564 tb_565 tb_6 (by decide +kernel) hR hf rfl rfl rfl rfl hn hW hdg kk
theorem fc_Gw_160 {p : Program} {l : Launch} {e : Env} {R : Room} {s : State} {m : MethodId} {args : Array Value} {below : List Frame} {meth : Method} {c : Code} {Q : State → Prop} {cc : ByteArray} {nL : Nat} {D : va_G} {A : Nat → Prop} {cells slots : Nat} {lv : List (Nat × Value)} {pc : Nat} {st : List Value} {ad : Nat → Nat} {cI cL cZ : ClassId} {σ σ' : St} {As : List Value} {o : Option Value} (C : gw_C p s m args meth c cc nL R_Gw D gw_cl (gw_ty cI cL cZ) A) (hM : gw_M l y_Wa_sweepUnreached w_Wa_sweepUnreached rm_Wa_sweepUnreached D gw_cl (gw_ty cI cL cZ) (.ref (ad 1) :: As) (wC ad cI cL cZ σ) (wC ad cI cL cZ σ') o) (hR : rm_Wa_sweepUnreached.frames + 1 ≤ R.frames ∧ 8 + (2 + 11) + rm_Wa_sweepUnreached.locals ≤ R.locals) (hf : cells + 0 ≤ R.cells ∧ slots + 0 ≤ R.slots) (hn : As.length = 0) (hW : (st.map fun v => v.category).sum ≤ 8) (hdg : decode cc pc = .ok (.invokevirtual 160, 3)) (kk : gw_W p l e R s m args below meth c D gw_cl A Q cells slots nL (wC ad cI cL cZ σ') lv (pc + 3) (o.toList ++ st)) : gw_W p l e R s m args below meth c D gw_cl A Q cells slots nL (wC ad cI cL cZ σ) lv pc (As.reverse ++ .ref (ad 1) :: st) :=
  gw_callV (T := T_Wa) (N := 17) (q0 := 1) C hM (gw_good tb_522) tb_856 tb_520 tb_521 tb_2 (by decide +kernel) hR hf rfl rfl rfl rfl hn hW hdg kk
theorem fc_Gw_169 {p : Program} {l : Launch} {e : Env} {R : Room} {s : State} {m : MethodId} {args : Array Value} {below : List Frame} {meth : Method} {c : Code} {Q : State → Prop} {cc : ByteArray} {nL : Nat} {D : va_G} {A : Nat → Prop} {cells slots : Nat} {lv : List (Nat × Value)} {pc : Nat} {st : List Value} {ad : Nat → Nat} {cI cL cZ : ClassId} {σ σ' : St} {As : List Value} {o : Option Value} (C : gw_C p s m args meth c cc nL R_Gw D gw_cl (gw_ty cI cL cZ) A) (hM : gw_M l y_Te_has w_Te_has rm_Te_has D gw_cl (gw_ty cI cL cZ) (.ref (ad 2) :: As) (wC ad cI cL cZ σ) (wC ad cI cL cZ σ') o) (hR : rm_Te_has.frames + 1 ≤ R.frames ∧ 8 + (2 + 11) + rm_Te_has.locals ≤ R.locals) (hf : cells + 0 ≤ R.cells ∧ slots + 0 ≤ R.slots) (hn : As.length = 1) (hW : (st.map fun v => v.category).sum ≤ 8) (hdg : decode cc pc = .ok (.invokevirtual 169, 3)) (kk : gw_W p l e R s m args below meth c D gw_cl A Q cells slots nL (wC ad cI cL cZ σ') lv (pc + 3) (o.toList ++ st)) : gw_W p l e R s m args below meth c D gw_cl A Q cells slots nL (wC ad cI cL cZ σ) lv pc (As.reverse ++ .ref (ad 2) :: st) :=
  gw_callV (T := T_Te) (N := 7) (q0 := 2) C hM (gw_good tb_402) tb_399 tb_400 tb_401 tb_3 (by decide +kernel) hR hf rfl rfl rfl rfl hn hW hdg kk
theorem fc_Gw_172 {p : Program} {l : Launch} {e : Env} {R : Room} {s : State} {m : MethodId} {args : Array Value} {below : List Frame} {meth : Method} {c : Code} {Q : State → Prop} {cc : ByteArray} {nL : Nat} {D : va_G} {A : Nat → Prop} {cells slots : Nat} {lv : List (Nat × Value)} {pc : Nat} {st : List Value} {ad : Nat → Nat} {cI cL cZ : ClassId} {σ σ' : St} {As : List Value} {o : Option Value} (C : gw_C p s m args meth c cc nL R_Gw D gw_cl (gw_ty cI cL cZ) A) (hM : gw_M l y_Te_isFull w_Te_isFull rm_Te_isFull D gw_cl (gw_ty cI cL cZ) (.ref (ad 2) :: As) (wC ad cI cL cZ σ) (wC ad cI cL cZ σ') o) (hR : rm_Te_isFull.frames + 1 ≤ R.frames ∧ 8 + (1 + 11) + rm_Te_isFull.locals ≤ R.locals) (hf : cells + 0 ≤ R.cells ∧ slots + 0 ≤ R.slots) (hn : As.length = 0) (hW : (st.map fun v => v.category).sum ≤ 8) (hdg : decode cc pc = .ok (.invokevirtual 172, 3)) (kk : gw_W p l e R s m args below meth c D gw_cl A Q cells slots nL (wC ad cI cL cZ σ') lv (pc + 3) (o.toList ++ st)) : gw_W p l e R s m args below meth c D gw_cl A Q cells slots nL (wC ad cI cL cZ σ) lv pc (As.reverse ++ .ref (ad 2) :: st) :=
  gw_callV (T := T_Te) (N := 7) (q0 := 2) C hM (gw_good tb_282) tb_279 tb_280 tb_281 tb_3 (by decide +kernel) hR hf rfl rfl rfl rfl hn hW hdg kk
theorem fc_Gw_180 {p : Program} {l : Launch} {e : Env} {R : Room} {s : State} {m : MethodId} {args : Array Value} {below : List Frame} {meth : Method} {c : Code} {Q : State → Prop} {cc : ByteArray} {nL : Nat} {D : va_G} {A : Nat → Prop} {cells slots : Nat} {lv : List (Nat × Value)} {pc : Nat} {st : List Value} {ad : Nat → Nat} {cI cL cZ : ClassId} {σ σ' : St} {As : List Value} {o : Option Value} (C : gw_C p s m args meth c cc nL R_Gw D gw_cl (gw_ty cI cL cZ) A) (hM : gw_M l y_Th_has w_Th_has rm_Th_has D gw_cl (gw_ty cI cL cZ) (.ref (ad 4) :: As) (wC ad cI cL cZ σ) (wC ad cI cL cZ σ') o) (hR : rm_Th_has.frames + 1 ≤ R.frames ∧ 8 + (2 + 11) + rm_Th_has.locals ≤ R.locals) (hf : cells + 0 ≤ R.cells ∧ slots + 0 ≤ R.slots) (hn : As.length = 1) (hW : (st.map fun v => v.category).sum ≤ 8) (hdg : decode cc pc = .ok (.invokevirtual 180, 3)) (kk : gw_W p l e R s m args below meth c D gw_cl A Q cells slots nL (wC ad cI cL cZ σ') lv (pc + 3) (o.toList ++ st)) : gw_W p l e R s m args below meth c D gw_cl A Q cells slots nL (wC ad cI cL cZ σ) lv pc (As.reverse ++ .ref (ad 4) :: st) :=
  gw_callV (T := T_Th) (N := 15) (q0 := 4) C hM (gw_good tb_594) tb_807 tb_592 tb_593 tb_5 (by decide +kernel) hR hf rfl rfl rfl rfl hn hW hdg kk
