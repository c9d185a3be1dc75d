theorem tb_270 : (Jvm.Cond.classLink "GraphWalkerLaw" (13 : Nat) "java/lang/IllegalStateException") ∈ gw_all := List.mem_filter.mpr ⟨List.mem_append_right _ (List.mem_of_getElem? (i := 270) (by decide +kernel)), rfl⟩
theorem tb_271 : (Jvm.Cond.methodLink "GraphWalkerLaw" (7 : Nat) ({ cls := "GraphWalker", name := "number", desc := "(J)I" } : Jvm.MethodName)) ∈ gw_all := List.mem_filter.mpr ⟨List.mem_append_right _ (List.mem_of_getElem? (i := 271) (by decide +kernel)), rfl⟩
theorem tb_272 : (Jvm.Cond.instanceMethod ({ cls := "GraphWalker", name := "number", desc := "(J)I" } : Jvm.MethodName)) ∈ gw_all := List.mem_filter.mpr ⟨List.mem_append_right _ (List.mem_of_getElem? (i := 272) (by decide +kernel)), rfl⟩
theorem tb_273 : (Jvm.Cond.selects "GraphWalker" ({ cls := "GraphWalker", name := "number", desc := "(J)I" } : Jvm.MethodName) ({ cls := "GraphWalker", name := "number", desc := "(J)I" } : Jvm.MethodName)) ∈ gw_all := List.mem_filter.mpr ⟨List.mem_append_right _ (List.mem_of_getElem? (i := 273) (by decide +kernel)), rfl⟩
theorem tb_274 : (Jvm.Cond.code ({ cls := "GraphWalker", name := "number", desc := "(J)I" } : Jvm.MethodName) prog_1_method_2_code (3 : Nat) (Option.some Jvm.ClassFile.FieldType.int)) ∈ gw_T := List.mem_filter.mpr ⟨List.mem_append_right _ (List.mem_of_getElem? (i := 274) (by decide +kernel)), rfl⟩
theorem tb_362 : (Jvm.Cond.classLink "GraphWalkerLaw" (19 : Nat) "java/lang/IllegalArgumentException") ∈ gw_all := List.mem_filter.mpr ⟨List.mem_append_right _ (List.mem_of_getElem? (i := 362) (by decide +kernel)), rfl⟩
theorem tb_363 : (Jvm.Cond.methodLink "GraphWalkerLaw" (15 : Nat) ({ cls := "GraphWalker", name := "variable", desc := "(I)I" } : Jvm.MethodName)) ∈ gw_all := List.mem_filter.mpr ⟨List.mem_append_right _ (List.mem_of_getElem? (i := 363) (by decide +kernel)), rfl⟩
theorem tb_364 : (Jvm.Cond.instanceMethod ({ cls := "GraphWalker", name := "variable", desc := "(I)I" } : Jvm.MethodName)) ∈ gw_all := List.mem_filter.mpr ⟨List.mem_append_right _ (List.mem_of_getElem? (i := 364) (by decide +kernel)), rfl⟩
theorem tb_365 : (Jvm.Cond.selects "GraphWalker" ({ cls := "GraphWalker", name := "variable", desc := "(I)I" } : Jvm.MethodName) ({ cls := "GraphWalker", name := "variable", desc := "(I)I" } : Jvm.MethodName)) ∈ gw_all := List.mem_filter.mpr ⟨List.mem_append_right _ (List.mem_of_getElem? (i := 365) (by decide +kernel)), rfl⟩
theorem tb_366 : (Jvm.Cond.code ({ cls := "GraphWalker", name := "variable", desc := "(I)I" } : Jvm.MethodName) prog_1_method_3_code (2 : Nat) (Option.some Jvm.ClassFile.FieldType.int)) ∈ gw_T := List.mem_filter.mpr ⟨List.mem_append_right _ (List.mem_of_getElem? (i := 366) (by decide +kernel)), rfl⟩
theorem tb_390 : (Jvm.Cond.classLink "GraphWalkerLaw" (25 : Nat) "java/lang/IndexOutOfBoundsException") ∈ gw_all := List.mem_filter.mpr ⟨List.mem_append_right _ (List.mem_of_getElem? (i := 390) (by decide +kernel)), rfl⟩
theorem tb_391 : (Jvm.Cond.methodLink "GraphWalkerLaw" (21 : Nat) ({ cls := "GraphWalker", name := "one", desc := "(II)I" } : Jvm.MethodName)) ∈ gw_all := List.mem_filter.mpr ⟨List.mem_append_right _ (List.mem_of_getElem? (i := 391) (by decide +kernel)), rfl⟩
theorem tb_392 : (Jvm.Cond.instanceMethod ({ cls := "GraphWalker", name := "one", desc := "(II)I" } : Jvm.MethodName)) ∈ gw_all := List.mem_filter.mpr ⟨List.mem_append_right _ (List.mem_of_getElem? (i := 392) (by decide +kernel)), rfl⟩
theorem tb_393 : (Jvm.Cond.selects "GraphWalker" ({ cls := "GraphWalker", name := "one", desc := "(II)I" } : Jvm.MethodName) ({ cls := "GraphWalker", name := "one", desc := "(II)I" } : Jvm.MethodName)) ∈ gw_all := List.mem_filter.mpr ⟨List.mem_append_right _ (List.mem_of_getElem? (i := 393) (by decide +kernel)), rfl⟩
theorem tb_394 : (Jvm.Cond.code ({ cls := "GraphWalker", name := "one", desc := "(II)I" } : Jvm.MethodName) prog_1_method_4_code (3 : Nat) (Option.some Jvm.ClassFile.FieldType.int)) ∈ gw_T := List.mem_filter.mpr ⟨List.mem_append_right _ (List.mem_of_getElem? (i := 394) (by decide +kernel)), rfl⟩
theorem tb_438 : (Jvm.Cond.methodLink "GraphWalkerLaw" (27 : Nat) ({ cls := "GraphWalker", name := "two", desc := "(III)I" } : Jvm.MethodName)) ∈ gw_all := List.mem_filter.mpr ⟨List.mem_append_right _ (List.mem_of_getElem? (i := 438) (by decide +kernel)), rfl⟩
theorem tb_439 : (Jvm.Cond.instanceMethod ({ cls := "GraphWalker", name := "two", desc := "(III)I" } : Jvm.MethodName)) ∈ gw_all := List.mem_filter.mpr ⟨List.mem_append_right _ (List.mem_of_getElem? (i := 439) (by decide +kernel)), rfl⟩
theorem tb_440 : (Jvm.Cond.selects "GraphWalker" ({ cls := "GraphWalker", name := "two", desc := "(III)I" } : Jvm.MethodName) ({ cls := "GraphWalker", name := "two", desc := "(III)I" } : Jvm.MethodName)) ∈ gw_all := List.mem_filter.mpr ⟨List.mem_append_right _ (List.mem_of_getElem? (i := 440) (by decide +kernel)), rfl⟩
theorem tb_441 : (Jvm.Cond.code ({ cls := "GraphWalker", name := "two", desc := "(III)I" } : Jvm.MethodName) prog_1_method_5_code (4 : Nat) (Option.some Jvm.ClassFile.FieldType.int)) ∈ gw_T := List.mem_filter.mpr ⟨List.mem_append_right _ (List.mem_of_getElem? (i := 441) (by decide +kernel)), rfl⟩
theorem tb_450 : (Jvm.Cond.methodLink "GraphWalkerLaw" (31 : Nat) ({ cls := "GraphWalker", name := "choose", desc := "(III)I" } : Jvm.MethodName)) ∈ gw_all := List.mem_filter.mpr ⟨List.mem_append_right _ (List.mem_of_getElem? (i := 450) (by decide +kernel)), rfl⟩
theorem tb_451 : (Jvm.Cond.instanceMethod ({ cls := "GraphWalker", name := "choose", desc := "(III)I" } : Jvm.MethodName)) ∈ gw_all := List.mem_filter.mpr ⟨List.mem_append_right _ (List.mem_of_getElem? (i := 451) (by decide +kernel)), rfl⟩
theorem tb_452 : (Jvm.Cond.selects "GraphWalker" ({ cls := "GraphWalker", name := "choose", desc := "(III)I" } : Jvm.MethodName) ({ cls := "GraphWalker", name := "choose", desc := "(III)I" } : Jvm.MethodName)) ∈ gw_all := List.mem_filter.mpr ⟨List.mem_append_right _ (List.mem_of_getElem? (i := 452) (by decide +kernel)), rfl⟩
theorem tb_453 : (Jvm.Cond.code ({ cls := "GraphWalker", name := "choose", desc := "(III)I" } : Jvm.MethodName) prog_1_method_6_code (4 : Nat) (Option.some Jvm.ClassFile.FieldType.int)) ∈ gw_T := List.mem_filter.mpr ⟨List.mem_append_right _ (List.mem_of_getElem? (i := 453) (by decide +kernel)), rfl⟩
theorem tb_461 : (Jvm.Cond.methodLink "GraphWalkerLaw" (34 : Nat) ({ cls := "GraphWalker", name := "lacks", desc := "(I)I" } : Jvm.MethodName)) ∈ gw_all := List.mem_filter.mpr ⟨List.mem_append_right _ (List.mem_of_getElem? (i := 461) (by decide +kernel)), rfl⟩
theorem tb_462 : (Jvm.Cond.instanceMethod ({ cls := "GraphWalker", name := "lacks", desc := "(I)I" } : Jvm.MethodName)) ∈ gw_all := List.mem_filter.mpr ⟨List.mem_append_right _ (List.mem_of_getElem? (i := 462) (by decide +kernel)), rfl⟩
theorem tb_463 : (Jvm.Cond.selects "GraphWalker" ({ cls := "GraphWalker", name := "lacks", desc := "(I)I" } : Jvm.MethodName) ({ cls := "GraphWalker", name := "lacks", desc := "(I)I" } : Jvm.MethodName)) ∈ gw_all := List.mem_filter.mpr ⟨List.mem_append_right _ (List.mem_of_getElem? (i := 463) (by decide +kernel)), rfl⟩
theorem tb_464 : (Jvm.Cond.code ({ cls := "GraphWalker", name := "lacks", desc := "(I)I" } : Jvm.MethodName) prog_1_method_7_code (2 : Nat) (Option.some Jvm.ClassFile.FieldType.int)) ∈ gw_T := List.mem_filter.mpr ⟨List.mem_append_right _ (List.mem_of_getElem? (i := 464) (by decide +kernel)), rfl⟩
theorem tb_469 : (Jvm.Cond.methodLink "GraphWalkerLaw" (37 : Nat) ({ cls := "GraphWalker", name := "begin", desc := "(IZ)V" } : Jvm.MethodName)) ∈ gw_all := List.mem_filter.mpr ⟨List.mem_append_right _ (List.mem_of_getElem? (i := 469) (by decide +kernel)), rfl⟩
theorem tb_470 : (Jvm.Cond.instanceMethod ({ cls := "GraphWalker", name := "begin", desc := "(IZ)V" } : Jvm.MethodName)) ∈ gw_all := List.mem_filter.mpr ⟨List.mem_append_right _ (List.mem_of_getElem? (i := 470) (by decide +kernel)), rfl⟩
theorem tb_471 : (Jvm.Cond.selects "GraphWalker" ({ cls := "GraphWalker", name := "begin", desc := "(IZ)V" } : Jvm.MethodName) ({ cls := "GraphWalker", name := "begin", desc := "(IZ)V" } : Jvm.MethodName)) ∈ gw_all := List.mem_filter.mpr ⟨List.mem_append_right _ (List.mem_of_getElem? (i := 471) (by decide +kernel)), rfl⟩
theorem tb_472 : (Jvm.Cond.code ({ cls := "GraphWalker", name := "begin", desc := "(IZ)V" } : Jvm.MethodName) prog_1_method_8_code (3 : Nat) (Option.none : Option Jvm.ClassFile.FieldType)) ∈ gw_T := List.mem_filter.mpr ⟨List.mem_append_right _ (List.mem_of_getElem? (i := 472) (by decide +kernel)), rfl⟩
theorem tb_505 : (Jvm.Cond.methodLink "GraphWalkerLaw" (41 : Nat) ({ cls := "GraphWalker", name := "run", desc := "(I)I" } : Jvm.MethodName)) ∈ gw_all := List.mem_filter.mpr ⟨List.mem_append_right _ (List.mem_of_getElem? (i := 505) (by decide +kernel)), rfl⟩
theorem tb_506 : (Jvm.Cond.instanceMethod ({ cls := "GraphWalker", name := "run", desc := "(I)I" } : Jvm.MethodName)) ∈ gw_all := List.mem_filter.mpr ⟨List.mem_append_right _ (List.mem_of_getElem? (i := 506) (by decide +kernel)), rfl⟩
theorem tb_507 : (Jvm.Cond.selects "GraphWalker" ({ cls := "GraphWalker", name := "run", desc := "(I)I" } : Jvm.MethodName) ({ cls := "GraphWalker", name := "run", desc := "(I)I" } : Jvm.MethodName)) ∈ gw_all := List.mem_filter.mpr ⟨List.mem_append_right _ (List.mem_of_getElem? (i := 507) (by decide +kernel)), rfl⟩
theorem tb_508 : (Jvm.Cond.code ({ cls := "GraphWalker", name := "run", desc := "(I)I" } : Jvm.MethodName) prog_1_method_9_code (3 : Nat) (Option.some Jvm.ClassFile.FieldType.int)) ∈ gw_T := List.mem_filter.mpr ⟨List.mem_append_right _ (List.mem_of_getElem? (i := 508) (by decide +kernel)), rfl⟩
theorem tb_774 : (Jvm.Cond.methodLink "GraphWalkerLaw" (44 : Nat) ({ cls := "GraphWalker", name := "into", desc := "(I)V" } : Jvm.MethodName)) ∈ gw_all := List.mem_filter.mpr ⟨List.mem_append_right _ (List.mem_of_getElem? (i := 774) (by decide +kernel)), rfl⟩
theorem tb_775 : (Jvm.Cond.instanceMethod ({ cls := "GraphWalker", name := "into", desc := "(I)V" } : Jvm.MethodName)) ∈ gw_all := List.mem_filter.mpr ⟨List.mem_append_right _ (List.mem_of_getElem? (i := 775) (by decide +kernel)), rfl⟩
theorem tb_776 : (Jvm.Cond.selects "GraphWalker" ({ cls := "GraphWalker", name := "into", desc := "(I)V" } : Jvm.MethodName) ({ cls := "GraphWalker", name := "into", desc := "(I)V" } : Jvm.MethodName)) ∈ gw_all := List.mem_filter.mpr ⟨List.mem_append_right _ (List.mem_of_getElem? (i := 776) (by decide +kernel)), rfl⟩
theorem tb_777 : (Jvm.Cond.code ({ cls := "GraphWalker", name := "into", desc := "(I)V" } : Jvm.MethodName) prog_1_method_10_code (2 : Nat) (Option.none : Option Jvm.ClassFile.FieldType)) ∈ gw_T := List.mem_filter.mpr ⟨List.mem_append_right _ (List.mem_of_getElem? (i := 777) (by decide +kernel)), rfl⟩
theorem tb_787 : (Jvm.Cond.methodLink "GraphWalkerLaw" (48 : Nat) ({ cls := "GraphWalker", name := "told", desc := "(I)I" } : Jvm.MethodName)) ∈ gw_all := List.mem_filter.mpr ⟨List.mem_append_right _ (List.mem_of_getElem? (i := 787) (by decide +kernel)), rfl⟩
theorem tb_788 : (Jvm.Cond.instanceMethod ({ cls := "GraphWalker", name := "told", desc := "(I)I" } : Jvm.MethodName)) ∈ gw_all := List.mem_filter.mpr ⟨List.mem_append_right _ (List.mem_of_getElem? (i := 788) (by decide +kernel)), rfl⟩
theorem tb_789 : (Jvm.Cond.selects "GraphWalker" ({ cls := "GraphWalker", name := "told", desc := "(I)I" } : Jvm.MethodName) ({ cls := "GraphWalker", name := "told", desc := "(I)I" } : Jvm.MethodName)) ∈ gw_all := List.mem_filter.mpr ⟨List.mem_append_right _ (List.mem_of_getElem? (i := 789) (by decide +kernel)), rfl⟩
theorem tb_790 : (Jvm.Cond.code ({ cls := "GraphWalker", name := "told", desc := "(I)I" } : Jvm.MethodName) prog_1_method_14_code (2 : Nat) (Option.some Jvm.ClassFile.FieldType.int)) ∈ gw_T := List.mem_filter.mpr ⟨List.mem_append_right _ (List.mem_of_getElem? (i := 790) (by decide +kernel)), rfl⟩
theorem tb_799 : (Jvm.Cond.methodLink "GraphWalkerLaw" (51 : Nat) ({ cls := "GraphWalker", name := "thing", desc := "(I)I" } : Jvm.MethodName)) ∈ gw_all := List.mem_filter.mpr ⟨List.mem_append_right _ (List.mem_of_getElem? (i := 799) (by decide +kernel)), rfl⟩
theorem tb_800 : (Jvm.Cond.instanceMethod ({ cls := "GraphWalker", name := "thing", desc := "(I)I" } : Jvm.MethodName)) ∈ gw_all := List.mem_filter.mpr ⟨List.mem_append_right _ (List.mem_of_getElem? (i := 800) (by decide +kernel)), rfl⟩
theorem tb_801 : (Jvm.Cond.selects "GraphWalker" ({ cls := "GraphWalker", name := "thing", desc := "(I)I" } : Jvm.MethodName) ({ cls := "GraphWalker", name := "thing", desc := "(I)I" } : Jvm.MethodName)) ∈ gw_all := List.mem_filter.mpr ⟨List.mem_append_right _ (List.mem_of_getElem? (i := 801) (by decide +kernel)), rfl⟩
theorem tb_802 : (Jvm.Cond.code ({ cls := "GraphWalker", name := "thing", desc := "(I)I" } : Jvm.MethodName) prog_1_method_15_code (2 : Nat) (Option.some Jvm.ClassFile.FieldType.int)) ∈ gw_T := List.mem_filter.mpr ⟨List.mem_append_right _ (List.mem_of_getElem? (i := 802) (by decide +kernel)), rfl⟩
theorem tb_813 : (Jvm.Cond.methodLink "GraphWalkerLaw" (54 : Nat) ({ cls := "GraphWalker", name := "worked", desc := "(II)I" } : Jvm.MethodName)) ∈ gw_all := List.mem_filter.mpr ⟨List.mem_append_right _ (List.mem_of_getElem? (i := 813) (by decide +kernel)), rfl⟩
theorem tb_814 : (Jvm.Cond.instanceMethod ({ cls := "GraphWalker", name := "worked", desc := "(II)I" } : Jvm.MethodName)) ∈ gw_all := List.mem_filter.mpr ⟨List.mem_append_right _ (List.mem_of_getElem? (i := 814) (by decide +kernel)), rfl⟩
theorem tb_815 : (Jvm.Cond.selects "GraphWalker" ({ cls := "GraphWalker", name := "worked", desc := "(II)I" } : Jvm.MethodName) ({ cls := "GraphWalker", name := "worked", desc := "(II)I" } : Jvm.MethodName)) ∈ gw_all := List.mem_filter.mpr ⟨List.mem_append_right _ (List.mem_of_getElem? (i := 815) (by decide +kernel)), rfl⟩
theorem tb_816 : (Jvm.Cond.code ({ cls := "GraphWalker", name := "worked", desc := "(II)I" } : Jvm.MethodName) prog_1_method_16_code (3 : Nat) (Option.some Jvm.ClassFile.FieldType.int)) ∈ gw_T := List.mem_filter.mpr ⟨List.mem_append_right _ (List.mem_of_getElem? (i := 816) (by decide +kernel)), rfl⟩
theorem tb_830 : (Jvm.Cond.methodLink "GraphWalkerLaw" (57 : Nat) ({ cls := "GraphWalker", name := "ring", desc := "(I)I" } : Jvm.MethodName)) ∈ gw_all := List.mem_filter.mpr ⟨List.mem_append_right _ (List.mem_of_getElem? (i := 830) (by decide +kernel)), rfl⟩
theorem tb_831 : (Jvm.Cond.instanceMethod ({ cls := "GraphWalker", name := "ring", desc := "(I)I" } : Jvm.MethodName)) ∈ gw_all := List.mem_filter.mpr ⟨List.mem_append_right _ (List.mem_of_getElem? (i := 831) (by decide +kernel)), rfl⟩
theorem tb_832 : (Jvm.Cond.selects "GraphWalker" ({ cls := "GraphWalker", name := "ring", desc := "(I)I" } : Jvm.MethodName) ({ cls := "GraphWalker", name := "ring", desc := "(I)I" } : Jvm.MethodName)) ∈ gw_all := List.mem_filter.mpr ⟨List.mem_append_right _ (List.mem_of_getElem? (i := 832) (by decide +kernel)), rfl⟩
theorem tb_833 : (Jvm.Cond.code ({ cls := "GraphWalker", name := "ring", desc := "(I)I" } : Jvm.MethodName) prog_1_method_17_code (3 : Nat) (Option.some Jvm.ClassFile.FieldType.int)) ∈ gw_T := List.mem_filter.mpr ⟨List.mem_append_right _ (List.mem_of_getElem? (i := 833) (by decide +kernel)), rfl⟩
theorem tb_842 : (Jvm.Cond.methodLink "GraphWalkerLaw" (60 : Nat) ({ cls := "GraphWalker", name := "entry", desc := "(I)I" } : Jvm.MethodName)) ∈ gw_all := List.mem_filter.mpr ⟨List.mem_append_right _ (List.mem_of_getElem? (i := 842) (by decide +kernel)), rfl⟩
theorem tb_843 : (Jvm.Cond.instanceMethod ({ cls := "GraphWalker", name := "entry", desc := "(I)I" } : Jvm.MethodName)) ∈ gw_all := List.mem_filter.mpr ⟨List.mem_append_right _ (List.mem_of_getElem? (i := 843) (by decide +kernel)), rfl⟩
theorem tb_844 : (Jvm.Cond.selects "GraphWalker" ({ cls := "GraphWalker", name := "entry", desc := "(I)I" } : Jvm.MethodName) ({ cls := "GraphWalker", name := "entry", desc := "(I)I" } : Jvm.MethodName)) ∈ gw_all := List.mem_filter.mpr ⟨List.mem_append_right _ (List.mem_of_getElem? (i := 844) (by decide +kernel)), rfl⟩
theorem tb_845 : (Jvm.Cond.code ({ cls := "GraphWalker", name := "entry", desc := "(I)I" } : Jvm.MethodName) prog_1_method_18_code (2 : Nat) (Option.some Jvm.ClassFile.FieldType.int)) ∈ gw_T := List.mem_filter.mpr ⟨List.mem_append_right _ (List.mem_of_getElem? (i := 845) (by decide +kernel)), rfl⟩
theorem tb_852 : (Jvm.Cond.methodLink "GraphWalkerLaw" (63 : Nat) ({ cls := "GraphWalker", name := "collect", desc := "()I" } : Jvm.MethodName)) ∈ gw_all := List.mem_filter.mpr ⟨List.mem_append_right _ (List.mem_of_getElem? (i := 852) (by decide +kernel)), rfl⟩
theorem tb_853 : (Jvm.Cond.instanceMethod ({ cls := "GraphWalker", name := "collect", desc := "()I" } : Jvm.MethodName)) ∈ gw_all := List.mem_filter.mpr ⟨List.mem_append_right _ (List.mem_of_getElem? (i := 853) (by decide +kernel)), rfl⟩
theorem tb_854 : (Jvm.Cond.selects "GraphWalker" ({ cls := "GraphWalker", name := "collect", desc := "()I" } : Jvm.MethodName) ({ cls := "GraphWalker", name := "collect", desc := "()I" } : Jvm.MethodName)) ∈ gw_all := List.mem_filter.mpr ⟨List.mem_append_right _ (List.mem_of_getElem? (i := 854) (by decide +kernel)), rfl⟩
theorem tb_855 : (Jvm.Cond.code ({ cls := "GraphWalker", name := "collect", desc := "()I" } : Jvm.MethodName) prog_1_method_19_code (1 : Nat) (Option.some Jvm.ClassFile.FieldType.int)) ∈ gw_T := List.mem_filter.mpr ⟨List.mem_append_right _ (List.mem_of_getElem? (i := 855) (by decide +kernel)), rfl⟩
theorem tb_860 : (Jvm.Cond.methodLink "GraphWalkerLaw" (67 : Nat) ({ cls := "GraphWalker", name := "every", desc := "(I)I" } : Jvm.MethodName)) ∈ gw_all := List.mem_filter.mpr ⟨List.mem_append_right _ (List.mem_of_getElem? (i := 860) (by decide +kernel)), rfl⟩
theorem tb_861 : (Jvm.Cond.instanceMethod ({ cls := "GraphWalker", name := "every", desc := "(I)I" } : Jvm.MethodName)) ∈ gw_all := List.mem_filter.mpr ⟨List.mem_append_right _ (List.mem_of_getElem? (i := 861) (by decide +kernel)), rfl⟩
theorem tb_862 : (Jvm.Cond.selects "GraphWalker" ({ cls := "GraphWalker", name := "every", desc := "(I)I" } : Jvm.MethodName) ({ cls := "GraphWalker", name := "every", desc := "(I)I" } : Jvm.MethodName)) ∈ gw_all := List.mem_filter.mpr ⟨List.mem_append_right _ (List.mem_of_getElem? (i := 862) (by decide +kernel)), rfl⟩
theorem tb_863 : (Jvm.Cond.code ({ cls := "GraphWalker", name := "every", desc := "(I)I" } : Jvm.MethodName) prog_1_method_20_code (3 : Nat) (Option.some Jvm.ClassFile.FieldType.int)) ∈ gw_T := List.mem_filter.mpr ⟨List.mem_append_right _ (List.mem_of_getElem? (i := 863) (by decide +kernel)), rfl⟩
theorem d_La_number_0 : decode b_La_number 0 = .ok (.aload_n 3, 1) := by decide +kernel
theorem d_La_number_1 : decode b_La_number 1 = .ok (.iconst 0, 1) := by decide +kernel
theorem d_La_number_2 : decode b_La_number 2 = .ok (.aload_n 0, 1) := by decide +kernel
theorem d_La_number_3 : decode b_La_number 3 = .ok (.lload_n 1, 1) := by decide +kernel
theorem d_La_number_4 : decode b_La_number 4 = .ok (.invokevirtual 7, 3) := by decide +kernel
theorem d_La_number_7 : decode b_La_number 7 = .ok (.i2l, 1) := by decide +kernel
theorem d_La_number_8 : decode b_La_number 8 = .ok (.lastore, 1) := by decide +kernel
theorem d_La_number_9 : decode b_La_number 9 = .ok (.goto 7, 3) := by decide +kernel
theorem d_La_number_12 : decode b_La_number 12 = .ok (.astore 4, 2) := by decide +kernel
theorem d_La_number_14 : decode b_La_number 14 = .ok (.iconst 1, 1) := by decide +kernel
theorem d_La_number_15 : decode b_La_number 15 = .ok (.ireturn, 1) := by decide +kernel
theorem d_La_number_16 : decode b_La_number 16 = .ok (.iconst 0, 1) := by decide +kernel
theorem d_La_number_17 : decode b_La_number 17 = .ok (.ireturn, 1) := by decide +kernel
theorem d_La_variable_0 : decode b_La_variable 0 = .ok (.aload_n 2, 1) := by decide +kernel
theorem d_La_variable_1 : decode b_La_variable 1 = .ok (.iconst 0, 1) := by decide +kernel
theorem d_La_variable_2 : decode b_La_variable 2 = .ok (.aload_n 0, 1) := by decide +kernel
theorem d_La_variable_3 : decode b_La_variable 3 = .ok (.iload_n 1, 1) := by decide +kernel
theorem d_La_variable_4 : decode b_La_variable 4 = .ok (.invokevirtual 15, 3) := by decide +kernel
theorem d_La_variable_7 : decode b_La_variable 7 = .ok (.i2l, 1) := by decide +kernel
theorem d_La_variable_8 : decode b_La_variable 8 = .ok (.lastore, 1) := by decide +kernel
theorem d_La_variable_9 : decode b_La_variable 9 = .ok (.goto 9, 3) := by decide +kernel
theorem d_La_variable_12 : decode b_La_variable 12 = .ok (.astore_n 3, 1) := by decide +kernel
theorem d_La_variable_13 : decode b_La_variable 13 = .ok (.iconst 1, 1) := by decide +kernel
theorem d_La_variable_14 : decode b_La_variable 14 = .ok (.ireturn, 1) := by decide +kernel
theorem d_La_variable_15 : decode b_La_variable 15 = .ok (.astore_n 3, 1) := by decide +kernel
theorem d_La_variable_16 : decode b_La_variable 16 = .ok (.iconst 2, 1) := by decide +kernel
theorem d_La_variable_17 : decode b_La_variable 17 = .ok (.ireturn, 1) := by decide +kernel
theorem d_La_variable_18 : decode b_La_variable 18 = .ok (.iconst 0, 1) := by decide +kernel
theorem d_La_variable_19 : decode b_La_variable 19 = .ok (.ireturn, 1) := by decide +kernel
theorem d_La_one_0 : decode b_La_one 0 = .ok (.aload_n 3, 1) := by decide +kernel
theorem d_La_one_1 : decode b_La_one 1 = .ok (.iconst 0, 1) := by decide +kernel
theorem d_La_one_2 : decode b_La_one 2 = .ok (.aload_n 0, 1) := by decide +kernel
theorem d_La_one_3 : decode b_La_one 3 = .ok (.iload_n 1, 1) := by decide +kernel
theorem d_La_one_4 : decode b_La_one 4 = .ok (.iload_n 2, 1) := by decide +kernel
theorem d_La_one_5 : decode b_La_one 5 = .ok (.invokevirtual 21, 3) := by decide +kernel
theorem d_La_one_8 : decode b_La_one 8 = .ok (.i2l, 1) := by decide +kernel
theorem d_La_one_9 : decode b_La_one 9 = .ok (.lastore, 1) := by decide +kernel
theorem d_La_one_10 : decode b_La_one 10 = .ok (.goto 15, 3) := by decide +kernel
theorem d_La_one_13 : decode b_La_one 13 = .ok (.astore 4, 2) := by decide +kernel
theorem d_La_one_15 : decode b_La_one 15 = .ok (.iconst 1, 1) := by decide +kernel
theorem d_La_one_16 : decode b_La_one 16 = .ok (.ireturn, 1) := by decide +kernel
theorem d_La_one_17 : decode b_La_one 17 = .ok (.astore 4, 2) := by decide +kernel
theorem d_La_one_19 : decode b_La_one 19 = .ok (.iconst 2, 1) := by decide +kernel
theorem d_La_one_20 : decode b_La_one 20 = .ok (.ireturn, 1) := by decide +kernel
theorem d_La_one_21 : decode b_La_one 21 = .ok (.astore 4, 2) := by decide +kernel
theorem d_La_one_23 : decode b_La_one 23 = .ok (.iconst 3, 1) := by decide +kernel
theorem d_La_one_24 : decode b_La_one 24 = .ok (.ireturn, 1) := by decide +kernel
theorem d_La_one_25 : decode b_La_one 25 = .ok (.iconst 0, 1) := by decide +kernel
theorem d_La_one_26 : decode b_La_one 26 = .ok (.ireturn, 1) := by decide +kernel
theorem d_La_two_0 : decode b_La_two 0 = .ok (.aload 4, 2) := by decide +kernel
theorem d_La_two_2 : decode b_La_two 2 = .ok (.iconst 0, 1) := by decide +kernel
theorem d_La_two_3 : decode b_La_two 3 = .ok (.aload_n 0, 1) := by decide +kernel
theorem d_La_two_4 : decode b_La_two 4 = .ok (.iload_n 1, 1) := by decide +kernel
theorem d_La_two_5 : decode b_La_two 5 = .ok (.iload_n 2, 1) := by decide +kernel
theorem d_La_two_6 : decode b_La_two 6 = .ok (.iload_n 3, 1) := by decide +kernel
theorem d_La_two_7 : decode b_La_two 7 = .ok (.invokevirtual 27, 3) := by decide +kernel
theorem d_La_two_10 : decode b_La_two 10 = .ok (.i2l, 1) := by decide +kernel
theorem d_La_two_11 : decode b_La_two 11 = .ok (.lastore, 1) := by decide +kernel
theorem d_La_two_12 : decode b_La_two 12 = .ok (.goto 15, 3) := by decide +kernel
theorem d_La_two_15 : decode b_La_two 15 = .ok (.astore 5, 2) := by decide +kernel
theorem d_La_two_17 : decode b_La_two 17 = .ok (.iconst 1, 1) := by decide +kernel
theorem d_La_two_18 : decode b_La_two 18 = .ok (.ireturn, 1) := by decide +kernel
theorem d_La_two_19 : decode b_La_two 19 = .ok (.astore 5, 2) := by decide +kernel
theorem d_La_two_21 : decode b_La_two 21 = .ok (.iconst 2, 1) := by decide +kernel
theorem d_La_two_22 : decode b_La_two 22 = .ok (.ireturn, 1) := by decide +kernel
theorem d_La_two_23 : decode b_La_two 23 = .ok (.astore 5, 2) := by decide +kernel
theorem d_La_two_25 : decode b_La_two 25 = .ok (.iconst 3, 1) := by decide +kernel
theorem d_La_two_26 : decode b_La_two 26 = .ok (.ireturn, 1) := by decide +kernel
theorem d_La_two_27 : decode b_La_two 27 = .ok (.iconst 0, 1) := by decide +kernel
theorem d_La_two_28 : decode b_La_two 28 = .ok (.ireturn, 1) := by decide +kernel
theorem d_La_choose_0 : decode b_La_choose 0 = .ok (.aload 4, 2) := by decide +kernel
theorem d_La_choose_2 : decode b_La_choose 2 = .ok (.iconst 0, 1) := by decide +kernel
theorem d_La_choose_3 : decode b_La_choose 3 = .ok (.aload_n 0, 1) := by decide +kernel
theorem d_La_choose_4 : decode b_La_choose 4 = .ok (.iload_n 1, 1) := by decide +kernel
theorem d_La_choose_5 : decode b_La_choose 5 = .ok (.iload_n 2, 1) := by decide +kernel
theorem d_La_choose_6 : decode b_La_choose 6 = .ok (.iload_n 3, 1) := by decide +kernel
theorem d_La_choose_7 : decode b_La_choose 7 = .ok (.invokevirtual 31, 3) := by decide +kernel
theorem d_La_choose_10 : decode b_La_choose 10 = .ok (.i2l, 1) := by decide +kernel
theorem d_La_choose_11 : decode b_La_choose 11 = .ok (.lastore, 1) := by decide +kernel
theorem d_La_choose_12 : decode b_La_choose 12 = .ok (.goto 11, 3) := by decide +kernel
theorem d_La_choose_15 : decode b_La_choose 15 = .ok (.astore 5, 2) := by decide +kernel
theorem d_La_choose_17 : decode b_La_choose 17 = .ok (.iconst 1, 1) := by decide +kernel
theorem d_La_choose_18 : decode b_La_choose 18 = .ok (.ireturn, 1) := by decide +kernel
theorem d_La_choose_19 : decode b_La_choose 19 = .ok (.astore 5, 2) := by decide +kernel
theorem d_La_choose_21 : decode b_La_choose 21 = .ok (.iconst 2, 1) := by decide +kernel
theorem d_La_choose_22 : decode b_La_choose 22 = .ok (.ireturn, 1) := by decide +kernel
theorem d_La_choose_23 : decode b_La_choose 23 = .ok (.iconst 0, 1) := by decide +kernel
theorem d_La_choose_24 : decode b_La_choose 24 = .ok (.ireturn, 1) := by decide +kernel
theorem d_La_lacks_0 : decode b_La_lacks 0 = .ok (.aload_n 2, 1) := by decide +kernel
theorem d_La_lacks_1 : decode b_La_lacks 1 = .ok (.iconst 0, 1) := by decide +kernel
theorem d_La_lacks_2 : decode b_La_lacks 2 = .ok (.aload_n 0, 1) := by decide +kernel
theorem d_La_lacks_3 : decode b_La_lacks 3 = .ok (.iload_n 1, 1) := by decide +kernel
theorem d_La_lacks_4 : decode b_La_lacks 4 = .ok (.invokevirtual 34, 3) := by decide +kernel
theorem d_La_lacks_7 : decode b_La_lacks 7 = .ok (.i2l, 1) := by decide +kernel
theorem d_La_lacks_8 : decode b_La_lacks 8 = .ok (.lastore, 1) := by decide +kernel
theorem d_La_lacks_9 : decode b_La_lacks 9 = .ok (.goto 6, 3) := by decide +kernel
theorem d_La_lacks_12 : decode b_La_lacks 12 = .ok (.astore_n 3, 1) := by decide +kernel
theorem d_La_lacks_13 : decode b_La_lacks 13 = .ok (.iconst 1, 1) := by decide +kernel
theorem d_La_lacks_14 : decode b_La_lacks 14 = .ok (.ireturn, 1) := by decide +kernel
theorem d_La_lacks_15 : decode b_La_lacks 15 = .ok (.iconst 0, 1) := by decide +kernel
theorem d_La_lacks_16 : decode b_La_lacks 16 = .ok (.ireturn, 1) := by decide +kernel
theorem d_La_begin_0 : decode b_La_begin 0 = .ok (.aload_n 0, 1) := by decide +kernel
theorem d_La_begin_1 : decode b_La_begin 1 = .ok (.iload_n 1, 1) := by decide +kernel
theorem d_La_begin_2 : decode b_La_begin 2 = .ok (.iload_n 2, 1) := by decide +kernel
theorem d_La_begin_3 : decode b_La_begin 3 = .ok (.invokevirtual 37, 3) := by decide +kernel
theorem d_La_begin_6 : decode b_La_begin 6 = .ok (.goto 9, 3) := by decide +kernel
theorem d_La_begin_9 : decode b_La_begin 9 = .ok (.astore_n 3, 1) := by decide +kernel
theorem d_La_begin_10 : decode b_La_begin 10 = .ok (.iconst 1, 1) := by decide +kernel
theorem d_La_begin_11 : decode b_La_begin 11 = .ok (.ireturn, 1) := by decide +kernel
theorem d_La_begin_12 : decode b_La_begin 12 = .ok (.astore_n 3, 1) := by decide +kernel
theorem d_La_begin_13 : decode b_La_begin 13 = .ok (.iconst 2, 1) := by decide +kernel
theorem d_La_begin_14 : decode b_La_begin 14 = .ok (.ireturn, 1) := by decide +kernel
theorem d_La_begin_15 : decode b_La_begin 15 = .ok (.iconst 0, 1) := by decide +kernel
theorem d_La_begin_16 : decode b_La_begin 16 = .ok (.ireturn, 1) := by decide +kernel
theorem d_La_run_0 : decode b_La_run 0 = .ok (.aload_n 2, 1) := by decide +kernel
theorem d_La_run_1 : decode b_La_run 1 = .ok (.iconst 0, 1) := by decide +kernel
theorem d_La_run_2 : decode b_La_run 2 = .ok (.aload_n 0, 1) := by decide +kernel
theorem d_La_run_3 : decode b_La_run 3 = .ok (.iload_n 1, 1) := by decide +kernel
theorem d_La_run_4 : decode b_La_run 4 = .ok (.invokevirtual 41, 3) := by decide +kernel
theorem d_La_run_7 : decode b_La_run 7 = .ok (.i2l, 1) := by decide +kernel
theorem d_La_run_8 : decode b_La_run 8 = .ok (.lastore, 1) := by decide +kernel
theorem d_La_run_9 : decode b_La_run 9 = .ok (.goto 9, 3) := by decide +kernel
theorem d_La_run_12 : decode b_La_run 12 = .ok (.astore_n 3, 1) := by decide +kernel
theorem d_La_run_13 : decode b_La_run 13 = .ok (.iconst 1, 1) := by decide +kernel
theorem d_La_run_14 : decode b_La_run 14 = .ok (.ireturn, 1) := by decide +kernel
theorem d_La_run_15 : decode b_La_run 15 = .ok (.astore_n 3, 1) := by decide +kernel
theorem d_La_run_16 : decode b_La_run 16 = .ok (.iconst 2, 1) := by decide +kernel
theorem d_La_run_17 : decode b_La_run 17 = .ok (.ireturn, 1) := by decide +kernel
theorem d_La_run_18 : decode b_La_run 18 = .ok (.iconst 0, 1) := by decide +kernel
theorem d_La_run_19 : decode b_La_run 19 = .ok (.ireturn, 1) := by decide +kernel
theorem d_La_into_0 : decode b_La_into 0 = .ok (.aload_n 0, 1) := by decide +kernel
theorem d_La_into_1 : decode b_La_into 1 = .ok (.iload_n 1, 1) := by decide +kernel
theorem d_La_into_2 : decode b_La_into 2 = .ok (.invokevirtual 44, 3) := by decide +kernel
theorem d_La_into_5 : decode b_La_into 5 = .ok (.goto 9, 3) := by decide +kernel
theorem d_La_into_8 : decode b_La_into 8 = .ok (.astore_n 2, 1) := by decide +kernel
theorem d_La_into_9 : decode b_La_into 9 = .ok (.iconst 1, 1) := by decide +kernel
theorem d_La_into_10 : decode b_La_into 10 = .ok (.ireturn, 1) := by decide +kernel
theorem d_La_into_11 : decode b_La_into 11 = .ok (.astore_n 2, 1) := by decide +kernel
theorem d_La_into_12 : decode b_La_into 12 = .ok (.iconst 2, 1) := by decide +kernel
theorem d_La_into_13 : decode b_La_into 13 = .ok (.ireturn, 1) := by decide +kernel
theorem d_La_into_14 : decode b_La_into 14 = .ok (.iconst 0, 1) := by decide +kernel
theorem d_La_into_15 : decode b_La_into 15 = .ok (.ireturn, 1) := by decide +kernel
theorem d_La_told_0 : decode b_La_told 0 = .ok (.aload_n 2, 1) := by decide +kernel
theorem d_La_told_1 : decode b_La_told 1 = .ok (.iconst 0, 1) := by decide +kernel
theorem d_La_told_2 : decode b_La_told 2 = .ok (.aload_n 0, 1) := by decide +kernel
theorem d_La_told_3 : decode b_La_told 3 = .ok (.iload_n 1, 1) := by decide +kernel
theorem d_La_told_4 : decode b_La_told 4 = .ok (.invokevirtual 48, 3) := by decide +kernel
theorem d_La_told_7 : decode b_La_told 7 = .ok (.i2l, 1) := by decide +kernel
theorem d_La_told_8 : decode b_La_told 8 = .ok (.lastore, 1) := by decide +kernel
theorem d_La_told_9 : decode b_La_told 9 = .ok (.goto 6, 3) := by decide +kernel
theorem d_La_told_12 : decode b_La_told 12 = .ok (.astore_n 3, 1) := by decide +kernel
theorem d_La_told_13 : decode b_La_told 13 = .ok (.iconst 1, 1) := by decide +kernel
theorem d_La_told_14 : decode b_La_told 14 = .ok (.ireturn, 1) := by decide +kernel
theorem d_La_told_15 : decode b_La_told 15 = .ok (.iconst 0, 1) := by decide +kernel
theorem d_La_told_16 : decode b_La_told 16 = .ok (.ireturn, 1) := by decide +kernel
theorem d_La_thing_0 : decode b_La_thing 0 = .ok (.aload_n 2, 1) := by decide +kernel
theorem d_La_thing_1 : decode b_La_thing 1 = .ok (.iconst 0, 1) := by decide +kernel
theorem d_La_thing_2 : decode b_La_thing 2 = .ok (.aload_n 0, 1) := by decide +kernel
theorem d_La_thing_3 : decode b_La_thing 3 = .ok (.iload_n 1, 1) := by decide +kernel
theorem d_La_thing_4 : decode b_La_thing 4 = .ok (.invokevirtual 51, 3) := by decide +kernel
theorem d_La_thing_7 : decode b_La_thing 7 = .ok (.i2l, 1) := by decide +kernel
theorem d_La_thing_8 : decode b_La_thing 8 = .ok (.lastore, 1) := by decide +kernel
theorem d_La_thing_9 : decode b_La_thing 9 = .ok (.goto 6, 3) := by decide +kernel
theorem d_La_thing_12 : decode b_La_thing 12 = .ok (.astore_n 3, 1) := by decide +kernel
theorem d_La_thing_13 : decode b_La_thing 13 = .ok (.iconst 1, 1) := by decide +kernel
theorem d_La_thing_14 : decode b_La_thing 14 = .ok (.ireturn, 1) := by decide +kernel
theorem d_La_thing_15 : decode b_La_thing 15 = .ok (.iconst 0, 1) := by decide +kernel
theorem d_La_thing_16 : decode b_La_thing 16 = .ok (.ireturn, 1) := by decide +kernel
theorem d_La_worked_0 : decode b_La_worked 0 = .ok (.aload_n 3, 1) := by decide +kernel
theorem d_La_worked_1 : decode b_La_worked 1 = .ok (.iconst 0, 1) := by decide +kernel
theorem d_La_worked_2 : decode b_La_worked 2 = .ok (.aload_n 0, 1) := by decide +kernel
theorem d_La_worked_3 : decode b_La_worked 3 = .ok (.iload_n 1, 1) := by decide +kernel
theorem d_La_worked_4 : decode b_La_worked 4 = .ok (.iload_n 2, 1) := by decide +kernel
theorem d_La_worked_5 : decode b_La_worked 5 = .ok (.invokevirtual 54, 3) := by decide +kernel
theorem d_La_worked_8 : decode b_La_worked 8 = .ok (.i2l, 1) := by decide +kernel
theorem d_La_worked_9 : decode b_La_worked 9 = .ok (.lastore, 1) := by decide +kernel
theorem d_La_worked_10 : decode b_La_worked 10 = .ok (.goto 11, 3) := by decide +kernel
theorem d_La_worked_13 : decode b_La_worked 13 = .ok (.astore 4, 2) := by decide +kernel
theorem d_La_worked_15 : decode b_La_worked 15 = .ok (.iconst 1, 1) := by decide +kernel
theorem d_La_worked_16 : decode b_La_worked 16 = .ok (.ireturn, 1) := by decide +kernel
theorem d_La_worked_17 : decode b_La_worked 17 = .ok (.astore 4, 2) := by decide +kernel
theorem d_La_worked_19 : decode b_La_worked 19 = .ok (.iconst 2, 1) := by decide +kernel
theorem d_La_worked_20 : decode b_La_worked 20 = .ok (.ireturn, 1) := by decide +kernel
theorem d_La_worked_21 : decode b_La_worked 21 = .ok (.iconst 0, 1) := by decide +kernel
theorem d_La_worked_22 : decode b_La_worked 22 = .ok (.ireturn, 1) := by decide +kernel
theorem d_La_ring_0 : decode b_La_ring 0 = .ok (.aload_n 2, 1) := by decide +kernel
theorem d_La_ring_1 : decode b_La_ring 1 = .ok (.iconst 0, 1) := by decide +kernel
theorem d_La_ring_2 : decode b_La_ring 2 = .ok (.aload_n 0, 1) := by decide +kernel
theorem d_La_ring_3 : decode b_La_ring 3 = .ok (.iload_n 1, 1) := by decide +kernel
theorem d_La_ring_4 : decode b_La_ring 4 = .ok (.invokevirtual 57, 3) := by decide +kernel
theorem d_La_ring_7 : decode b_La_ring 7 = .ok (.i2l, 1) := by decide +kernel
theorem d_La_ring_8 : decode b_La_ring 8 = .ok (.lastore, 1) := by decide +kernel
theorem d_La_ring_9 : decode b_La_ring 9 = .ok (.goto 6, 3) := by decide +kernel
theorem d_La_ring_12 : decode b_La_ring 12 = .ok (.astore_n 3, 1) := by decide +kernel
theorem d_La_ring_13 : decode b_La_ring 13 = .ok (.iconst 1, 1) := by decide +kernel
theorem d_La_ring_14 : decode b_La_ring 14 = .ok (.ireturn, 1) := by decide +kernel
theorem d_La_ring_15 : decode b_La_ring 15 = .ok (.iconst 0, 1) := by decide +kernel
theorem d_La_ring_16 : decode b_La_ring 16 = .ok (.ireturn, 1) := by decide +kernel
theorem d_La_entry_0 : decode b_La_entry 0 = .ok (.aload_n 2, 1) := by decide +kernel
theorem d_La_entry_1 : decode b_La_entry 1 = .ok (.iconst 0, 1) := by decide +kernel
theorem d_La_entry_2 : decode b_La_entry 2 = .ok (.aload_n 0, 1) := by decide +kernel
theorem d_La_entry_3 : decode b_La_entry 3 = .ok (.iload_n 1, 1) := by decide +kernel
theorem d_La_entry_4 : decode b_La_entry 4 = .ok (.invokevirtual 60, 3) := by decide +kernel
theorem d_La_entry_7 : decode b_La_entry 7 = .ok (.i2l, 1) := by decide +kernel
theorem d_La_entry_8 : decode b_La_entry 8 = .ok (.lastore, 1) := by decide +kernel
theorem d_La_entry_9 : decode b_La_entry 9 = .ok (.goto 6, 3) := by decide +kernel
theorem d_La_entry_12 : decode b_La_entry 12 = .ok (.astore_n 3, 1) := by decide +kernel
theorem d_La_entry_13 : decode b_La_entry 13 = .ok (.iconst 1, 1) := by decide +kernel
theorem d_La_entry_14 : decode b_La_entry 14 = .ok (.ireturn, 1) := by decide +kernel
theorem d_La_entry_15 : decode b_La_entry 15 = .ok (.iconst 0, 1) := by decide +kernel
theorem d_La_entry_16 : decode b_La_entry 16 = .ok (.ireturn, 1) := by decide +kernel
theorem d_La_collect_0 : decode b_La_collect 0 = .ok (.aload_n 1, 1) := by decide +kernel
theorem d_La_collect_1 : decode b_La_collect 1 = .ok (.iconst 0, 1) := by decide +kernel
theorem d_La_collect_2 : decode b_La_collect 2 = .ok (.aload_n 0, 1) := by decide +kernel
theorem d_La_collect_3 : decode b_La_collect 3 = .ok (.invokevirtual 63, 3) := by decide +kernel
theorem d_La_collect_6 : decode b_La_collect 6 = .ok (.i2l, 1) := by decide +kernel
theorem d_La_collect_7 : decode b_La_collect 7 = .ok (.lastore, 1) := by decide +kernel
theorem d_La_collect_8 : decode b_La_collect 8 = .ok (.goto 6, 3) := by decide +kernel
theorem d_La_collect_11 : decode b_La_collect 11 = .ok (.astore_n 2, 1) := by decide +kernel
theorem d_La_collect_12 : decode b_La_collect 12 = .ok (.iconst 1, 1) := by decide +kernel
theorem d_La_collect_13 : decode b_La_collect 13 = .ok (.ireturn, 1) := by decide +kernel
theorem d_La_collect_14 : decode b_La_collect 14 = .ok (.iconst 0, 1) := by decide +kernel
theorem d_La_collect_15 : decode b_La_collect 15 = .ok (.ireturn, 1) := by decide +kernel
theorem d_La_every_0 : decode b_La_every 0 = .ok (.aload_n 2, 1) := by decide +kernel
theorem d_La_every_1 : decode b_La_every 1 = .ok (.iconst 0, 1) := by decide +kernel
theorem d_La_every_2 : decode b_La_every 2 = .ok (.aload_n 0, 1) := by decide +kernel
theorem d_La_every_3 : decode b_La_every 3 = .ok (.iload_n 1, 1) := by decide +kernel
theorem d_La_every_4 : decode b_La_every 4 = .ok (.invokevirtual 67, 3) := by decide +kernel
theorem d_La_every_7 : decode b_La_every 7 = .ok (.i2l, 1) := by decide +kernel
theorem d_La_every_8 : decode b_La_every 8 = .ok (.lastore, 1) := by decide +kernel
theorem d_La_every_9 : decode b_La_every 9 = .ok (.goto 6, 3) := by decide +kernel
theorem d_La_every_12 : decode b_La_every 12 = .ok (.astore_n 3, 1) := by decide +kernel
theorem d_La_every_13 : decode b_La_every 13 = .ok (.iconst 1, 1) := by decide +kernel
theorem d_La_every_14 : decode b_La_every 14 = .ok (.ireturn, 1) := by decide +kernel
theorem d_La_every_15 : decode b_La_every 15 = .ok (.iconst 0, 1) := by decide +kernel
theorem d_La_every_16 : decode b_La_every 16 = .ok (.ireturn, 1) := by decide +kernel
/-! the law's own methods: the world of the class with the answer's cell before it -/
def wH (ad : Nat → Nat) (cI cL cZ : ClassId) (qo : Nat) (f : Nat → Int64) (σ : St) : va_W := (qo, .inl (cL, 1, .inr (.inl f))) :: wC ad cI cL cZ σ
theorem wH_C (ad : Nat → Nat) (cI cL cZ : ClassId) (qo : Nat) (f : Nat → Int64) (σ : St) : ([1, 2, 3, 4, 5, 6, 7, 8, 9, 10, 11, 12, 13, 14, 15, 16, 17, 18, 19, 20, 21, 22, 23, 24, 25, 26, 27, 28, 29, 30, 31, 32] : List Nat).map (fun i => (wH ad cI cL cZ qo f σ)[i]?) = (wC ad cI cL cZ σ).map some := rfl
theorem wH_Cf (ad : Nat → Nat) (cI cL cZ : ClassId) (qo : Nat) (f : Nat → Int64) (σ : St) : ([1, 2, 3, 4, 5, 6, 7, 8, 9, 10, 11, 12, 13, 14, 15, 16, 17, 18, 19, 20, 21, 22, 23, 24, 25, 26, 27, 28, 29, 30, 31, 32] : List Nat).filterMap (fun i => (wH ad cI cL cZ qo f σ)[i]?) = wC ad cI cL cZ σ := rfl
theorem wH_R (ad : Nat → Nat) (cI cL cZ : ClassId) (qo : Nat) (f : Nat → Int64) (σ : St) : ([0] : List Nat).map (fun i => (wH ad cI cL cZ qo f σ)[i]?) = ([(qo, .inl (cL, 1, .inr (.inl f)))] : va_W).map some := rfl
theorem wC_C (ad : Nat → Nat) (cI cL cZ : ClassId) (σ : St) : ([0, 1, 2, 3, 4, 5, 6, 7, 8, 9, 10, 11, 12, 13, 14, 15, 16, 17, 18, 19, 20, 21, 22, 23, 24, 25, 26, 27, 28, 29, 30, 31] : List Nat).map (fun i => (wC ad cI cL cZ σ)[i]?) = (wC ad cI cL cZ σ).map some := rfl
theorem wC_Cf (ad : Nat → Nat) (cI cL cZ : ClassId) (σ : St) : ([0, 1, 2, 3, 4, 5, 6, 7, 8, 9, 10, 11, 12, 13, 14, 15, 16, 17, 18, 19, 20, 21, 22, 23, 24, 25, 26, 27, 28, 29, 30, 31] : List Nat).filterMap (fun i => (wC ad cI cL cZ σ)[i]?) = wC ad cI cL cZ σ := rfl
abbrev w_La_number : List Cond := Cond.codeWith y_La_number b_La_number 5 (some .int) [(0, 9, 12, 13)] :: gw_T
abbrev rm_La_number : Room := { frames := 8, cells := 1, slots := 6, locals := 124 }
abbrev w_La_variable : List Cond := Cond.codeWith y_La_variable b_La_variable 4 (some .int) [(0, 9, 12, 13), (0, 9, 15, 19)] :: gw_T
abbrev rm_La_variable : Room := { frames := 8, cells := 1, slots := 6, locals := 123 }
abbrev w_La_one : List Cond := Cond.codeWith y_La_one b_La_one 5 (some .int) [(0, 10, 13, 25), (0, 10, 17, 13), (0, 10, 21, 19)] :: gw_T
abbrev rm_La_one : Room := { frames := 8, cells := 1, slots := 6, locals := 125 }
abbrev w_La_two : List Cond := Cond.codeWith y_La_two b_La_two 6 (some .int) [(0, 12, 15, 25), (0, 12, 19, 13), (0, 12, 23, 19)] :: gw_T
abbrev rm_La_two : Room := { frames := 8, cells := 1, slots := 6, locals := 126 }
abbrev w_La_choose : List Cond := Cond.codeWith y_La_choose b_La_choose 6 (some .int) [(0, 12, 15, 25), (0, 12, 19, 13)] :: gw_T
abbrev rm_La_choose : Room := { frames := 8, cells := 1, slots := 6, locals := 126 }
abbrev w_La_lacks : List Cond := Cond.codeWith y_La_lacks b_La_lacks 4 (some .int) [(0, 9, 12, 25)] :: gw_T
abbrev rm_La_lacks : Room := { frames := 8, cells := 1, slots := 6, locals := 124 }
abbrev w_La_begin : List Cond := Cond.codeWith y_La_begin b_La_begin 4 (some .int) [(0, 6, 9, 25), (0, 6, 12, 13)] :: gw_T
abbrev rm_La_begin : Room := { frames := 8, cells := 1, slots := 6, locals := 125 }
abbrev w_La_run : List Cond := Cond.codeWith y_La_run b_La_run 4 (some .int) [(0, 9, 12, 13), (0, 9, 15, 19)] :: gw_T
abbrev rm_La_run : Room := { frames := 8, cells := 1, slots := 6, locals := 173 }
abbrev w_La_into : List Cond := Cond.codeWith y_La_into b_La_into 3 (some .int) [(0, 5, 8, 13), (0, 5, 11, 19)] :: gw_T
abbrev rm_La_into : Room := { frames := 7, cells := 1, slots := 6, locals := 103 }
abbrev w_La_told : List Cond := Cond.codeWith y_La_told b_La_told 4 (some .int) [(0, 9, 12, 19)] :: gw_T
abbrev rm_La_told : Room := { frames := 7, cells := 1, slots := 6, locals := 103 }
abbrev w_La_thing : List Cond := Cond.codeWith y_La_thing b_La_thing 4 (some .int) [(0, 9, 12, 25)] :: gw_T
abbrev rm_La_thing : Room := { frames := 8, cells := 1, slots := 6, locals := 124 }
abbrev w_La_worked : List Cond := Cond.codeWith y_La_worked b_La_worked 5 (some .int) [(0, 10, 13, 25), (0, 10, 17, 19)] :: gw_T
abbrev rm_La_worked : Room := { frames := 8, cells := 1, slots := 6, locals := 125 }
abbrev w_La_ring : List Cond := Cond.codeWith y_La_ring b_La_ring 4 (some .int) [(0, 9, 12, 25)] :: gw_T
abbrev rm_La_ring : Room := { frames := 7, cells := 1, slots := 6, locals := 104 }
abbrev w_La_entry : List Cond := Cond.codeWith y_La_entry b_La_entry 4 (some .int) [(0, 9, 12, 25)] :: gw_T
abbrev rm_La_entry : Room := { frames := 7, cells := 1, slots := 6, locals := 103 }
abbrev w_La_collect : List Cond := Cond.codeWith y_La_collect b_La_collect 3 (some .int) [(0, 8, 11, 13)] :: gw_T
abbrev rm_La_collect : Room := { frames := 8, cells := 1, slots := 6, locals := 151 }
abbrev w_La_every : List Cond := Cond.codeWith y_La_every b_La_every 4 (some .int) [(0, 9, 12, 19)] :: gw_T
abbrev rm_La_every : Room := { frames := 7, cells := 1, slots := 6, locals := 104 }
