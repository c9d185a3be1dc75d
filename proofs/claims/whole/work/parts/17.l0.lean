theorem tb_1 : (Jvm.Cond.initialized "GraphWalker") ∈ gw_all := List.mem_filter.mpr ⟨List.mem_append_right _ (List.mem_of_getElem? (i := 1) (by decide +kernel)), rfl⟩
theorem tb_255 : (Jvm.Cond.methodLink "GraphWalkerLaw" (114 : Nat) ({ cls := "GraphWalker", name := "outcome", desc := "()I" } : Jvm.MethodName)) ∈ gw_all := List.mem_filter.mpr ⟨List.mem_append_right _ (List.mem_of_getElem? (i := 255) (by decide +kernel)), rfl⟩
theorem tb_256 : (Jvm.Cond.instanceMethod ({ cls := "GraphWalker", name := "outcome", desc := "()I" } : Jvm.MethodName)) ∈ gw_all := List.mem_filter.mpr ⟨List.mem_append_right _ (List.mem_of_getElem? (i := 256) (by decide +kernel)), rfl⟩
theorem tb_257 : (Jvm.Cond.selects "GraphWalker" ({ cls := "GraphWalker", name := "outcome", desc := "()I" } : Jvm.MethodName) ({ cls := "GraphWalker", name := "outcome", desc := "()I" } : Jvm.MethodName)) ∈ gw_all := List.mem_filter.mpr ⟨List.mem_append_right _ (List.mem_of_getElem? (i := 257) (by decide +kernel)), rfl⟩
theorem tb_258 : (Jvm.Cond.code ({ cls := "GraphWalker", name := "outcome", desc := "()I" } : Jvm.MethodName) prog_1_method_11_code (1 : Nat) (Option.some Jvm.ClassFile.FieldType.int)) ∈ gw_T := List.mem_filter.mpr ⟨List.mem_append_right _ (List.mem_of_getElem? (i := 258) (by decide +kernel)), rfl⟩
theorem tb_259 : (Jvm.Cond.methodLink "GraphWalkerLaw" (118 : Nat) ({ cls := "GraphWalker", name := "sort", desc := "()I" } : Jvm.MethodName)) ∈ gw_all := List.mem_filter.mpr ⟨List.mem_append_right _ (List.mem_of_getElem? (i := 259) (by decide +kernel)), rfl⟩
theorem tb_260 : (Jvm.Cond.instanceMethod ({ cls := "GraphWalker", name := "sort", desc := "()I" } : Jvm.MethodName)) ∈ gw_all := List.mem_filter.mpr ⟨List.mem_append_right _ (List.mem_of_getElem? (i := 260) (by decide +kernel)), rfl⟩
theorem tb_261 : (Jvm.Cond.selects "GraphWalker" ({ cls := "GraphWalker", name := "sort", desc := "()I" } : Jvm.MethodName) ({ cls := "GraphWalker", name := "sort", desc := "()I" } : Jvm.MethodName)) ∈ gw_all := List.mem_filter.mpr ⟨List.mem_append_right _ (List.mem_of_getElem? (i := 261) (by decide +kernel)), rfl⟩
theorem tb_262 : (Jvm.Cond.code ({ cls := "GraphWalker", name := "sort", desc := "()I" } : Jvm.MethodName) prog_1_method_12_code (1 : Nat) (Option.some Jvm.ClassFile.FieldType.int)) ∈ gw_T := List.mem_filter.mpr ⟨List.mem_append_right _ (List.mem_of_getElem? (i := 262) (by decide +kernel)), rfl⟩
theorem tb_263 : (Jvm.Cond.methodLink "GraphWalkerLaw" (122 : Nat) ({ cls := "GraphWalker", name := "value", desc := "()J" } : Jvm.MethodName)) ∈ gw_all := List.mem_filter.mpr ⟨List.mem_append_right _ (List.mem_of_getElem? (i := 263) (by decide +kernel)), rfl⟩
theorem tb_264 : (Jvm.Cond.instanceMethod ({ cls := "GraphWalker", name := "value", desc := "()J" } : Jvm.MethodName)) ∈ gw_all := List.mem_filter.mpr ⟨List.mem_append_right _ (List.mem_of_getElem? (i := 264) (by decide +kernel)), rfl⟩
theorem tb_265 : (Jvm.Cond.selects "GraphWalker" ({ cls := "GraphWalker", name := "value", desc := "()J" } : Jvm.MethodName) ({ cls := "GraphWalker", name := "value", desc := "()J" } : Jvm.MethodName)) ∈ gw_all := List.mem_filter.mpr ⟨List.mem_append_right _ (List.mem_of_getElem? (i := 265) (by decide +kernel)), rfl⟩
theorem tb_266 : (Jvm.Cond.code ({ cls := "GraphWalker", name := "value", desc := "()J" } : Jvm.MethodName) prog_1_method_13_code (1 : Nat) (Option.some Jvm.ClassFile.FieldType.long)) ∈ gw_T := List.mem_filter.mpr ⟨List.mem_append_right _ (List.mem_of_getElem? (i := 266) (by decide +kernel)), rfl⟩
theorem tb_267 : (Jvm.Cond.methodLink "GraphWalkerLaw" (76 : Nat) ({ cls := "GraphWalkerLaw", name := "number", desc := "(LGraphWalker;J[J)I" } : Jvm.MethodName)) ∈ gw_all := List.mem_filter.mpr ⟨List.mem_append_right _ (List.mem_of_getElem? (i := 267) (by decide +kernel)), rfl⟩
theorem tb_268 : (Jvm.Cond.static ({ cls := "GraphWalkerLaw", name := "number", desc := "(LGraphWalker;J[J)I" } : Jvm.MethodName)) ∈ gw_all := List.mem_filter.mpr ⟨List.mem_append_right _ (List.mem_of_getElem? (i := 268) (by decide +kernel)), rfl⟩
theorem tb_359 : (Jvm.Cond.methodLink "GraphWalkerLaw" (85 : Nat) ({ cls := "GraphWalkerLaw", name := "variable", desc := "(LGraphWalker;I[J)I" } : Jvm.MethodName)) ∈ gw_all := List.mem_filter.mpr ⟨List.mem_append_right _ (List.mem_of_getElem? (i := 359) (by decide +kernel)), rfl⟩
theorem tb_360 : (Jvm.Cond.static ({ cls := "GraphWalkerLaw", name := "variable", desc := "(LGraphWalker;I[J)I" } : Jvm.MethodName)) ∈ gw_all := List.mem_filter.mpr ⟨List.mem_append_right _ (List.mem_of_getElem? (i := 360) (by decide +kernel)), rfl⟩
theorem tb_387 : (Jvm.Cond.methodLink "GraphWalkerLaw" (89 : Nat) ({ cls := "GraphWalkerLaw", name := "one", desc := "(LGraphWalker;II[J)I" } : Jvm.MethodName)) ∈ gw_all := List.mem_filter.mpr ⟨List.mem_append_right _ (List.mem_of_getElem? (i := 387) (by decide +kernel)), rfl⟩
theorem tb_388 : (Jvm.Cond.static ({ cls := "GraphWalkerLaw", name := "one", desc := "(LGraphWalker;II[J)I" } : Jvm.MethodName)) ∈ gw_all := List.mem_filter.mpr ⟨List.mem_append_right _ (List.mem_of_getElem? (i := 388) (by decide +kernel)), rfl⟩
theorem tb_435 : (Jvm.Cond.methodLink "GraphWalkerLaw" (93 : Nat) ({ cls := "GraphWalkerLaw", name := "two", desc := "(LGraphWalker;III[J)I" } : Jvm.MethodName)) ∈ gw_all := List.mem_filter.mpr ⟨List.mem_append_right _ (List.mem_of_getElem? (i := 435) (by decide +kernel)), rfl⟩
theorem tb_436 : (Jvm.Cond.static ({ cls := "GraphWalkerLaw", name := "two", desc := "(LGraphWalker;III[J)I" } : Jvm.MethodName)) ∈ gw_all := List.mem_filter.mpr ⟨List.mem_append_right _ (List.mem_of_getElem? (i := 436) (by decide +kernel)), rfl⟩
theorem tb_447 : (Jvm.Cond.methodLink "GraphWalkerLaw" (97 : Nat) ({ cls := "GraphWalkerLaw", name := "choose", desc := "(LGraphWalker;III[J)I" } : Jvm.MethodName)) ∈ gw_all := List.mem_filter.mpr ⟨List.mem_append_right _ (List.mem_of_getElem? (i := 447) (by decide +kernel)), rfl⟩
theorem tb_448 : (Jvm.Cond.static ({ cls := "GraphWalkerLaw", name := "choose", desc := "(LGraphWalker;III[J)I" } : Jvm.MethodName)) ∈ gw_all := List.mem_filter.mpr ⟨List.mem_append_right _ (List.mem_of_getElem? (i := 448) (by decide +kernel)), rfl⟩
theorem tb_458 : (Jvm.Cond.methodLink "GraphWalkerLaw" (100 : Nat) ({ cls := "GraphWalkerLaw", name := "lacks", desc := "(LGraphWalker;I[J)I" } : Jvm.MethodName)) ∈ gw_all := List.mem_filter.mpr ⟨List.mem_append_right _ (List.mem_of_getElem? (i := 458) (by decide +kernel)), rfl⟩
theorem tb_459 : (Jvm.Cond.static ({ cls := "GraphWalkerLaw", name := "lacks", desc := "(LGraphWalker;I[J)I" } : Jvm.MethodName)) ∈ gw_all := List.mem_filter.mpr ⟨List.mem_append_right _ (List.mem_of_getElem? (i := 459) (by decide +kernel)), rfl⟩
theorem tb_466 : (Jvm.Cond.methodLink "GraphWalkerLaw" (103 : Nat) ({ cls := "GraphWalkerLaw", name := "begin", desc := "(LGraphWalker;IZ)I" } : Jvm.MethodName)) ∈ gw_all := List.mem_filter.mpr ⟨List.mem_append_right _ (List.mem_of_getElem? (i := 466) (by decide +kernel)), rfl⟩
theorem tb_467 : (Jvm.Cond.static ({ cls := "GraphWalkerLaw", name := "begin", desc := "(LGraphWalker;IZ)I" } : Jvm.MethodName)) ∈ gw_all := List.mem_filter.mpr ⟨List.mem_append_right _ (List.mem_of_getElem? (i := 467) (by decide +kernel)), rfl⟩
theorem tb_502 : (Jvm.Cond.methodLink "GraphWalkerLaw" (107 : Nat) ({ cls := "GraphWalkerLaw", name := "run", desc := "(LGraphWalker;I[J)I" } : Jvm.MethodName)) ∈ gw_all := List.mem_filter.mpr ⟨List.mem_append_right _ (List.mem_of_getElem? (i := 502) (by decide +kernel)), rfl⟩
theorem tb_503 : (Jvm.Cond.static ({ cls := "GraphWalkerLaw", name := "run", desc := "(LGraphWalker;I[J)I" } : Jvm.MethodName)) ∈ gw_all := List.mem_filter.mpr ⟨List.mem_append_right _ (List.mem_of_getElem? (i := 503) (by decide +kernel)), rfl⟩
theorem tb_771 : (Jvm.Cond.methodLink "GraphWalkerLaw" (110 : Nat) ({ cls := "GraphWalkerLaw", name := "into", desc := "(LGraphWalker;I)I" } : Jvm.MethodName)) ∈ gw_all := List.mem_filter.mpr ⟨List.mem_append_right _ (List.mem_of_getElem? (i := 771) (by decide +kernel)), rfl⟩
theorem tb_772 : (Jvm.Cond.static ({ cls := "GraphWalkerLaw", name := "into", desc := "(LGraphWalker;I)I" } : Jvm.MethodName)) ∈ gw_all := List.mem_filter.mpr ⟨List.mem_append_right _ (List.mem_of_getElem? (i := 772) (by decide +kernel)), rfl⟩
theorem tb_784 : (Jvm.Cond.methodLink "GraphWalkerLaw" (127 : Nat) ({ cls := "GraphWalkerLaw", name := "told", desc := "(LGraphWalker;I[J)I" } : Jvm.MethodName)) ∈ gw_all := List.mem_filter.mpr ⟨List.mem_append_right _ (List.mem_of_getElem? (i := 784) (by decide +kernel)), rfl⟩
theorem tb_785 : (Jvm.Cond.static ({ cls := "GraphWalkerLaw", name := "told", desc := "(LGraphWalker;I[J)I" } : Jvm.MethodName)) ∈ gw_all := List.mem_filter.mpr ⟨List.mem_append_right _ (List.mem_of_getElem? (i := 785) (by decide +kernel)), rfl⟩
theorem tb_796 : (Jvm.Cond.methodLink "GraphWalkerLaw" (130 : Nat) ({ cls := "GraphWalkerLaw", name := "thing", desc := "(LGraphWalker;I[J)I" } : Jvm.MethodName)) ∈ gw_all := List.mem_filter.mpr ⟨List.mem_append_right _ (List.mem_of_getElem? (i := 796) (by decide +kernel)), rfl⟩
theorem tb_797 : (Jvm.Cond.static ({ cls := "GraphWalkerLaw", name := "thing", desc := "(LGraphWalker;I[J)I" } : Jvm.MethodName)) ∈ gw_all := List.mem_filter.mpr ⟨List.mem_append_right _ (List.mem_of_getElem? (i := 797) (by decide +kernel)), rfl⟩
theorem tb_810 : (Jvm.Cond.methodLink "GraphWalkerLaw" (133 : Nat) ({ cls := "GraphWalkerLaw", name := "worked", desc := "(LGraphWalker;II[J)I" } : Jvm.MethodName)) ∈ gw_all := List.mem_filter.mpr ⟨List.mem_append_right _ (List.mem_of_getElem? (i := 810) (by decide +kernel)), rfl⟩
theorem tb_811 : (Jvm.Cond.static ({ cls := "GraphWalkerLaw", name := "worked", desc := "(LGraphWalker;II[J)I" } : Jvm.MethodName)) ∈ gw_all := List.mem_filter.mpr ⟨List.mem_append_right _ (List.mem_of_getElem? (i := 811) (by decide +kernel)), rfl⟩
theorem tb_827 : (Jvm.Cond.methodLink "GraphWalkerLaw" (136 : Nat) ({ cls := "GraphWalkerLaw", name := "ring", desc := "(LGraphWalker;I[J)I" } : Jvm.MethodName)) ∈ gw_all := List.mem_filter.mpr ⟨List.mem_append_right _ (List.mem_of_getElem? (i := 827) (by decide +kernel)), rfl⟩
theorem tb_828 : (Jvm.Cond.static ({ cls := "GraphWalkerLaw", name := "ring", desc := "(LGraphWalker;I[J)I" } : Jvm.MethodName)) ∈ gw_all := List.mem_filter.mpr ⟨List.mem_append_right _ (List.mem_of_getElem? (i := 828) (by decide +kernel)), rfl⟩
theorem tb_839 : (Jvm.Cond.methodLink "GraphWalkerLaw" (139 : Nat) ({ cls := "GraphWalkerLaw", name := "entry", desc := "(LGraphWalker;I[J)I" } : Jvm.MethodName)) ∈ gw_all := List.mem_filter.mpr ⟨List.mem_append_right _ (List.mem_of_getElem? (i := 839) (by decide +kernel)), rfl⟩
theorem tb_840 : (Jvm.Cond.static ({ cls := "GraphWalkerLaw", name := "entry", desc := "(LGraphWalker;I[J)I" } : Jvm.MethodName)) ∈ gw_all := List.mem_filter.mpr ⟨List.mem_append_right _ (List.mem_of_getElem? (i := 840) (by decide +kernel)), rfl⟩
theorem tb_849 : (Jvm.Cond.methodLink "GraphWalkerLaw" (142 : Nat) ({ cls := "GraphWalkerLaw", name := "collect", desc := "(LGraphWalker;[J)I" } : Jvm.MethodName)) ∈ gw_all := List.mem_filter.mpr ⟨List.mem_append_right _ (List.mem_of_getElem? (i := 849) (by decide +kernel)), rfl⟩
theorem tb_850 : (Jvm.Cond.static ({ cls := "GraphWalkerLaw", name := "collect", desc := "(LGraphWalker;[J)I" } : Jvm.MethodName)) ∈ gw_all := List.mem_filter.mpr ⟨List.mem_append_right _ (List.mem_of_getElem? (i := 850) (by decide +kernel)), rfl⟩
theorem tb_857 : (Jvm.Cond.methodLink "GraphWalkerLaw" (146 : Nat) ({ cls := "GraphWalkerLaw", name := "every", desc := "(LGraphWalker;I[J)I" } : Jvm.MethodName)) ∈ gw_all := List.mem_filter.mpr ⟨List.mem_append_right _ (List.mem_of_getElem? (i := 857) (by decide +kernel)), rfl⟩
theorem tb_858 : (Jvm.Cond.static ({ cls := "GraphWalkerLaw", name := "every", desc := "(LGraphWalker;I[J)I" } : Jvm.MethodName)) ∈ gw_all := List.mem_filter.mpr ⟨List.mem_append_right _ (List.mem_of_getElem? (i := 858) (by decide +kernel)), rfl⟩
theorem tb_1017 : (Jvm.Cond.methodLink "GraphWalkerLaw" (82 : Nat) ({ cls := "GraphWalkerModel", name := "thrown", desc := "()I" } : Jvm.MethodName)) ∈ gw_all := List.mem_filter.mpr ⟨List.mem_append_right _ (List.mem_of_getElem? (i := 1017) (by decide +kernel)), rfl⟩
theorem tb_1018 : (Jvm.Cond.instanceMethod ({ cls := "GraphWalkerModel", name := "thrown", desc := "()I" } : Jvm.MethodName)) ∈ gw_all := List.mem_filter.mpr ⟨List.mem_append_right _ (List.mem_of_getElem? (i := 1018) (by decide +kernel)), rfl⟩
theorem tb_1019 : (Jvm.Cond.selects "GraphWalkerModel" ({ cls := "GraphWalkerModel", name := "thrown", desc := "()I" } : Jvm.MethodName) ({ cls := "GraphWalkerModel", name := "thrown", desc := "()I" } : Jvm.MethodName)) ∈ gw_all := List.mem_filter.mpr ⟨List.mem_append_right _ (List.mem_of_getElem? (i := 1019) (by decide +kernel)), rfl⟩
theorem tb_1020 : (Jvm.Cond.code ({ cls := "GraphWalkerModel", name := "thrown", desc := "()I" } : Jvm.MethodName) prog_9_method_2_code (1 : Nat) (Option.some Jvm.ClassFile.FieldType.int)) ∈ gw_T := List.mem_filter.mpr ⟨List.mem_append_right _ (List.mem_of_getElem? (i := 1020) (by decide +kernel)), rfl⟩
theorem tb_1021 : (Jvm.Cond.methodLink "GraphWalkerLaw" (81 : Nat) ({ cls := "GraphWalkerModel", name := "number", desc := "(J)I" } : Jvm.MethodName)) ∈ gw_all := List.mem_filter.mpr ⟨List.mem_append_right _ (List.mem_of_getElem? (i := 1021) (by decide +kernel)), rfl⟩
theorem tb_1022 : (Jvm.Cond.instanceMethod ({ cls := "GraphWalkerModel", name := "number", desc := "(J)I" } : Jvm.MethodName)) ∈ gw_all := List.mem_filter.mpr ⟨List.mem_append_right _ (List.mem_of_getElem? (i := 1022) (by decide +kernel)), rfl⟩
theorem tb_1023 : (Jvm.Cond.selects "GraphWalkerModel" ({ cls := "GraphWalkerModel", name := "number", desc := "(J)I" } : Jvm.MethodName) ({ cls := "GraphWalkerModel", name := "number", desc := "(J)I" } : Jvm.MethodName)) ∈ gw_all := List.mem_filter.mpr ⟨List.mem_append_right _ (List.mem_of_getElem? (i := 1023) (by decide +kernel)), rfl⟩
theorem tb_1024 : (Jvm.Cond.code ({ cls := "GraphWalkerModel", name := "number", desc := "(J)I" } : Jvm.MethodName) prog_9_method_8_code (4 : Nat) (Option.some Jvm.ClassFile.FieldType.int)) ∈ gw_T := List.mem_filter.mpr ⟨List.mem_append_right _ (List.mem_of_getElem? (i := 1024) (by decide +kernel)), rfl⟩
theorem tb_1033 : (Jvm.Cond.methodLink "GraphWalkerLaw" (88 : Nat) ({ cls := "GraphWalkerModel", name := "variable", desc := "(I)I" } : Jvm.MethodName)) ∈ gw_all := List.mem_filter.mpr ⟨List.mem_append_right _ (List.mem_of_getElem? (i := 1033) (by decide +kernel)), rfl⟩
theorem tb_1034 : (Jvm.Cond.instanceMethod ({ cls := "GraphWalkerModel", name := "variable", desc := "(I)I" } : Jvm.MethodName)) ∈ gw_all := List.mem_filter.mpr ⟨List.mem_append_right _ (List.mem_of_getElem? (i := 1034) (by decide +kernel)), rfl⟩
theorem tb_1035 : (Jvm.Cond.selects "GraphWalkerModel" ({ cls := "GraphWalkerModel", name := "variable", desc := "(I)I" } : Jvm.MethodName) ({ cls := "GraphWalkerModel", name := "variable", desc := "(I)I" } : Jvm.MethodName)) ∈ gw_all := List.mem_filter.mpr ⟨List.mem_append_right _ (List.mem_of_getElem? (i := 1035) (by decide +kernel)), rfl⟩
theorem tb_1036 : (Jvm.Cond.code ({ cls := "GraphWalkerModel", name := "variable", desc := "(I)I" } : Jvm.MethodName) prog_9_method_9_code (3 : Nat) (Option.some Jvm.ClassFile.FieldType.int)) ∈ gw_T := List.mem_filter.mpr ⟨List.mem_append_right _ (List.mem_of_getElem? (i := 1036) (by decide +kernel)), rfl⟩
theorem tb_1037 : (Jvm.Cond.methodLink "GraphWalkerLaw" (92 : Nat) ({ cls := "GraphWalkerModel", name := "one", desc := "(II)I" } : Jvm.MethodName)) ∈ gw_all := List.mem_filter.mpr ⟨List.mem_append_right _ (List.mem_of_getElem? (i := 1037) (by decide +kernel)), rfl⟩
theorem tb_1038 : (Jvm.Cond.instanceMethod ({ cls := "GraphWalkerModel", name := "one", desc := "(II)I" } : Jvm.MethodName)) ∈ gw_all := List.mem_filter.mpr ⟨List.mem_append_right _ (List.mem_of_getElem? (i := 1038) (by decide +kernel)), rfl⟩
theorem tb_1039 : (Jvm.Cond.selects "GraphWalkerModel" ({ cls := "GraphWalkerModel", name := "one", desc := "(II)I" } : Jvm.MethodName) ({ cls := "GraphWalkerModel", name := "one", desc := "(II)I" } : Jvm.MethodName)) ∈ gw_all := List.mem_filter.mpr ⟨List.mem_append_right _ (List.mem_of_getElem? (i := 1039) (by decide +kernel)), rfl⟩
theorem tb_1040 : (Jvm.Cond.code ({ cls := "GraphWalkerModel", name := "one", desc := "(II)I" } : Jvm.MethodName) prog_9_method_10_code (4 : Nat) (Option.some Jvm.ClassFile.FieldType.int)) ∈ gw_T := List.mem_filter.mpr ⟨List.mem_append_right _ (List.mem_of_getElem? (i := 1040) (by decide +kernel)), rfl⟩
theorem tb_1048 : (Jvm.Cond.methodLink "GraphWalkerLaw" (96 : Nat) ({ cls := "GraphWalkerModel", name := "two", desc := "(III)I" } : Jvm.MethodName)) ∈ gw_all := List.mem_filter.mpr ⟨List.mem_append_right _ (List.mem_of_getElem? (i := 1048) (by decide +kernel)), rfl⟩
theorem tb_1049 : (Jvm.Cond.instanceMethod ({ cls := "GraphWalkerModel", name := "two", desc := "(III)I" } : Jvm.MethodName)) ∈ gw_all := List.mem_filter.mpr ⟨List.mem_append_right _ (List.mem_of_getElem? (i := 1049) (by decide +kernel)), rfl⟩
theorem tb_1050 : (Jvm.Cond.selects "GraphWalkerModel" ({ cls := "GraphWalkerModel", name := "two", desc := "(III)I" } : Jvm.MethodName) ({ cls := "GraphWalkerModel", name := "two", desc := "(III)I" } : Jvm.MethodName)) ∈ gw_all := List.mem_filter.mpr ⟨List.mem_append_right _ (List.mem_of_getElem? (i := 1050) (by decide +kernel)), rfl⟩
theorem tb_1051 : (Jvm.Cond.code ({ cls := "GraphWalkerModel", name := "two", desc := "(III)I" } : Jvm.MethodName) prog_9_method_11_code (6 : Nat) (Option.some Jvm.ClassFile.FieldType.int)) ∈ gw_T := List.mem_filter.mpr ⟨List.mem_append_right _ (List.mem_of_getElem? (i := 1051) (by decide +kernel)), rfl⟩
theorem tb_1055 : (Jvm.Cond.methodLink "GraphWalkerLaw" (99 : Nat) ({ cls := "GraphWalkerModel", name := "choose", desc := "(III)I" } : Jvm.MethodName)) ∈ gw_all := List.mem_filter.mpr ⟨List.mem_append_right _ (List.mem_of_getElem? (i := 1055) (by decide +kernel)), rfl⟩
theorem tb_1056 : (Jvm.Cond.instanceMethod ({ cls := "GraphWalkerModel", name := "choose", desc := "(III)I" } : Jvm.MethodName)) ∈ gw_all := List.mem_filter.mpr ⟨List.mem_append_right _ (List.mem_of_getElem? (i := 1056) (by decide +kernel)), rfl⟩
theorem tb_1057 : (Jvm.Cond.selects "GraphWalkerModel" ({ cls := "GraphWalkerModel", name := "choose", desc := "(III)I" } : Jvm.MethodName) ({ cls := "GraphWalkerModel", name := "choose", desc := "(III)I" } : Jvm.MethodName)) ∈ gw_all := List.mem_filter.mpr ⟨List.mem_append_right _ (List.mem_of_getElem? (i := 1057) (by decide +kernel)), rfl⟩
theorem tb_1058 : (Jvm.Cond.code ({ cls := "GraphWalkerModel", name := "choose", desc := "(III)I" } : Jvm.MethodName) prog_9_method_12_code (5 : Nat) (Option.some Jvm.ClassFile.FieldType.int)) ∈ gw_T := List.mem_filter.mpr ⟨List.mem_append_right _ (List.mem_of_getElem? (i := 1058) (by decide +kernel)), rfl⟩
theorem tb_1059 : (Jvm.Cond.methodLink "GraphWalkerLaw" (102 : Nat) ({ cls := "GraphWalkerModel", name := "lacks", desc := "(I)I" } : Jvm.MethodName)) ∈ gw_all := List.mem_filter.mpr ⟨List.mem_append_right _ (List.mem_of_getElem? (i := 1059) (by decide +kernel)), rfl⟩
theorem tb_1060 : (Jvm.Cond.instanceMethod ({ cls := "GraphWalkerModel", name := "lacks", desc := "(I)I" } : Jvm.MethodName)) ∈ gw_all := List.mem_filter.mpr ⟨List.mem_append_right _ (List.mem_of_getElem? (i := 1060) (by decide +kernel)), rfl⟩
theorem tb_1061 : (Jvm.Cond.selects "GraphWalkerModel" ({ cls := "GraphWalkerModel", name := "lacks", desc := "(I)I" } : Jvm.MethodName) ({ cls := "GraphWalkerModel", name := "lacks", desc := "(I)I" } : Jvm.MethodName)) ∈ gw_all := List.mem_filter.mpr ⟨List.mem_append_right _ (List.mem_of_getElem? (i := 1061) (by decide +kernel)), rfl⟩
theorem tb_1062 : (Jvm.Cond.code ({ cls := "GraphWalkerModel", name := "lacks", desc := "(I)I" } : Jvm.MethodName) prog_9_method_13_code (2 : Nat) (Option.some Jvm.ClassFile.FieldType.int)) ∈ gw_T := List.mem_filter.mpr ⟨List.mem_append_right _ (List.mem_of_getElem? (i := 1062) (by decide +kernel)), rfl⟩
theorem tb_1063 : (Jvm.Cond.methodLink "GraphWalkerLaw" (106 : Nat) ({ cls := "GraphWalkerModel", name := "begin", desc := "(IZ)V" } : Jvm.MethodName)) ∈ gw_all := List.mem_filter.mpr ⟨List.mem_append_right _ (List.mem_of_getElem? (i := 1063) (by decide +kernel)), rfl⟩
theorem tb_1064 : (Jvm.Cond.instanceMethod ({ cls := "GraphWalkerModel", name := "begin", desc := "(IZ)V" } : Jvm.MethodName)) ∈ gw_all := List.mem_filter.mpr ⟨List.mem_append_right _ (List.mem_of_getElem? (i := 1064) (by decide +kernel)), rfl⟩
theorem tb_1065 : (Jvm.Cond.selects "GraphWalkerModel" ({ cls := "GraphWalkerModel", name := "begin", desc := "(IZ)V" } : Jvm.MethodName) ({ cls := "GraphWalkerModel", name := "begin", desc := "(IZ)V" } : Jvm.MethodName)) ∈ gw_all := List.mem_filter.mpr ⟨List.mem_append_right _ (List.mem_of_getElem? (i := 1065) (by decide +kernel)), rfl⟩
theorem tb_1066 : (Jvm.Cond.code ({ cls := "GraphWalkerModel", name := "begin", desc := "(IZ)V" } : Jvm.MethodName) prog_9_method_14_code (3 : Nat) (Option.none : Option Jvm.ClassFile.FieldType)) ∈ gw_T := List.mem_filter.mpr ⟨List.mem_append_right _ (List.mem_of_getElem? (i := 1066) (by decide +kernel)), rfl⟩
theorem tb_1071 : (Jvm.Cond.methodLink "GraphWalkerLaw" (109 : Nat) ({ cls := "GraphWalkerModel", name := "run", desc := "(I)I" } : Jvm.MethodName)) ∈ gw_all := List.mem_filter.mpr ⟨List.mem_append_right _ (List.mem_of_getElem? (i := 1071) (by decide +kernel)), rfl⟩
theorem tb_1072 : (Jvm.Cond.instanceMethod ({ cls := "GraphWalkerModel", name := "run", desc := "(I)I" } : Jvm.MethodName)) ∈ gw_all := List.mem_filter.mpr ⟨List.mem_append_right _ (List.mem_of_getElem? (i := 1072) (by decide +kernel)), rfl⟩
theorem tb_1073 : (Jvm.Cond.selects "GraphWalkerModel" ({ cls := "GraphWalkerModel", name := "run", desc := "(I)I" } : Jvm.MethodName) ({ cls := "GraphWalkerModel", name := "run", desc := "(I)I" } : Jvm.MethodName)) ∈ gw_all := List.mem_filter.mpr ⟨List.mem_append_right _ (List.mem_of_getElem? (i := 1073) (by decide +kernel)), rfl⟩
theorem tb_1074 : (Jvm.Cond.code ({ cls := "GraphWalkerModel", name := "run", desc := "(I)I" } : Jvm.MethodName) prog_9_method_17_code (4 : Nat) (Option.some Jvm.ClassFile.FieldType.int)) ∈ gw_T := List.mem_filter.mpr ⟨List.mem_append_right _ (List.mem_of_getElem? (i := 1074) (by decide +kernel)), rfl⟩
theorem tb_1151 : (Jvm.Cond.methodLink "GraphWalkerLaw" (113 : Nat) ({ cls := "GraphWalkerModel", name := "into", desc := "(I)V" } : Jvm.MethodName)) ∈ gw_all := List.mem_filter.mpr ⟨List.mem_append_right _ (List.mem_of_getElem? (i := 1151) (by decide +kernel)), rfl⟩
theorem tb_1152 : (Jvm.Cond.instanceMethod ({ cls := "GraphWalkerModel", name := "into", desc := "(I)V" } : Jvm.MethodName)) ∈ gw_all := List.mem_filter.mpr ⟨List.mem_append_right _ (List.mem_of_getElem? (i := 1152) (by decide +kernel)), rfl⟩
theorem tb_1153 : (Jvm.Cond.selects "GraphWalkerModel" ({ cls := "GraphWalkerModel", name := "into", desc := "(I)V" } : Jvm.MethodName) ({ cls := "GraphWalkerModel", name := "into", desc := "(I)V" } : Jvm.MethodName)) ∈ gw_all := List.mem_filter.mpr ⟨List.mem_append_right _ (List.mem_of_getElem? (i := 1153) (by decide +kernel)), rfl⟩
theorem tb_1154 : (Jvm.Cond.code ({ cls := "GraphWalkerModel", name := "into", desc := "(I)V" } : Jvm.MethodName) prog_9_method_31_code (2 : Nat) (Option.none : Option Jvm.ClassFile.FieldType)) ∈ gw_T := List.mem_filter.mpr ⟨List.mem_append_right _ (List.mem_of_getElem? (i := 1154) (by decide +kernel)), rfl⟩
theorem tb_1155 : (Jvm.Cond.methodLink "GraphWalkerLaw" (117 : Nat) ({ cls := "GraphWalkerModel", name := "outcome", desc := "()I" } : Jvm.MethodName)) ∈ gw_all := List.mem_filter.mpr ⟨List.mem_append_right _ (List.mem_of_getElem? (i := 1155) (by decide +kernel)), rfl⟩
theorem tb_1156 : (Jvm.Cond.instanceMethod ({ cls := "GraphWalkerModel", name := "outcome", desc := "()I" } : Jvm.MethodName)) ∈ gw_all := List.mem_filter.mpr ⟨List.mem_append_right _ (List.mem_of_getElem? (i := 1156) (by decide +kernel)), rfl⟩
theorem tb_1157 : (Jvm.Cond.selects "GraphWalkerModel" ({ cls := "GraphWalkerModel", name := "outcome", desc := "()I" } : Jvm.MethodName) ({ cls := "GraphWalkerModel", name := "outcome", desc := "()I" } : Jvm.MethodName)) ∈ gw_all := List.mem_filter.mpr ⟨List.mem_append_right _ (List.mem_of_getElem? (i := 1157) (by decide +kernel)), rfl⟩
theorem tb_1158 : (Jvm.Cond.code ({ cls := "GraphWalkerModel", name := "outcome", desc := "()I" } : Jvm.MethodName) prog_9_method_32_code (1 : Nat) (Option.some Jvm.ClassFile.FieldType.int)) ∈ gw_T := List.mem_filter.mpr ⟨List.mem_append_right _ (List.mem_of_getElem? (i := 1158) (by decide +kernel)), rfl⟩
theorem tb_1159 : (Jvm.Cond.methodLink "GraphWalkerLaw" (121 : Nat) ({ cls := "GraphWalkerModel", name := "sort", desc := "()I" } : Jvm.MethodName)) ∈ gw_all := List.mem_filter.mpr ⟨List.mem_append_right _ (List.mem_of_getElem? (i := 1159) (by decide +kernel)), rfl⟩
theorem tb_1160 : (Jvm.Cond.instanceMethod ({ cls := "GraphWalkerModel", name := "sort", desc := "()I" } : Jvm.MethodName)) ∈ gw_all := List.mem_filter.mpr ⟨List.mem_append_right _ (List.mem_of_getElem? (i := 1160) (by decide +kernel)), rfl⟩
theorem tb_1161 : (Jvm.Cond.selects "GraphWalkerModel" ({ cls := "GraphWalkerModel", name := "sort", desc := "()I" } : Jvm.MethodName) ({ cls := "GraphWalkerModel", name := "sort", desc := "()I" } : Jvm.MethodName)) ∈ gw_all := List.mem_filter.mpr ⟨List.mem_append_right _ (List.mem_of_getElem? (i := 1161) (by decide +kernel)), rfl⟩
theorem tb_1162 : (Jvm.Cond.code ({ cls := "GraphWalkerModel", name := "sort", desc := "()I" } : Jvm.MethodName) prog_9_method_33_code (1 : Nat) (Option.some Jvm.ClassFile.FieldType.int)) ∈ gw_T := List.mem_filter.mpr ⟨List.mem_append_right _ (List.mem_of_getElem? (i := 1162) (by decide +kernel)), rfl⟩
theorem tb_1163 : (Jvm.Cond.methodLink "GraphWalkerLaw" (126 : Nat) ({ cls := "GraphWalkerModel", name := "value", desc := "()J" } : Jvm.MethodName)) ∈ gw_all := List.mem_filter.mpr ⟨List.mem_append_right _ (List.mem_of_getElem? (i := 1163) (by decide +kernel)), rfl⟩
theorem tb_1164 : (Jvm.Cond.instanceMethod ({ cls := "GraphWalkerModel", name := "value", desc := "()J" } : Jvm.MethodName)) ∈ gw_all := List.mem_filter.mpr ⟨List.mem_append_right _ (List.mem_of_getElem? (i := 1164) (by decide +kernel)), rfl⟩
theorem tb_1165 : (Jvm.Cond.selects "GraphWalkerModel" ({ cls := "GraphWalkerModel", name := "value", desc := "()J" } : Jvm.MethodName) ({ cls := "GraphWalkerModel", name := "value", desc := "()J" } : Jvm.MethodName)) ∈ gw_all := List.mem_filter.mpr ⟨List.mem_append_right _ (List.mem_of_getElem? (i := 1165) (by decide +kernel)), rfl⟩
theorem tb_1166 : (Jvm.Cond.code ({ cls := "GraphWalkerModel", name := "value", desc := "()J" } : Jvm.MethodName) prog_9_method_34_code (1 : Nat) (Option.some Jvm.ClassFile.FieldType.long)) ∈ gw_T := List.mem_filter.mpr ⟨List.mem_append_right _ (List.mem_of_getElem? (i := 1166) (by decide +kernel)), rfl⟩
theorem tb_1167 : (Jvm.Cond.methodLink "GraphWalkerLaw" (129 : Nat) ({ cls := "GraphWalkerModel", name := "told", desc := "(I)I" } : Jvm.MethodName)) ∈ gw_all := List.mem_filter.mpr ⟨List.mem_append_right _ (List.mem_of_getElem? (i := 1167) (by decide +kernel)), rfl⟩
theorem tb_1168 : (Jvm.Cond.instanceMethod ({ cls := "GraphWalkerModel", name := "told", desc := "(I)I" } : Jvm.MethodName)) ∈ gw_all := List.mem_filter.mpr ⟨List.mem_append_right _ (List.mem_of_getElem? (i := 1168) (by decide +kernel)), rfl⟩
theorem tb_1169 : (Jvm.Cond.selects "GraphWalkerModel" ({ cls := "GraphWalkerModel", name := "told", desc := "(I)I" } : Jvm.MethodName) ({ cls := "GraphWalkerModel", name := "told", desc := "(I)I" } : Jvm.MethodName)) ∈ gw_all := List.mem_filter.mpr ⟨List.mem_append_right _ (List.mem_of_getElem? (i := 1169) (by decide +kernel)), rfl⟩
theorem tb_1170 : (Jvm.Cond.code ({ cls := "GraphWalkerModel", name := "told", desc := "(I)I" } : Jvm.MethodName) prog_9_method_35_code (2 : Nat) (Option.some Jvm.ClassFile.FieldType.int)) ∈ gw_T := List.mem_filter.mpr ⟨List.mem_append_right _ (List.mem_of_getElem? (i := 1170) (by decide +kernel)), rfl⟩
theorem tb_1171 : (Jvm.Cond.methodLink "GraphWalkerLaw" (132 : Nat) ({ cls := "GraphWalkerModel", name := "thing", desc := "(I)I" } : Jvm.MethodName)) ∈ gw_all := List.mem_filter.mpr ⟨List.mem_append_right _ (List.mem_of_getElem? (i := 1171) (by decide +kernel)), rfl⟩
theorem tb_1172 : (Jvm.Cond.instanceMethod ({ cls := "GraphWalkerModel", name := "thing", desc := "(I)I" } : Jvm.MethodName)) ∈ gw_all := List.mem_filter.mpr ⟨List.mem_append_right _ (List.mem_of_getElem? (i := 1172) (by decide +kernel)), rfl⟩
theorem tb_1173 : (Jvm.Cond.selects "GraphWalkerModel" ({ cls := "GraphWalkerModel", name := "thing", desc := "(I)I" } : Jvm.MethodName) ({ cls := "GraphWalkerModel", name := "thing", desc := "(I)I" } : Jvm.MethodName)) ∈ gw_all := List.mem_filter.mpr ⟨List.mem_append_right _ (List.mem_of_getElem? (i := 1173) (by decide +kernel)), rfl⟩
theorem tb_1174 : (Jvm.Cond.code ({ cls := "GraphWalkerModel", name := "thing", desc := "(I)I" } : Jvm.MethodName) prog_9_method_37_code (2 : Nat) (Option.some Jvm.ClassFile.FieldType.int)) ∈ gw_T := List.mem_filter.mpr ⟨List.mem_append_right _ (List.mem_of_getElem? (i := 1174) (by decide +kernel)), rfl⟩
theorem tb_1179 : (Jvm.Cond.methodLink "GraphWalkerLaw" (135 : Nat) ({ cls := "GraphWalkerModel", name := "worked", desc := "(II)I" } : Jvm.MethodName)) ∈ gw_all := List.mem_filter.mpr ⟨List.mem_append_right _ (List.mem_of_getElem? (i := 1179) (by decide +kernel)), rfl⟩
theorem tb_1180 : (Jvm.Cond.instanceMethod ({ cls := "GraphWalkerModel", name := "worked", desc := "(II)I" } : Jvm.MethodName)) ∈ gw_all := List.mem_filter.mpr ⟨List.mem_append_right _ (List.mem_of_getElem? (i := 1180) (by decide +kernel)), rfl⟩
theorem tb_1181 : (Jvm.Cond.selects "GraphWalkerModel" ({ cls := "GraphWalkerModel", name := "worked", desc := "(II)I" } : Jvm.MethodName) ({ cls := "GraphWalkerModel", name := "worked", desc := "(II)I" } : Jvm.MethodName)) ∈ gw_all := List.mem_filter.mpr ⟨List.mem_append_right _ (List.mem_of_getElem? (i := 1181) (by decide +kernel)), rfl⟩
theorem tb_1182 : (Jvm.Cond.code ({ cls := "GraphWalkerModel", name := "worked", desc := "(II)I" } : Jvm.MethodName) prog_9_method_38_code (3 : Nat) (Option.some Jvm.ClassFile.FieldType.int)) ∈ gw_T := List.mem_filter.mpr ⟨List.mem_append_right _ (List.mem_of_getElem? (i := 1182) (by decide +kernel)), rfl⟩
theorem tb_1183 : (Jvm.Cond.methodLink "GraphWalkerLaw" (138 : Nat) ({ cls := "GraphWalkerModel", name := "ring", desc := "(I)I" } : Jvm.MethodName)) ∈ gw_all := List.mem_filter.mpr ⟨List.mem_append_right _ (List.mem_of_getElem? (i := 1183) (by decide +kernel)), rfl⟩
theorem tb_1184 : (Jvm.Cond.instanceMethod ({ cls := "GraphWalkerModel", name := "ring", desc := "(I)I" } : Jvm.MethodName)) ∈ gw_all := List.mem_filter.mpr ⟨List.mem_append_right _ (List.mem_of_getElem? (i := 1184) (by decide +kernel)), rfl⟩
theorem tb_1185 : (Jvm.Cond.selects "GraphWalkerModel" ({ cls := "GraphWalkerModel", name := "ring", desc := "(I)I" } : Jvm.MethodName) ({ cls := "GraphWalkerModel", name := "ring", desc := "(I)I" } : Jvm.MethodName)) ∈ gw_all := List.mem_filter.mpr ⟨List.mem_append_right _ (List.mem_of_getElem? (i := 1185) (by decide +kernel)), rfl⟩
theorem tb_1186 : (Jvm.Cond.code ({ cls := "GraphWalkerModel", name := "ring", desc := "(I)I" } : Jvm.MethodName) prog_9_method_39_code (5 : Nat) (Option.some Jvm.ClassFile.FieldType.int)) ∈ gw_T := List.mem_filter.mpr ⟨List.mem_append_right _ (List.mem_of_getElem? (i := 1186) (by decide +kernel)), rfl⟩
theorem tb_1187 : (Jvm.Cond.methodLink "GraphWalkerLaw" (141 : Nat) ({ cls := "GraphWalkerModel", name := "entry", desc := "(I)I" } : Jvm.MethodName)) ∈ gw_all := List.mem_filter.mpr ⟨List.mem_append_right _ (List.mem_of_getElem? (i := 1187) (by decide +kernel)), rfl⟩
theorem tb_1188 : (Jvm.Cond.instanceMethod ({ cls := "GraphWalkerModel", name := "entry", desc := "(I)I" } : Jvm.MethodName)) ∈ gw_all := List.mem_filter.mpr ⟨List.mem_append_right _ (List.mem_of_getElem? (i := 1188) (by decide +kernel)), rfl⟩
theorem tb_1189 : (Jvm.Cond.selects "GraphWalkerModel" ({ cls := "GraphWalkerModel", name := "entry", desc := "(I)I" } : Jvm.MethodName) ({ cls := "GraphWalkerModel", name := "entry", desc := "(I)I" } : Jvm.MethodName)) ∈ gw_all := List.mem_filter.mpr ⟨List.mem_append_right _ (List.mem_of_getElem? (i := 1189) (by decide +kernel)), rfl⟩
theorem tb_1190 : (Jvm.Cond.code ({ cls := "GraphWalkerModel", name := "entry", desc := "(I)I" } : Jvm.MethodName) prog_9_method_40_code (2 : Nat) (Option.some Jvm.ClassFile.FieldType.int)) ∈ gw_T := List.mem_filter.mpr ⟨List.mem_append_right _ (List.mem_of_getElem? (i := 1190) (by decide +kernel)), rfl⟩
theorem tb_1191 : (Jvm.Cond.methodLink "GraphWalkerLaw" (145 : Nat) ({ cls := "GraphWalkerModel", name := "collect", desc := "()I" } : Jvm.MethodName)) ∈ gw_all := List.mem_filter.mpr ⟨List.mem_append_right _ (List.mem_of_getElem? (i := 1191) (by decide +kernel)), rfl⟩
theorem tb_1192 : (Jvm.Cond.instanceMethod ({ cls := "GraphWalkerModel", name := "collect", desc := "()I" } : Jvm.MethodName)) ∈ gw_all := List.mem_filter.mpr ⟨List.mem_append_right _ (List.mem_of_getElem? (i := 1192) (by decide +kernel)), rfl⟩
theorem tb_1193 : (Jvm.Cond.selects "GraphWalkerModel" ({ cls := "GraphWalkerModel", name := "collect", desc := "()I" } : Jvm.MethodName) ({ cls := "GraphWalkerModel", name := "collect", desc := "()I" } : Jvm.MethodName)) ∈ gw_all := List.mem_filter.mpr ⟨List.mem_append_right _ (List.mem_of_getElem? (i := 1193) (by decide +kernel)), rfl⟩
theorem tb_1194 : (Jvm.Cond.code ({ cls := "GraphWalkerModel", name := "collect", desc := "()I" } : Jvm.MethodName) prog_9_method_46_code (1 : Nat) (Option.some Jvm.ClassFile.FieldType.int)) ∈ gw_T := List.mem_filter.mpr ⟨List.mem_append_right _ (List.mem_of_getElem? (i := 1194) (by decide +kernel)), rfl⟩
theorem tb_1195 : (Jvm.Cond.methodLink "GraphWalkerLaw" (148 : Nat) ({ cls := "GraphWalkerModel", name := "every", desc := "(I)I" } : Jvm.MethodName)) ∈ gw_all := List.mem_filter.mpr ⟨List.mem_append_right _ (List.mem_of_getElem? (i := 1195) (by decide +kernel)), rfl⟩
theorem tb_1196 : (Jvm.Cond.instanceMethod ({ cls := "GraphWalkerModel", name := "every", desc := "(I)I" } : Jvm.MethodName)) ∈ gw_all := List.mem_filter.mpr ⟨List.mem_append_right _ (List.mem_of_getElem? (i := 1196) (by decide +kernel)), rfl⟩
theorem tb_1197 : (Jvm.Cond.selects "GraphWalkerModel" ({ cls := "GraphWalkerModel", name := "every", desc := "(I)I" } : Jvm.MethodName) ({ cls := "GraphWalkerModel", name := "every", desc := "(I)I" } : Jvm.MethodName)) ∈ gw_all := List.mem_filter.mpr ⟨List.mem_append_right _ (List.mem_of_getElem? (i := 1197) (by decide +kernel)), rfl⟩
theorem tb_1198 : (Jvm.Cond.code ({ cls := "GraphWalkerModel", name := "every", desc := "(I)I" } : Jvm.MethodName) prog_9_method_47_code (3 : Nat) (Option.some Jvm.ClassFile.FieldType.int)) ∈ gw_T := List.mem_filter.mpr ⟨List.mem_append_right _ (List.mem_of_getElem? (i := 1198) (by decide +kernel)), rfl⟩
theorem tb_1199 : (Jvm.Cond.constantLong "GraphWalkerLaw" (74 : Nat) (4294967295 : Int64)) ∈ gw_all := List.mem_filter.mpr ⟨List.mem_append_right _ (List.mem_of_getElem? (i := 1199) (by decide +kernel)), rfl⟩
theorem tbW_269 : (Jvm.Cond.codeWith ({ cls := "GraphWalkerLaw", name := "number", desc := "(LGraphWalker;J[J)I" } : Jvm.MethodName) method_3_code (5 : Nat) (Option.some Jvm.ClassFile.FieldType.int) [((0 : Nat), (9 : Nat), (12 : Nat), (13 : Nat))]) ∈ gw_T := List.mem_filter.mpr ⟨List.mem_append_right _ (List.mem_of_getElem? (i := 269) (by decide +kernel)), rfl⟩
theorem tbW_361 : (Jvm.Cond.codeWith ({ cls := "GraphWalkerLaw", name := "variable", desc := "(LGraphWalker;I[J)I" } : Jvm.MethodName) method_4_code (4 : Nat) (Option.some Jvm.ClassFile.FieldType.int) [((0 : Nat), (9 : Nat), (12 : Nat), (13 : Nat)), ((0 : Nat), (9 : Nat), (15 : Nat), (19 : Nat))]) ∈ gw_T := List.mem_filter.mpr ⟨List.mem_append_right _ (List.mem_of_getElem? (i := 361) (by decide +kernel)), rfl⟩
theorem tbW_389 : (Jvm.Cond.codeWith ({ cls := "GraphWalkerLaw", name := "one", desc := "(LGraphWalker;II[J)I" } : Jvm.MethodName) method_5_code (5 : Nat) (Option.some Jvm.ClassFile.FieldType.int) [((0 : Nat), (10 : Nat), (13 : Nat), (25 : Nat)), ((0 : Nat), (10 : Nat), (17 : Nat), (13 : Nat)), ((0 : Nat), (10 : Nat), (21 : Nat), (19 : Nat))]) ∈ gw_T := List.mem_filter.mpr ⟨List.mem_append_right _ (List.mem_of_getElem? (i := 389) (by decide +kernel)), rfl⟩
theorem tbW_437 : (Jvm.Cond.codeWith ({ cls := "GraphWalkerLaw", name := "two", desc := "(LGraphWalker;III[J)I" } : Jvm.MethodName) method_6_code (6 : Nat) (Option.some Jvm.ClassFile.FieldType.int) [((0 : Nat), (12 : Nat), (15 : Nat), (25 : Nat)), ((0 : Nat), (12 : Nat), (19 : Nat), (13 : Nat)), ((0 : Nat), (12 : Nat), (23 : Nat), (19 : Nat))]) ∈ gw_T := List.mem_filter.mpr ⟨List.mem_append_right _ (List.mem_of_getElem? (i := 437) (by decide +kernel)), rfl⟩
theorem tbW_449 : (Jvm.Cond.codeWith ({ cls := "GraphWalkerLaw", name := "choose", desc := "(LGraphWalker;III[J)I" } : Jvm.MethodName) method_7_code (6 : Nat) (Option.some Jvm.ClassFile.FieldType.int) [((0 : Nat), (12 : Nat), (15 : Nat), (25 : Nat)), ((0 : Nat), (12 : Nat), (19 : Nat), (13 : Nat))]) ∈ gw_T := List.mem_filter.mpr ⟨List.mem_append_right _ (List.mem_of_getElem? (i := 449) (by decide +kernel)), rfl⟩
theorem tbW_460 : (Jvm.Cond.codeWith ({ cls := "GraphWalkerLaw", name := "lacks", desc := "(LGraphWalker;I[J)I" } : Jvm.MethodName) method_8_code (4 : Nat) (Option.some Jvm.ClassFile.FieldType.int) [((0 : Nat), (9 : Nat), (12 : Nat), (25 : Nat))]) ∈ gw_T := List.mem_filter.mpr ⟨List.mem_append_right _ (List.mem_of_getElem? (i := 460) (by decide +kernel)), rfl⟩
theorem tbW_468 : (Jvm.Cond.codeWith ({ cls := "GraphWalkerLaw", name := "begin", desc := "(LGraphWalker;IZ)I" } : Jvm.MethodName) method_9_code (4 : Nat) (Option.some Jvm.ClassFile.FieldType.int) [((0 : Nat), (6 : Nat), (9 : Nat), (25 : Nat)), ((0 : Nat), (6 : Nat), (12 : Nat), (13 : Nat))]) ∈ gw_T := List.mem_filter.mpr ⟨List.mem_append_right _ (List.mem_of_getElem? (i := 468) (by decide +kernel)), rfl⟩
theorem tbW_504 : (Jvm.Cond.codeWith ({ cls := "GraphWalkerLaw", name := "run", desc := "(LGraphWalker;I[J)I" } : Jvm.MethodName) method_10_code (4 : Nat) (Option.some Jvm.ClassFile.FieldType.int) [((0 : Nat), (9 : Nat), (12 : Nat), (13 : Nat)), ((0 : Nat), (9 : Nat), (15 : Nat), (19 : Nat))]) ∈ gw_T := List.mem_filter.mpr ⟨List.mem_append_right _ (List.mem_of_getElem? (i := 504) (by decide +kernel)), rfl⟩
theorem tbW_773 : (Jvm.Cond.codeWith ({ cls := "GraphWalkerLaw", name := "into", desc := "(LGraphWalker;I)I" } : Jvm.MethodName) method_11_code (3 : Nat) (Option.some Jvm.ClassFile.FieldType.int) [((0 : Nat), (5 : Nat), (8 : Nat), (13 : Nat)), ((0 : Nat), (5 : Nat), (11 : Nat), (19 : Nat))]) ∈ gw_T := List.mem_filter.mpr ⟨List.mem_append_right _ (List.mem_of_getElem? (i := 773) (by decide +kernel)), rfl⟩
theorem tbW_786 : (Jvm.Cond.codeWith ({ cls := "GraphWalkerLaw", name := "told", desc := "(LGraphWalker;I[J)I" } : Jvm.MethodName) method_12_code (4 : Nat) (Option.some Jvm.ClassFile.FieldType.int) [((0 : Nat), (9 : Nat), (12 : Nat), (19 : Nat))]) ∈ gw_T := List.mem_filter.mpr ⟨List.mem_append_right _ (List.mem_of_getElem? (i := 786) (by decide +kernel)), rfl⟩
theorem tbW_798 : (Jvm.Cond.codeWith ({ cls := "GraphWalkerLaw", name := "thing", desc := "(LGraphWalker;I[J)I" } : Jvm.MethodName) method_13_code (4 : Nat) (Option.some Jvm.ClassFile.FieldType.int) [((0 : Nat), (9 : Nat), (12 : Nat), (25 : Nat))]) ∈ gw_T := List.mem_filter.mpr ⟨List.mem_append_right _ (List.mem_of_getElem? (i := 798) (by decide +kernel)), rfl⟩
theorem tbW_812 : (Jvm.Cond.codeWith ({ cls := "GraphWalkerLaw", name := "worked", desc := "(LGraphWalker;II[J)I" } : Jvm.MethodName) method_14_code (5 : Nat) (Option.some Jvm.ClassFile.FieldType.int) [((0 : Nat), (10 : Nat), (13 : Nat), (25 : Nat)), ((0 : Nat), (10 : Nat), (17 : Nat), (19 : Nat))]) ∈ gw_T := List.mem_filter.mpr ⟨List.mem_append_right _ (List.mem_of_getElem? (i := 812) (by decide +kernel)), rfl⟩
theorem tbW_829 : (Jvm.Cond.codeWith ({ cls := "GraphWalkerLaw", name := "ring", desc := "(LGraphWalker;I[J)I" } : Jvm.MethodName) method_15_code (4 : Nat) (Option.some Jvm.ClassFile.FieldType.int) [((0 : Nat), (9 : Nat), (12 : Nat), (25 : Nat))]) ∈ gw_T := List.mem_filter.mpr ⟨List.mem_append_right _ (List.mem_of_getElem? (i := 829) (by decide +kernel)), rfl⟩
theorem tbW_841 : (Jvm.Cond.codeWith ({ cls := "GraphWalkerLaw", name := "entry", desc := "(LGraphWalker;I[J)I" } : Jvm.MethodName) method_16_code (4 : Nat) (Option.some Jvm.ClassFile.FieldType.int) [((0 : Nat), (9 : Nat), (12 : Nat), (25 : Nat))]) ∈ gw_T := List.mem_filter.mpr ⟨List.mem_append_right _ (List.mem_of_getElem? (i := 841) (by decide +kernel)), rfl⟩
theorem tbW_851 : (Jvm.Cond.codeWith ({ cls := "GraphWalkerLaw", name := "collect", desc := "(LGraphWalker;[J)I" } : Jvm.MethodName) method_17_code (3 : Nat) (Option.some Jvm.ClassFile.FieldType.int) [((0 : Nat), (8 : Nat), (11 : Nat), (13 : Nat))]) ∈ gw_T := List.mem_filter.mpr ⟨List.mem_append_right _ (List.mem_of_getElem? (i := 851) (by decide +kernel)), rfl⟩
theorem tbW_859 : (Jvm.Cond.codeWith ({ cls := "GraphWalkerLaw", name := "every", desc := "(LGraphWalker;I[J)I" } : Jvm.MethodName) method_18_code (4 : Nat) (Option.some Jvm.ClassFile.FieldType.int) [((0 : Nat), (9 : Nat), (12 : Nat), (19 : Nat))]) ∈ gw_T := List.mem_filter.mpr ⟨List.mem_append_right _ (List.mem_of_getElem? (i := 859) (by decide +kernel)), rfl⟩
theorem tbI_La : (Jvm.Cond.initialized "GraphWalkerLaw") ∈ gw_T := List.mem_filter.mpr ⟨List.mem_append_right _ (List.mem_of_getElem? (i := 0) (by decide +kernel)), rfl⟩
theorem d_La_law_0 : decode code 0 = .ok (.new 8, 3) := by decide +kernel
theorem d_La_law_3 : decode code 3 = .ok (.dup, 1) := by decide +kernel
theorem d_La_law_4 : decode code 4 = .ok (.invokespecial 70, 3) := by decide +kernel
theorem d_La_law_7 : decode code 7 = .ok (.astore_n 1, 1) := by decide +kernel
theorem d_La_law_8 : decode code 8 = .ok (.new 71, 3) := by decide +kernel
theorem d_La_law_11 : decode code 11 = .ok (.dup, 1) := by decide +kernel
theorem d_La_law_12 : decode code 12 = .ok (.invokespecial 73, 3) := by decide +kernel
theorem d_La_law_15 : decode code 15 = .ok (.astore_n 2, 1) := by decide +kernel
theorem d_La_law_16 : decode code 16 = .ok (.iconst 1, 1) := by decide +kernel
theorem d_La_law_17 : decode code 17 = .ok (.newarray .long, 2) := by decide +kernel
theorem d_La_law_19 : decode code 19 = .ok (.astore_n 3, 1) := by decide +kernel
theorem d_La_law_20 : decode code 20 = .ok (.iconst 0, 1) := by decide +kernel
theorem d_La_law_21 : decode code 21 = .ok (.istore 4, 2) := by decide +kernel
theorem d_La_law_23 : decode code 23 = .ok (.iload 4, 2) := by decide +kernel
theorem d_La_law_25 : decode code 25 = .ok (.aload_n 0, 1) := by decide +kernel
theorem d_La_law_26 : decode code 26 = .ok (.arraylength, 1) := by decide +kernel
theorem d_La_law_27 : decode code 27 = .ok (.iconst 4, 1) := by decide +kernel
theorem d_La_law_28 : decode code 28 = .ok (.isub, 1) := by decide +kernel
theorem d_La_law_29 : decode code 29 = .ok (.if_icmp .gt 1121, 3) := by decide +kernel
theorem d_La_law_32 : decode code 32 = .ok (.aload_n 0, 1) := by decide +kernel
theorem d_La_law_33 : decode code 33 = .ok (.iload 4, 2) := by decide +kernel
theorem d_La_law_35 : decode code 35 = .ok (.iaload, 1) := by decide +kernel
theorem d_La_law_36 : decode code 36 = .ok (.bipush 31, 2) := by decide +kernel
theorem d_La_law_38 : decode code 38 = .ok (.iand, 1) := by decide +kernel
theorem d_La_law_39 : decode code 39 = .ok (.tableswitch 1105 0 18 #[89, 177, 233, 301, 381, 461, 517, 581, 637, 673, 686, 699, 713, 769, 825, 893, 949, 1005, 1049], 89) := by decide +kernel
theorem d_La_law_128 : decode code 128 = .ok (.aload_n 1, 1) := by decide +kernel
theorem d_La_law_129 : decode code 129 = .ok (.aload_n 0, 1) := by decide +kernel
theorem d_La_law_130 : decode code 130 = .ok (.iload 4, 2) := by decide +kernel
theorem d_La_law_132 : decode code 132 = .ok (.iconst 1, 1) := by decide +kernel
theorem d_La_law_133 : decode code 133 = .ok (.iadd, 1) := by decide +kernel
theorem d_La_law_134 : decode code 134 = .ok (.iaload, 1) := by decide +kernel
theorem d_La_law_135 : decode code 135 = .ok (.i2l, 1) := by decide +kernel
theorem d_La_law_136 : decode code 136 = .ok (.bipush 32, 2) := by decide +kernel
theorem d_La_law_138 : decode code 138 = .ok (.lshl, 1) := by decide +kernel
theorem d_La_law_139 : decode code 139 = .ok (.aload_n 0, 1) := by decide +kernel
theorem d_La_law_140 : decode code 140 = .ok (.iload 4, 2) := by decide +kernel
theorem d_La_law_142 : decode code 142 = .ok (.iconst 2, 1) := by decide +kernel
theorem d_La_law_143 : decode code 143 = .ok (.iadd, 1) := by decide +kernel
theorem d_La_law_144 : decode code 144 = .ok (.iaload, 1) := by decide +kernel
theorem d_La_law_145 : decode code 145 = .ok (.i2l, 1) := by decide +kernel
theorem d_La_law_146 : decode code 146 = .ok (.ldc2_w 74, 3) := by decide +kernel
theorem d_La_law_149 : decode code 149 = .ok (.land, 1) := by decide +kernel
theorem d_La_law_150 : decode code 150 = .ok (.lor, 1) := by decide +kernel
theorem d_La_law_151 : decode code 151 = .ok (.aload_n 3, 1) := by decide +kernel
theorem d_La_law_152 : decode code 152 = .ok (.invokestatic 76, 3) := by decide +kernel
theorem d_La_law_155 : decode code 155 = .ok (.istore 5, 2) := by decide +kernel
theorem d_La_law_157 : decode code 157 = .ok (.aload_n 2, 1) := by decide +kernel
theorem d_La_law_158 : decode code 158 = .ok (.aload_n 0, 1) := by decide +kernel
theorem d_La_law_159 : decode code 159 = .ok (.iload 4, 2) := by decide +kernel
theorem d_La_law_161 : decode code 161 = .ok (.iconst 1, 1) := by decide +kernel
theorem d_La_law_162 : decode code 162 = .ok (.iadd, 1) := by decide +kernel
theorem d_La_law_163 : decode code 163 = .ok (.iaload, 1) := by decide +kernel
theorem d_La_law_164 : decode code 164 = .ok (.i2l, 1) := by decide +kernel
theorem d_La_law_165 : decode code 165 = .ok (.bipush 32, 2) := by decide +kernel
theorem d_La_law_167 : decode code 167 = .ok (.lshl, 1) := by decide +kernel
theorem d_La_law_168 : decode code 168 = .ok (.aload_n 0, 1) := by decide +kernel
theorem d_La_law_169 : decode code 169 = .ok (.iload 4, 2) := by decide +kernel
theorem d_La_law_171 : decode code 171 = .ok (.iconst 2, 1) := by decide +kernel
theorem d_La_law_172 : decode code 172 = .ok (.iadd, 1) := by decide +kernel
theorem d_La_law_173 : decode code 173 = .ok (.iaload, 1) := by decide +kernel
theorem d_La_law_174 : decode code 174 = .ok (.i2l, 1) := by decide +kernel
theorem d_La_law_175 : decode code 175 = .ok (.ldc2_w 74, 3) := by decide +kernel
theorem d_La_law_178 : decode code 178 = .ok (.land, 1) := by decide +kernel
theorem d_La_law_179 : decode code 179 = .ok (.lor, 1) := by decide +kernel
theorem d_La_law_180 : decode code 180 = .ok (.invokevirtual 81, 3) := by decide +kernel
theorem d_La_law_183 : decode code 183 = .ok (.istore 6, 2) := by decide +kernel
theorem d_La_law_185 : decode code 185 = .ok (.aload_n 2, 1) := by decide +kernel
theorem d_La_law_186 : decode code 186 = .ok (.invokevirtual 82, 3) := by decide +kernel
theorem d_La_law_189 : decode code 189 = .ok (.iload 5, 2) := by decide +kernel
theorem d_La_law_191 : decode code 191 = .ok (.if_icmp .eq 5, 3) := by decide +kernel
theorem d_La_law_194 : decode code 194 = .ok (.iconst 0, 1) := by decide +kernel
theorem d_La_law_195 : decode code 195 = .ok (.ireturn, 1) := by decide +kernel
theorem d_La_law_196 : decode code 196 = .ok (.iload 5, 2) := by decide +kernel
theorem d_La_law_198 : decode code 198 = .ok (.ifCond .ne 15, 3) := by decide +kernel
theorem d_La_law_201 : decode code 201 = .ok (.aload_n 3, 1) := by decide +kernel
theorem d_La_law_202 : decode code 202 = .ok (.iconst 0, 1) := by decide +kernel
theorem d_La_law_203 : decode code 203 = .ok (.laload, 1) := by decide +kernel
theorem d_La_law_204 : decode code 204 = .ok (.iload 6, 2) := by decide +kernel
theorem d_La_law_206 : decode code 206 = .ok (.i2l, 1) := by decide +kernel
theorem d_La_law_207 : decode code 207 = .ok (.lcmp, 1) := by decide +kernel
theorem d_La_law_208 : decode code 208 = .ok (.ifCond .eq 5, 3) := by decide +kernel
theorem d_La_law_211 : decode code 211 = .ok (.iconst 0, 1) := by decide +kernel
theorem d_La_law_212 : decode code 212 = .ok (.ireturn, 1) := by decide +kernel
theorem d_La_law_213 : decode code 213 = .ok (.goto 931, 3) := by decide +kernel
theorem d_La_law_216 : decode code 216 = .ok (.aload_n 1, 1) := by decide +kernel
theorem d_La_law_217 : decode code 217 = .ok (.aload_n 0, 1) := by decide +kernel
theorem d_La_law_218 : decode code 218 = .ok (.iload 4, 2) := by decide +kernel
theorem d_La_law_220 : decode code 220 = .ok (.iconst 1, 1) := by decide +kernel
theorem d_La_law_221 : decode code 221 = .ok (.iadd, 1) := by decide +kernel
theorem d_La_law_222 : decode code 222 = .ok (.iaload, 1) := by decide +kernel
theorem d_La_law_223 : decode code 223 = .ok (.aload_n 3, 1) := by decide +kernel
theorem d_La_law_224 : decode code 224 = .ok (.invokestatic 85, 3) := by decide +kernel
theorem d_La_law_227 : decode code 227 = .ok (.istore 5, 2) := by decide +kernel
theorem d_La_law_229 : decode code 229 = .ok (.aload_n 2, 1) := by decide +kernel
theorem d_La_law_230 : decode code 230 = .ok (.aload_n 0, 1) := by decide +kernel
theorem d_La_law_231 : decode code 231 = .ok (.iload 4, 2) := by decide +kernel
theorem d_La_law_233 : decode code 233 = .ok (.iconst 1, 1) := by decide +kernel
theorem d_La_law_234 : decode code 234 = .ok (.iadd, 1) := by decide +kernel
theorem d_La_law_235 : decode code 235 = .ok (.iaload, 1) := by decide +kernel
theorem d_La_law_236 : decode code 236 = .ok (.invokevirtual 88, 3) := by decide +kernel
theorem d_La_law_239 : decode code 239 = .ok (.istore 6, 2) := by decide +kernel
theorem d_La_law_241 : decode code 241 = .ok (.aload_n 2, 1) := by decide +kernel
theorem d_La_law_242 : decode code 242 = .ok (.invokevirtual 82, 3) := by decide +kernel
theorem d_La_law_245 : decode code 245 = .ok (.iload 5, 2) := by decide +kernel
theorem d_La_law_247 : decode code 247 = .ok (.if_icmp .eq 5, 3) := by decide +kernel
theorem d_La_law_250 : decode code 250 = .ok (.iconst 0, 1) := by decide +kernel
theorem d_La_law_251 : decode code 251 = .ok (.ireturn, 1) := by decide +kernel
theorem d_La_law_252 : decode code 252 = .ok (.iload 5, 2) := by decide +kernel
theorem d_La_law_254 : decode code 254 = .ok (.ifCond .ne 15, 3) := by decide +kernel
theorem d_La_law_257 : decode code 257 = .ok (.aload_n 3, 1) := by decide +kernel
theorem d_La_law_258 : decode code 258 = .ok (.iconst 0, 1) := by decide +kernel
theorem d_La_law_259 : decode code 259 = .ok (.laload, 1) := by decide +kernel
theorem d_La_law_260 : decode code 260 = .ok (.iload 6, 2) := by decide +kernel
theorem d_La_law_262 : decode code 262 = .ok (.i2l, 1) := by decide +kernel
theorem d_La_law_263 : decode code 263 = .ok (.lcmp, 1) := by decide +kernel
theorem d_La_law_264 : decode code 264 = .ok (.ifCond .eq 5, 3) := by decide +kernel
theorem d_La_law_267 : decode code 267 = .ok (.iconst 0, 1) := by decide +kernel
theorem d_La_law_268 : decode code 268 = .ok (.ireturn, 1) := by decide +kernel
theorem d_La_law_269 : decode code 269 = .ok (.goto 875, 3) := by decide +kernel
theorem d_La_law_272 : decode code 272 = .ok (.aload_n 1, 1) := by decide +kernel
theorem d_La_law_273 : decode code 273 = .ok (.aload_n 0, 1) := by decide +kernel
theorem d_La_law_274 : decode code 274 = .ok (.iload 4, 2) := by decide +kernel
theorem d_La_law_276 : decode code 276 = .ok (.iconst 1, 1) := by decide +kernel
theorem d_La_law_277 : decode code 277 = .ok (.iadd, 1) := by decide +kernel
theorem d_La_law_278 : decode code 278 = .ok (.iaload, 1) := by decide +kernel
theorem d_La_law_279 : decode code 279 = .ok (.aload_n 0, 1) := by decide +kernel
theorem d_La_law_280 : decode code 280 = .ok (.iload 4, 2) := by decide +kernel
theorem d_La_law_282 : decode code 282 = .ok (.iconst 2, 1) := by decide +kernel
theorem d_La_law_283 : decode code 283 = .ok (.iadd, 1) := by decide +kernel
theorem d_La_law_284 : decode code 284 = .ok (.iaload, 1) := by decide +kernel
theorem d_La_law_285 : decode code 285 = .ok (.aload_n 3, 1) := by decide +kernel
theorem d_La_law_286 : decode code 286 = .ok (.invokestatic 89, 3) := by decide +kernel
theorem d_La_law_289 : decode code 289 = .ok (.istore 5, 2) := by decide +kernel
theorem d_La_law_291 : decode code 291 = .ok (.aload_n 2, 1) := by decide +kernel
theorem d_La_law_292 : decode code 292 = .ok (.aload_n 0, 1) := by decide +kernel
theorem d_La_law_293 : decode code 293 = .ok (.iload 4, 2) := by decide +kernel
theorem d_La_law_295 : decode code 295 = .ok (.iconst 1, 1) := by decide +kernel
theorem d_La_law_296 : decode code 296 = .ok (.iadd, 1) := by decide +kernel
theorem d_La_law_297 : decode code 297 = .ok (.iaload, 1) := by decide +kernel
theorem d_La_law_298 : decode code 298 = .ok (.aload_n 0, 1) := by decide +kernel
theorem d_La_law_299 : decode code 299 = .ok (.iload 4, 2) := by decide +kernel
theorem d_La_law_301 : decode code 301 = .ok (.iconst 2, 1) := by decide +kernel
theorem d_La_law_302 : decode code 302 = .ok (.iadd, 1) := by decide +kernel
theorem d_La_law_303 : decode code 303 = .ok (.iaload, 1) := by decide +kernel
theorem d_La_law_304 : decode code 304 = .ok (.invokevirtual 92, 3) := by decide +kernel
theorem d_La_law_307 : decode code 307 = .ok (.istore 6, 2) := by decide +kernel
theorem d_La_law_309 : decode code 309 = .ok (.aload_n 2, 1) := by decide +kernel
theorem d_La_law_310 : decode code 310 = .ok (.invokevirtual 82, 3) := by decide +kernel
theorem d_La_law_313 : decode code 313 = .ok (.iload 5, 2) := by decide +kernel
theorem d_La_law_315 : decode code 315 = .ok (.if_icmp .eq 5, 3) := by decide +kernel
theorem d_La_law_318 : decode code 318 = .ok (.iconst 0, 1) := by decide +kernel
theorem d_La_law_319 : decode code 319 = .ok (.ireturn, 1) := by decide +kernel
theorem d_La_law_320 : decode code 320 = .ok (.iload 5, 2) := by decide +kernel
theorem d_La_law_322 : decode code 322 = .ok (.ifCond .ne 15, 3) := by decide +kernel
theorem d_La_law_325 : decode code 325 = .ok (.aload_n 3, 1) := by decide +kernel
theorem d_La_law_326 : decode code 326 = .ok (.iconst 0, 1) := by decide +kernel
theorem d_La_law_327 : decode code 327 = .ok (.laload, 1) := by decide +kernel
theorem d_La_law_328 : decode code 328 = .ok (.iload 6, 2) := by decide +kernel
theorem d_La_law_330 : decode code 330 = .ok (.i2l, 1) := by decide +kernel
theorem d_La_law_331 : decode code 331 = .ok (.lcmp, 1) := by decide +kernel
theorem d_La_law_332 : decode code 332 = .ok (.ifCond .eq 5, 3) := by decide +kernel
theorem d_La_law_335 : decode code 335 = .ok (.iconst 0, 1) := by decide +kernel
theorem d_La_law_336 : decode code 336 = .ok (.ireturn, 1) := by decide +kernel
theorem d_La_law_337 : decode code 337 = .ok (.goto 807, 3) := by decide +kernel
theorem d_La_law_340 : decode code 340 = .ok (.aload_n 1, 1) := by decide +kernel
theorem d_La_law_341 : decode code 341 = .ok (.aload_n 0, 1) := by decide +kernel
theorem d_La_law_342 : decode code 342 = .ok (.iload 4, 2) := by decide +kernel
theorem d_La_law_344 : decode code 344 = .ok (.iconst 1, 1) := by decide +kernel
theorem d_La_law_345 : decode code 345 = .ok (.iadd, 1) := by decide +kernel
theorem d_La_law_346 : decode code 346 = .ok (.iaload, 1) := by decide +kernel
theorem d_La_law_347 : decode code 347 = .ok (.aload_n 0, 1) := by decide +kernel
theorem d_La_law_348 : decode code 348 = .ok (.iload 4, 2) := by decide +kernel
theorem d_La_law_350 : decode code 350 = .ok (.iconst 2, 1) := by decide +kernel
theorem d_La_law_351 : decode code 351 = .ok (.iadd, 1) := by decide +kernel
theorem d_La_law_352 : decode code 352 = .ok (.iaload, 1) := by decide +kernel
theorem d_La_law_353 : decode code 353 = .ok (.aload_n 0, 1) := by decide +kernel
theorem d_La_law_354 : decode code 354 = .ok (.iload 4, 2) := by decide +kernel
theorem d_La_law_356 : decode code 356 = .ok (.iconst 3, 1) := by decide +kernel
theorem d_La_law_357 : decode code 357 = .ok (.iadd, 1) := by decide +kernel
theorem d_La_law_358 : decode code 358 = .ok (.iaload, 1) := by decide +kernel
theorem d_La_law_359 : decode code 359 = .ok (.aload_n 3, 1) := by decide +kernel
theorem d_La_law_360 : decode code 360 = .ok (.invokestatic 93, 3) := by decide +kernel
theorem d_La_law_363 : decode code 363 = .ok (.istore 5, 2) := by decide +kernel
theorem d_La_law_365 : decode code 365 = .ok (.aload_n 2, 1) := by decide +kernel
theorem d_La_law_366 : decode code 366 = .ok (.aload_n 0, 1) := by decide +kernel
theorem d_La_law_367 : decode code 367 = .ok (.iload 4, 2) := by decide +kernel
theorem d_La_law_369 : decode code 369 = .ok (.iconst 1, 1) := by decide +kernel
theorem d_La_law_370 : decode code 370 = .ok (.iadd, 1) := by decide +kernel
theorem d_La_law_371 : decode code 371 = .ok (.iaload, 1) := by decide +kernel
theorem d_La_law_372 : decode code 372 = .ok (.aload_n 0, 1) := by decide +kernel
theorem d_La_law_373 : decode code 373 = .ok (.iload 4, 2) := by decide +kernel
theorem d_La_law_375 : decode code 375 = .ok (.iconst 2, 1) := by decide +kernel
theorem d_La_law_376 : decode code 376 = .ok (.iadd, 1) := by decide +kernel
theorem d_La_law_377 : decode code 377 = .ok (.iaload, 1) := by decide +kernel
theorem d_La_law_378 : decode code 378 = .ok (.aload_n 0, 1) := by decide +kernel
theorem d_La_law_379 : decode code 379 = .ok (.iload 4, 2) := by decide +kernel
theorem d_La_law_381 : decode code 381 = .ok (.iconst 3, 1) := by decide +kernel
theorem d_La_law_382 : decode code 382 = .ok (.iadd, 1) := by decide +kernel
theorem d_La_law_383 : decode code 383 = .ok (.iaload, 1) := by decide +kernel
theorem d_La_law_384 : decode code 384 = .ok (.invokevirtual 96, 3) := by decide +kernel
theorem d_La_law_387 : decode code 387 = .ok (.istore 6, 2) := by decide +kernel
theorem d_La_law_389 : decode code 389 = .ok (.aload_n 2, 1) := by decide +kernel
theorem d_La_law_390 : decode code 390 = .ok (.invokevirtual 82, 3) := by decide +kernel
theorem d_La_law_393 : decode code 393 = .ok (.iload 5, 2) := by decide +kernel
theorem d_La_law_395 : decode code 395 = .ok (.if_icmp .eq 5, 3) := by decide +kernel
theorem d_La_law_398 : decode code 398 = .ok (.iconst 0, 1) := by decide +kernel
theorem d_La_law_399 : decode code 399 = .ok (.ireturn, 1) := by decide +kernel
theorem d_La_law_400 : decode code 400 = .ok (.iload 5, 2) := by decide +kernel
theorem d_La_law_402 : decode code 402 = .ok (.ifCond .ne 15, 3) := by decide +kernel
theorem d_La_law_405 : decode code 405 = .ok (.aload_n 3, 1) := by decide +kernel
theorem d_La_law_406 : decode code 406 = .ok (.iconst 0, 1) := by decide +kernel
theorem d_La_law_407 : decode code 407 = .ok (.laload, 1) := by decide +kernel
theorem d_La_law_408 : decode code 408 = .ok (.iload 6, 2) := by decide +kernel
theorem d_La_law_410 : decode code 410 = .ok (.i2l, 1) := by decide +kernel
theorem d_La_law_411 : decode code 411 = .ok (.lcmp, 1) := by decide +kernel
theorem d_La_law_412 : decode code 412 = .ok (.ifCond .eq 5, 3) := by decide +kernel
theorem d_La_law_415 : decode code 415 = .ok (.iconst 0, 1) := by decide +kernel
theorem d_La_law_416 : decode code 416 = .ok (.ireturn, 1) := by decide +kernel
theorem d_La_law_417 : decode code 417 = .ok (.goto 727, 3) := by decide +kernel
theorem d_La_law_420 : decode code 420 = .ok (.aload_n 1, 1) := by decide +kernel
theorem d_La_law_421 : decode code 421 = .ok (.aload_n 0, 1) := by decide +kernel
theorem d_La_law_422 : decode code 422 = .ok (.iload 4, 2) := by decide +kernel
theorem d_La_law_424 : decode code 424 = .ok (.iconst 1, 1) := by decide +kernel
theorem d_La_law_425 : decode code 425 = .ok (.iadd, 1) := by decide +kernel
theorem d_La_law_426 : decode code 426 = .ok (.iaload, 1) := by decide +kernel
theorem d_La_law_427 : decode code 427 = .ok (.aload_n 0, 1) := by decide +kernel
theorem d_La_law_428 : decode code 428 = .ok (.iload 4, 2) := by decide +kernel
theorem d_La_law_430 : decode code 430 = .ok (.iconst 2, 1) := by decide +kernel
theorem d_La_law_431 : decode code 431 = .ok (.iadd, 1) := by decide +kernel
theorem d_La_law_432 : decode code 432 = .ok (.iaload, 1) := by decide +kernel
theorem d_La_law_433 : decode code 433 = .ok (.aload_n 0, 1) := by decide +kernel
theorem d_La_law_434 : decode code 434 = .ok (.iload 4, 2) := by decide +kernel
theorem d_La_law_436 : decode code 436 = .ok (.iconst 3, 1) := by decide +kernel
theorem d_La_law_437 : decode code 437 = .ok (.iadd, 1) := by decide +kernel
theorem d_La_law_438 : decode code 438 = .ok (.iaload, 1) := by decide +kernel
theorem d_La_law_439 : decode code 439 = .ok (.aload_n 3, 1) := by decide +kernel
theorem d_La_law_440 : decode code 440 = .ok (.invokestatic 97, 3) := by decide +kernel
theorem d_La_law_443 : decode code 443 = .ok (.istore 5, 2) := by decide +kernel
theorem d_La_law_445 : decode code 445 = .ok (.aload_n 2, 1) := by decide +kernel
theorem d_La_law_446 : decode code 446 = .ok (.aload_n 0, 1) := by decide +kernel
theorem d_La_law_447 : decode code 447 = .ok (.iload 4, 2) := by decide +kernel
theorem d_La_law_449 : decode code 449 = .ok (.iconst 1, 1) := by decide +kernel
theorem d_La_law_450 : decode code 450 = .ok (.iadd, 1) := by decide +kernel
theorem d_La_law_451 : decode code 451 = .ok (.iaload, 1) := by decide +kernel
theorem d_La_law_452 : decode code 452 = .ok (.aload_n 0, 1) := by decide +kernel
theorem d_La_law_453 : decode code 453 = .ok (.iload 4, 2) := by decide +kernel
theorem d_La_law_455 : decode code 455 = .ok (.iconst 2, 1) := by decide +kernel
theorem d_La_law_456 : decode code 456 = .ok (.iadd, 1) := by decide +kernel
theorem d_La_law_457 : decode code 457 = .ok (.iaload, 1) := by decide +kernel
theorem d_La_law_458 : decode code 458 = .ok (.aload_n 0, 1) := by decide +kernel
theorem d_La_law_459 : decode code 459 = .ok (.iload 4, 2) := by decide +kernel
theorem d_La_law_461 : decode code 461 = .ok (.iconst 3, 1) := by decide +kernel
theorem d_La_law_462 : decode code 462 = .ok (.iadd, 1) := by decide +kernel
theorem d_La_law_463 : decode code 463 = .ok (.iaload, 1) := by decide +kernel
theorem d_La_law_464 : decode code 464 = .ok (.invokevirtual 99, 3) := by decide +kernel
theorem d_La_law_467 : decode code 467 = .ok (.istore 6, 2) := by decide +kernel
theorem d_La_law_469 : decode code 469 = .ok (.aload_n 2, 1) := by decide +kernel
theorem d_La_law_470 : decode code 470 = .ok (.invokevirtual 82, 3) := by decide +kernel
theorem d_La_law_473 : decode code 473 = .ok (.iload 5, 2) := by decide +kernel
theorem d_La_law_475 : decode code 475 = .ok (.if_icmp .eq 5, 3) := by decide +kernel
theorem d_La_law_478 : decode code 478 = .ok (.iconst 0, 1) := by decide +kernel
theorem d_La_law_479 : decode code 479 = .ok (.ireturn, 1) := by decide +kernel
theorem d_La_law_480 : decode code 480 = .ok (.iload 5, 2) := by decide +kernel
theorem d_La_law_482 : decode code 482 = .ok (.ifCond .ne 15, 3) := by decide +kernel
theorem d_La_law_485 : decode code 485 = .ok (.aload_n 3, 1) := by decide +kernel
theorem d_La_law_486 : decode code 486 = .ok (.iconst 0, 1) := by decide +kernel
theorem d_La_law_487 : decode code 487 = .ok (.laload, 1) := by decide +kernel
theorem d_La_law_488 : decode code 488 = .ok (.iload 6, 2) := by decide +kernel
theorem d_La_law_490 : decode code 490 = .ok (.i2l, 1) := by decide +kernel
theorem d_La_law_491 : decode code 491 = .ok (.lcmp, 1) := by decide +kernel
theorem d_La_law_492 : decode code 492 = .ok (.ifCond .eq 5, 3) := by decide +kernel
theorem d_La_law_495 : decode code 495 = .ok (.iconst 0, 1) := by decide +kernel
theorem d_La_law_496 : decode code 496 = .ok (.ireturn, 1) := by decide +kernel
theorem d_La_law_497 : decode code 497 = .ok (.goto 647, 3) := by decide +kernel
theorem d_La_law_500 : decode code 500 = .ok (.aload_n 1, 1) := by decide +kernel
theorem d_La_law_501 : decode code 501 = .ok (.aload_n 0, 1) := by decide +kernel
theorem d_La_law_502 : decode code 502 = .ok (.iload 4, 2) := by decide +kernel
theorem d_La_law_504 : decode code 504 = .ok (.iconst 1, 1) := by decide +kernel
theorem d_La_law_505 : decode code 505 = .ok (.iadd, 1) := by decide +kernel
theorem d_La_law_506 : decode code 506 = .ok (.iaload, 1) := by decide +kernel
theorem d_La_law_507 : decode code 507 = .ok (.aload_n 3, 1) := by decide +kernel
theorem d_La_law_508 : decode code 508 = .ok (.invokestatic 100, 3) := by decide +kernel
theorem d_La_law_511 : decode code 511 = .ok (.istore 5, 2) := by decide +kernel
theorem d_La_law_513 : decode code 513 = .ok (.aload_n 2, 1) := by decide +kernel
theorem d_La_law_514 : decode code 514 = .ok (.aload_n 0, 1) := by decide +kernel
theorem d_La_law_515 : decode code 515 = .ok (.iload 4, 2) := by decide +kernel
theorem d_La_law_517 : decode code 517 = .ok (.iconst 1, 1) := by decide +kernel
theorem d_La_law_518 : decode code 518 = .ok (.iadd, 1) := by decide +kernel
theorem d_La_law_519 : decode code 519 = .ok (.iaload, 1) := by decide +kernel
theorem d_La_law_520 : decode code 520 = .ok (.invokevirtual 102, 3) := by decide +kernel
theorem d_La_law_523 : decode code 523 = .ok (.istore 6, 2) := by decide +kernel
theorem d_La_law_525 : decode code 525 = .ok (.aload_n 2, 1) := by decide +kernel
theorem d_La_law_526 : decode code 526 = .ok (.invokevirtual 82, 3) := by decide +kernel
theorem d_La_law_529 : decode code 529 = .ok (.iload 5, 2) := by decide +kernel
theorem d_La_law_531 : decode code 531 = .ok (.if_icmp .eq 5, 3) := by decide +kernel
theorem d_La_law_534 : decode code 534 = .ok (.iconst 0, 1) := by decide +kernel
theorem d_La_law_535 : decode code 535 = .ok (.ireturn, 1) := by decide +kernel
theorem d_La_law_536 : decode code 536 = .ok (.iload 5, 2) := by decide +kernel
theorem d_La_law_538 : decode code 538 = .ok (.ifCond .ne 15, 3) := by decide +kernel
theorem d_La_law_541 : decode code 541 = .ok (.aload_n 3, 1) := by decide +kernel
theorem d_La_law_542 : decode code 542 = .ok (.iconst 0, 1) := by decide +kernel
theorem d_La_law_543 : decode code 543 = .ok (.laload, 1) := by decide +kernel
theorem d_La_law_544 : decode code 544 = .ok (.iload 6, 2) := by decide +kernel
theorem d_La_law_546 : decode code 546 = .ok (.i2l, 1) := by decide +kernel
theorem d_La_law_547 : decode code 547 = .ok (.lcmp, 1) := by decide +kernel
theorem d_La_law_548 : decode code 548 = .ok (.ifCond .eq 5, 3) := by decide +kernel
theorem d_La_law_551 : decode code 551 = .ok (.iconst 0, 1) := by decide +kernel
theorem d_La_law_552 : decode code 552 = .ok (.ireturn, 1) := by decide +kernel
theorem d_La_law_553 : decode code 553 = .ok (.goto 591, 3) := by decide +kernel
theorem d_La_law_556 : decode code 556 = .ok (.aload_n 1, 1) := by decide +kernel
theorem d_La_law_557 : decode code 557 = .ok (.aload_n 0, 1) := by decide +kernel
theorem d_La_law_558 : decode code 558 = .ok (.iload 4, 2) := by decide +kernel
theorem d_La_law_560 : decode code 560 = .ok (.iconst 1, 1) := by decide +kernel
theorem d_La_law_561 : decode code 561 = .ok (.iadd, 1) := by decide +kernel
theorem d_La_law_562 : decode code 562 = .ok (.iaload, 1) := by decide +kernel
theorem d_La_law_563 : decode code 563 = .ok (.aload_n 0, 1) := by decide +kernel
theorem d_La_law_564 : decode code 564 = .ok (.iload 4, 2) := by decide +kernel
theorem d_La_law_566 : decode code 566 = .ok (.iconst 2, 1) := by decide +kernel
theorem d_La_law_567 : decode code 567 = .ok (.iadd, 1) := by decide +kernel
theorem d_La_law_568 : decode code 568 = .ok (.iaload, 1) := by decide +kernel
theorem d_La_law_569 : decode code 569 = .ok (.ifCond .eq 7, 3) := by decide +kernel
theorem d_La_law_572 : decode code 572 = .ok (.iconst 1, 1) := by decide +kernel
theorem d_La_law_573 : decode code 573 = .ok (.goto 4, 3) := by decide +kernel
theorem d_La_law_576 : decode code 576 = .ok (.iconst 0, 1) := by decide +kernel
theorem d_La_law_577 : decode code 577 = .ok (.invokestatic 103, 3) := by decide +kernel
theorem d_La_law_580 : decode code 580 = .ok (.istore 5, 2) := by decide +kernel
theorem d_La_law_582 : decode code 582 = .ok (.aload_n 2, 1) := by decide +kernel
theorem d_La_law_583 : decode code 583 = .ok (.aload_n 0, 1) := by decide +kernel
theorem d_La_law_584 : decode code 584 = .ok (.iload 4, 2) := by decide +kernel
theorem d_La_law_586 : decode code 586 = .ok (.iconst 1, 1) := by decide +kernel
theorem d_La_law_587 : decode code 587 = .ok (.iadd, 1) := by decide +kernel
theorem d_La_law_588 : decode code 588 = .ok (.iaload, 1) := by decide +kernel
theorem d_La_law_589 : decode code 589 = .ok (.aload_n 0, 1) := by decide +kernel
theorem d_La_law_590 : decode code 590 = .ok (.iload 4, 2) := by decide +kernel
theorem d_La_law_592 : decode code 592 = .ok (.iconst 2, 1) := by decide +kernel
theorem d_La_law_593 : decode code 593 = .ok (.iadd, 1) := by decide +kernel
theorem d_La_law_594 : decode code 594 = .ok (.iaload, 1) := by decide +kernel
theorem d_La_law_595 : decode code 595 = .ok (.ifCond .eq 7, 3) := by decide +kernel
theorem d_La_law_598 : decode code 598 = .ok (.iconst 1, 1) := by decide +kernel
theorem d_La_law_599 : decode code 599 = .ok (.goto 4, 3) := by decide +kernel
theorem d_La_law_602 : decode code 602 = .ok (.iconst 0, 1) := by decide +kernel
theorem d_La_law_603 : decode code 603 = .ok (.invokevirtual 106, 3) := by decide +kernel
theorem d_La_law_606 : decode code 606 = .ok (.aload_n 2, 1) := by decide +kernel
theorem d_La_law_607 : decode code 607 = .ok (.invokevirtual 82, 3) := by decide +kernel
theorem d_La_law_610 : decode code 610 = .ok (.iload 5, 2) := by decide +kernel
theorem d_La_law_612 : decode code 612 = .ok (.if_icmp .eq 5, 3) := by decide +kernel
theorem d_La_law_615 : decode code 615 = .ok (.iconst 0, 1) := by decide +kernel
theorem d_La_law_616 : decode code 616 = .ok (.ireturn, 1) := by decide +kernel
theorem d_La_law_617 : decode code 617 = .ok (.goto 527, 3) := by decide +kernel
theorem d_La_law_620 : decode code 620 = .ok (.aload_n 1, 1) := by decide +kernel
theorem d_La_law_621 : decode code 621 = .ok (.aload_n 0, 1) := by decide +kernel
theorem d_La_law_622 : decode code 622 = .ok (.iload 4, 2) := by decide +kernel
theorem d_La_law_624 : decode code 624 = .ok (.iconst 1, 1) := by decide +kernel
theorem d_La_law_625 : decode code 625 = .ok (.iadd, 1) := by decide +kernel
theorem d_La_law_626 : decode code 626 = .ok (.iaload, 1) := by decide +kernel
theorem d_La_law_627 : decode code 627 = .ok (.aload_n 3, 1) := by decide +kernel
theorem d_La_law_628 : decode code 628 = .ok (.invokestatic 107, 3) := by decide +kernel
theorem d_La_law_631 : decode code 631 = .ok (.istore 5, 2) := by decide +kernel
theorem d_La_law_633 : decode code 633 = .ok (.aload_n 2, 1) := by decide +kernel
theorem d_La_law_634 : decode code 634 = .ok (.aload_n 0, 1) := by decide +kernel
theorem d_La_law_635 : decode code 635 = .ok (.iload 4, 2) := by decide +kernel
theorem d_La_law_637 : decode code 637 = .ok (.iconst 1, 1) := by decide +kernel
theorem d_La_law_638 : decode code 638 = .ok (.iadd, 1) := by decide +kernel
theorem d_La_law_639 : decode code 639 = .ok (.iaload, 1) := by decide +kernel
theorem d_La_law_640 : decode code 640 = .ok (.invokevirtual 109, 3) := by decide +kernel
theorem d_La_law_643 : decode code 643 = .ok (.istore 6, 2) := by decide +kernel
theorem d_La_law_645 : decode code 645 = .ok (.aload_n 2, 1) := by decide +kernel
theorem d_La_law_646 : decode code 646 = .ok (.invokevirtual 82, 3) := by decide +kernel
theorem d_La_law_649 : decode code 649 = .ok (.iload 5, 2) := by decide +kernel
theorem d_La_law_651 : decode code 651 = .ok (.if_icmp .eq 5, 3) := by decide +kernel
theorem d_La_law_654 : decode code 654 = .ok (.iconst 0, 1) := by decide +kernel
theorem d_La_law_655 : decode code 655 = .ok (.ireturn, 1) := by decide +kernel
theorem d_La_law_656 : decode code 656 = .ok (.iload 5, 2) := by decide +kernel
theorem d_La_law_658 : decode code 658 = .ok (.ifCond .ne 15, 3) := by decide +kernel
theorem d_La_law_661 : decode code 661 = .ok (.aload_n 3, 1) := by decide +kernel
theorem d_La_law_662 : decode code 662 = .ok (.iconst 0, 1) := by decide +kernel
theorem d_La_law_663 : decode code 663 = .ok (.laload, 1) := by decide +kernel
theorem d_La_law_664 : decode code 664 = .ok (.iload 6, 2) := by decide +kernel
theorem d_La_law_666 : decode code 666 = .ok (.i2l, 1) := by decide +kernel
theorem d_La_law_667 : decode code 667 = .ok (.lcmp, 1) := by decide +kernel
theorem d_La_law_668 : decode code 668 = .ok (.ifCond .eq 5, 3) := by decide +kernel
theorem d_La_law_671 : decode code 671 = .ok (.iconst 0, 1) := by decide +kernel
theorem d_La_law_672 : decode code 672 = .ok (.ireturn, 1) := by decide +kernel
theorem d_La_law_673 : decode code 673 = .ok (.goto 471, 3) := by decide +kernel
theorem d_La_law_676 : decode code 676 = .ok (.aload_n 1, 1) := by decide +kernel
theorem d_La_law_677 : decode code 677 = .ok (.aload_n 0, 1) := by decide +kernel
theorem d_La_law_678 : decode code 678 = .ok (.iload 4, 2) := by decide +kernel
theorem d_La_law_680 : decode code 680 = .ok (.iconst 1, 1) := by decide +kernel
theorem d_La_law_681 : decode code 681 = .ok (.iadd, 1) := by decide +kernel
theorem d_La_law_682 : decode code 682 = .ok (.iaload, 1) := by decide +kernel
theorem d_La_law_683 : decode code 683 = .ok (.invokestatic 110, 3) := by decide +kernel
theorem d_La_law_686 : decode code 686 = .ok (.istore 5, 2) := by decide +kernel
theorem d_La_law_688 : decode code 688 = .ok (.aload_n 2, 1) := by decide +kernel
theorem d_La_law_689 : decode code 689 = .ok (.aload_n 0, 1) := by decide +kernel
theorem d_La_law_690 : decode code 690 = .ok (.iload 4, 2) := by decide +kernel
theorem d_La_law_692 : decode code 692 = .ok (.iconst 1, 1) := by decide +kernel
theorem d_La_law_693 : decode code 693 = .ok (.iadd, 1) := by decide +kernel
theorem d_La_law_694 : decode code 694 = .ok (.iaload, 1) := by decide +kernel
theorem d_La_law_695 : decode code 695 = .ok (.invokevirtual 113, 3) := by decide +kernel
theorem d_La_law_698 : decode code 698 = .ok (.aload_n 2, 1) := by decide +kernel
theorem d_La_law_699 : decode code 699 = .ok (.invokevirtual 82, 3) := by decide +kernel
theorem d_La_law_702 : decode code 702 = .ok (.iload 5, 2) := by decide +kernel
theorem d_La_law_704 : decode code 704 = .ok (.if_icmp .eq 5, 3) := by decide +kernel
theorem d_La_law_707 : decode code 707 = .ok (.iconst 0, 1) := by decide +kernel
theorem d_La_law_708 : decode code 708 = .ok (.ireturn, 1) := by decide +kernel
theorem d_La_law_709 : decode code 709 = .ok (.goto 435, 3) := by decide +kernel
theorem d_La_law_712 : decode code 712 = .ok (.aload_n 1, 1) := by decide +kernel
theorem d_La_law_713 : decode code 713 = .ok (.invokevirtual 114, 3) := by decide +kernel
theorem d_La_law_716 : decode code 716 = .ok (.aload_n 2, 1) := by decide +kernel
theorem d_La_law_717 : decode code 717 = .ok (.invokevirtual 117, 3) := by decide +kernel
theorem d_La_law_720 : decode code 720 = .ok (.if_icmp .eq 424, 3) := by decide +kernel
theorem d_La_law_723 : decode code 723 = .ok (.iconst 0, 1) := by decide +kernel
theorem d_La_law_724 : decode code 724 = .ok (.ireturn, 1) := by decide +kernel
theorem d_La_law_725 : decode code 725 = .ok (.aload_n 1, 1) := by decide +kernel
theorem d_La_law_726 : decode code 726 = .ok (.invokevirtual 118, 3) := by decide +kernel
theorem d_La_law_729 : decode code 729 = .ok (.aload_n 2, 1) := by decide +kernel
theorem d_La_law_730 : decode code 730 = .ok (.invokevirtual 121, 3) := by decide +kernel
theorem d_La_law_733 : decode code 733 = .ok (.if_icmp .eq 411, 3) := by decide +kernel
theorem d_La_law_736 : decode code 736 = .ok (.iconst 0, 1) := by decide +kernel
theorem d_La_law_737 : decode code 737 = .ok (.ireturn, 1) := by decide +kernel
theorem d_La_law_738 : decode code 738 = .ok (.aload_n 1, 1) := by decide +kernel
theorem d_La_law_739 : decode code 739 = .ok (.invokevirtual 122, 3) := by decide +kernel
theorem d_La_law_742 : decode code 742 = .ok (.aload_n 2, 1) := by decide +kernel
theorem d_La_law_743 : decode code 743 = .ok (.invokevirtual 126, 3) := by decide +kernel
theorem d_La_law_746 : decode code 746 = .ok (.lcmp, 1) := by decide +kernel
theorem d_La_law_747 : decode code 747 = .ok (.ifCond .eq 397, 3) := by decide +kernel
theorem d_La_law_750 : decode code 750 = .ok (.iconst 0, 1) := by decide +kernel
theorem d_La_law_751 : decode code 751 = .ok (.ireturn, 1) := by decide +kernel
theorem d_La_law_752 : decode code 752 = .ok (.aload_n 1, 1) := by decide +kernel
theorem d_La_law_753 : decode code 753 = .ok (.aload_n 0, 1) := by decide +kernel
theorem d_La_law_754 : decode code 754 = .ok (.iload 4, 2) := by decide +kernel
theorem d_La_law_756 : decode code 756 = .ok (.iconst 1, 1) := by decide +kernel
theorem d_La_law_757 : decode code 757 = .ok (.iadd, 1) := by decide +kernel
theorem d_La_law_758 : decode code 758 = .ok (.iaload, 1) := by decide +kernel
theorem d_La_law_759 : decode code 759 = .ok (.aload_n 3, 1) := by decide +kernel
theorem d_La_law_760 : decode code 760 = .ok (.invokestatic 127, 3) := by decide +kernel
theorem d_La_law_763 : decode code 763 = .ok (.istore 5, 2) := by decide +kernel
theorem d_La_law_765 : decode code 765 = .ok (.aload_n 2, 1) := by decide +kernel
theorem d_La_law_766 : decode code 766 = .ok (.aload_n 0, 1) := by decide +kernel
theorem d_La_law_767 : decode code 767 = .ok (.iload 4, 2) := by decide +kernel
theorem d_La_law_769 : decode code 769 = .ok (.iconst 1, 1) := by decide +kernel
theorem d_La_law_770 : decode code 770 = .ok (.iadd, 1) := by decide +kernel
theorem d_La_law_771 : decode code 771 = .ok (.iaload, 1) := by decide +kernel
theorem d_La_law_772 : decode code 772 = .ok (.invokevirtual 129, 3) := by decide +kernel
theorem d_La_law_775 : decode code 775 = .ok (.istore 6, 2) := by decide +kernel
theorem d_La_law_777 : decode code 777 = .ok (.aload_n 2, 1) := by decide +kernel
theorem d_La_law_778 : decode code 778 = .ok (.invokevirtual 82, 3) := by decide +kernel
theorem d_La_law_781 : decode code 781 = .ok (.iload 5, 2) := by decide +kernel
theorem d_La_law_783 : decode code 783 = .ok (.if_icmp .eq 5, 3) := by decide +kernel
theorem d_La_law_786 : decode code 786 = .ok (.iconst 0, 1) := by decide +kernel
theorem d_La_law_787 : decode code 787 = .ok (.ireturn, 1) := by decide +kernel
theorem d_La_law_788 : decode code 788 = .ok (.iload 5, 2) := by decide +kernel
theorem d_La_law_790 : decode code 790 = .ok (.ifCond .ne 15, 3) := by decide +kernel
theorem d_La_law_793 : decode code 793 = .ok (.aload_n 3, 1) := by decide +kernel
theorem d_La_law_794 : decode code 794 = .ok (.iconst 0, 1) := by decide +kernel
theorem d_La_law_795 : decode code 795 = .ok (.laload, 1) := by decide +kernel
theorem d_La_law_796 : decode code 796 = .ok (.iload 6, 2) := by decide +kernel
theorem d_La_law_798 : decode code 798 = .ok (.i2l, 1) := by decide +kernel
theorem d_La_law_799 : decode code 799 = .ok (.lcmp, 1) := by decide +kernel
theorem d_La_law_800 : decode code 800 = .ok (.ifCond .eq 5, 3) := by decide +kernel
theorem d_La_law_803 : decode code 803 = .ok (.iconst 0, 1) := by decide +kernel
theorem d_La_law_804 : decode code 804 = .ok (.ireturn, 1) := by decide +kernel
theorem d_La_law_805 : decode code 805 = .ok (.goto 339, 3) := by decide +kernel
theorem d_La_law_808 : decode code 808 = .ok (.aload_n 1, 1) := by decide +kernel
theorem d_La_law_809 : decode code 809 = .ok (.aload_n 0, 1) := by decide +kernel
theorem d_La_law_810 : decode code 810 = .ok (.iload 4, 2) := by decide +kernel
theorem d_La_law_812 : decode code 812 = .ok (.iconst 1, 1) := by decide +kernel
theorem d_La_law_813 : decode code 813 = .ok (.iadd, 1) := by decide +kernel
theorem d_La_law_814 : decode code 814 = .ok (.iaload, 1) := by decide +kernel
theorem d_La_law_815 : decode code 815 = .ok (.aload_n 3, 1) := by decide +kernel
theorem d_La_law_816 : decode code 816 = .ok (.invokestatic 130, 3) := by decide +kernel
theorem d_La_law_819 : decode code 819 = .ok (.istore 5, 2) := by decide +kernel
theorem d_La_law_821 : decode code 821 = .ok (.aload_n 2, 1) := by decide +kernel
theorem d_La_law_822 : decode code 822 = .ok (.aload_n 0, 1) := by decide +kernel
theorem d_La_law_823 : decode code 823 = .ok (.iload 4, 2) := by decide +kernel
theorem d_La_law_825 : decode code 825 = .ok (.iconst 1, 1) := by decide +kernel
theorem d_La_law_826 : decode code 826 = .ok (.iadd, 1) := by decide +kernel
theorem d_La_law_827 : decode code 827 = .ok (.iaload, 1) := by decide +kernel
theorem d_La_law_828 : decode code 828 = .ok (.invokevirtual 132, 3) := by decide +kernel
theorem d_La_law_831 : decode code 831 = .ok (.istore 6, 2) := by decide +kernel
theorem d_La_law_833 : decode code 833 = .ok (.aload_n 2, 1) := by decide +kernel
theorem d_La_law_834 : decode code 834 = .ok (.invokevirtual 82, 3) := by decide +kernel
theorem d_La_law_837 : decode code 837 = .ok (.iload 5, 2) := by decide +kernel
theorem d_La_law_839 : decode code 839 = .ok (.if_icmp .eq 5, 3) := by decide +kernel
theorem d_La_law_842 : decode code 842 = .ok (.iconst 0, 1) := by decide +kernel
theorem d_La_law_843 : decode code 843 = .ok (.ireturn, 1) := by decide +kernel
theorem d_La_law_844 : decode code 844 = .ok (.iload 5, 2) := by decide +kernel
theorem d_La_law_846 : decode code 846 = .ok (.ifCond .ne 15, 3) := by decide +kernel
theorem d_La_law_849 : decode code 849 = .ok (.aload_n 3, 1) := by decide +kernel
theorem d_La_law_850 : decode code 850 = .ok (.iconst 0, 1) := by decide +kernel
theorem d_La_law_851 : decode code 851 = .ok (.laload, 1) := by decide +kernel
theorem d_La_law_852 : decode code 852 = .ok (.iload 6, 2) := by decide +kernel
theorem d_La_law_854 : decode code 854 = .ok (.i2l, 1) := by decide +kernel
theorem d_La_law_855 : decode code 855 = .ok (.lcmp, 1) := by decide +kernel
theorem d_La_law_856 : decode code 856 = .ok (.ifCond .eq 5, 3) := by decide +kernel
theorem d_La_law_859 : decode code 859 = .ok (.iconst 0, 1) := by decide +kernel
theorem d_La_law_860 : decode code 860 = .ok (.ireturn, 1) := by decide +kernel
theorem d_La_law_861 : decode code 861 = .ok (.goto 283, 3) := by decide +kernel
theorem d_La_law_864 : decode code 864 = .ok (.aload_n 1, 1) := by decide +kernel
theorem d_La_law_865 : decode code 865 = .ok (.aload_n 0, 1) := by decide +kernel
theorem d_La_law_866 : decode code 866 = .ok (.iload 4, 2) := by decide +kernel
theorem d_La_law_868 : decode code 868 = .ok (.iconst 1, 1) := by decide +kernel
theorem d_La_law_869 : decode code 869 = .ok (.iadd, 1) := by decide +kernel
theorem d_La_law_870 : decode code 870 = .ok (.iaload, 1) := by decide +kernel
theorem d_La_law_871 : decode code 871 = .ok (.aload_n 0, 1) := by decide +kernel
theorem d_La_law_872 : decode code 872 = .ok (.iload 4, 2) := by decide +kernel
theorem d_La_law_874 : decode code 874 = .ok (.iconst 2, 1) := by decide +kernel
theorem d_La_law_875 : decode code 875 = .ok (.iadd, 1) := by decide +kernel
theorem d_La_law_876 : decode code 876 = .ok (.iaload, 1) := by decide +kernel
theorem d_La_law_877 : decode code 877 = .ok (.aload_n 3, 1) := by decide +kernel
theorem d_La_law_878 : decode code 878 = .ok (.invokestatic 133, 3) := by decide +kernel
theorem d_La_law_881 : decode code 881 = .ok (.istore 5, 2) := by decide +kernel
theorem d_La_law_883 : decode code 883 = .ok (.aload_n 2, 1) := by decide +kernel
theorem d_La_law_884 : decode code 884 = .ok (.aload_n 0, 1) := by decide +kernel
theorem d_La_law_885 : decode code 885 = .ok (.iload 4, 2) := by decide +kernel
theorem d_La_law_887 : decode code 887 = .ok (.iconst 1, 1) := by decide +kernel
theorem d_La_law_888 : decode code 888 = .ok (.iadd, 1) := by decide +kernel
theorem d_La_law_889 : decode code 889 = .ok (.iaload, 1) := by decide +kernel
theorem d_La_law_890 : decode code 890 = .ok (.aload_n 0, 1) := by decide +kernel
theorem d_La_law_891 : decode code 891 = .ok (.iload 4, 2) := by decide +kernel
theorem d_La_law_893 : decode code 893 = .ok (.iconst 2, 1) := by decide +kernel
theorem d_La_law_894 : decode code 894 = .ok (.iadd, 1) := by decide +kernel
theorem d_La_law_895 : decode code 895 = .ok (.iaload, 1) := by decide +kernel
theorem d_La_law_896 : decode code 896 = .ok (.invokevirtual 135, 3) := by decide +kernel
theorem d_La_law_899 : decode code 899 = .ok (.istore 6, 2) := by decide +kernel
theorem d_La_law_901 : decode code 901 = .ok (.aload_n 2, 1) := by decide +kernel
theorem d_La_law_902 : decode code 902 = .ok (.invokevirtual 82, 3) := by decide +kernel
theorem d_La_law_905 : decode code 905 = .ok (.iload 5, 2) := by decide +kernel
theorem d_La_law_907 : decode code 907 = .ok (.if_icmp .eq 5, 3) := by decide +kernel
theorem d_La_law_910 : decode code 910 = .ok (.iconst 0, 1) := by decide +kernel
theorem d_La_law_911 : decode code 911 = .ok (.ireturn, 1) := by decide +kernel
theorem d_La_law_912 : decode code 912 = .ok (.iload 5, 2) := by decide +kernel
theorem d_La_law_914 : decode code 914 = .ok (.ifCond .ne 15, 3) := by decide +kernel
theorem d_La_law_917 : decode code 917 = .ok (.aload_n 3, 1) := by decide +kernel
theorem d_La_law_918 : decode code 918 = .ok (.iconst 0, 1) := by decide +kernel
theorem d_La_law_919 : decode code 919 = .ok (.laload, 1) := by decide +kernel
theorem d_La_law_920 : decode code 920 = .ok (.iload 6, 2) := by decide +kernel
theorem d_La_law_922 : decode code 922 = .ok (.i2l, 1) := by decide +kernel
theorem d_La_law_923 : decode code 923 = .ok (.lcmp, 1) := by decide +kernel
theorem d_La_law_924 : decode code 924 = .ok (.ifCond .eq 5, 3) := by decide +kernel
theorem d_La_law_927 : decode code 927 = .ok (.iconst 0, 1) := by decide +kernel
theorem d_La_law_928 : decode code 928 = .ok (.ireturn, 1) := by decide +kernel
theorem d_La_law_929 : decode code 929 = .ok (.goto 215, 3) := by decide +kernel
theorem d_La_law_932 : decode code 932 = .ok (.aload_n 1, 1) := by decide +kernel
theorem d_La_law_933 : decode code 933 = .ok (.aload_n 0, 1) := by decide +kernel
theorem d_La_law_934 : decode code 934 = .ok (.iload 4, 2) := by decide +kernel
theorem d_La_law_936 : decode code 936 = .ok (.iconst 1, 1) := by decide +kernel
theorem d_La_law_937 : decode code 937 = .ok (.iadd, 1) := by decide +kernel
theorem d_La_law_938 : decode code 938 = .ok (.iaload, 1) := by decide +kernel
theorem d_La_law_939 : decode code 939 = .ok (.aload_n 3, 1) := by decide +kernel
theorem d_La_law_940 : decode code 940 = .ok (.invokestatic 136, 3) := by decide +kernel
theorem d_La_law_943 : decode code 943 = .ok (.istore 5, 2) := by decide +kernel
theorem d_La_law_945 : decode code 945 = .ok (.aload_n 2, 1) := by decide +kernel
theorem d_La_law_946 : decode code 946 = .ok (.aload_n 0, 1) := by decide +kernel
theorem d_La_law_947 : decode code 947 = .ok (.iload 4, 2) := by decide +kernel
theorem d_La_law_949 : decode code 949 = .ok (.iconst 1, 1) := by decide +kernel
theorem d_La_law_950 : decode code 950 = .ok (.iadd, 1) := by decide +kernel
theorem d_La_law_951 : decode code 951 = .ok (.iaload, 1) := by decide +kernel
theorem d_La_law_952 : decode code 952 = .ok (.invokevirtual 138, 3) := by decide +kernel
theorem d_La_law_955 : decode code 955 = .ok (.istore 6, 2) := by decide +kernel
theorem d_La_law_957 : decode code 957 = .ok (.aload_n 2, 1) := by decide +kernel
theorem d_La_law_958 : decode code 958 = .ok (.invokevirtual 82, 3) := by decide +kernel
theorem d_La_law_961 : decode code 961 = .ok (.iload 5, 2) := by decide +kernel
theorem d_La_law_963 : decode code 963 = .ok (.if_icmp .eq 5, 3) := by decide +kernel
theorem d_La_law_966 : decode code 966 = .ok (.iconst 0, 1) := by decide +kernel
theorem d_La_law_967 : decode code 967 = .ok (.ireturn, 1) := by decide +kernel
theorem d_La_law_968 : decode code 968 = .ok (.iload 5, 2) := by decide +kernel
theorem d_La_law_970 : decode code 970 = .ok (.ifCond .ne 15, 3) := by decide +kernel
theorem d_La_law_973 : decode code 973 = .ok (.aload_n 3, 1) := by decide +kernel
theorem d_La_law_974 : decode code 974 = .ok (.iconst 0, 1) := by decide +kernel
theorem d_La_law_975 : decode code 975 = .ok (.laload, 1) := by decide +kernel
theorem d_La_law_976 : decode code 976 = .ok (.iload 6, 2) := by decide +kernel
theorem d_La_law_978 : decode code 978 = .ok (.i2l, 1) := by decide +kernel
theorem d_La_law_979 : decode code 979 = .ok (.lcmp, 1) := by decide +kernel
theorem d_La_law_980 : decode code 980 = .ok (.ifCond .eq 5, 3) := by decide +kernel
theorem d_La_law_983 : decode code 983 = .ok (.iconst 0, 1) := by decide +kernel
theorem d_La_law_984 : decode code 984 = .ok (.ireturn, 1) := by decide +kernel
theorem d_La_law_985 : decode code 985 = .ok (.goto 159, 3) := by decide +kernel
theorem d_La_law_988 : decode code 988 = .ok (.aload_n 1, 1) := by decide +kernel
theorem d_La_law_989 : decode code 989 = .ok (.aload_n 0, 1) := by decide +kernel
theorem d_La_law_990 : decode code 990 = .ok (.iload 4, 2) := by decide +kernel
theorem d_La_law_992 : decode code 992 = .ok (.iconst 1, 1) := by decide +kernel
theorem d_La_law_993 : decode code 993 = .ok (.iadd, 1) := by decide +kernel
theorem d_La_law_994 : decode code 994 = .ok (.iaload, 1) := by decide +kernel
theorem d_La_law_995 : decode code 995 = .ok (.aload_n 3, 1) := by decide +kernel
theorem d_La_law_996 : decode code 996 = .ok (.invokestatic 139, 3) := by decide +kernel
theorem d_La_law_999 : decode code 999 = .ok (.istore 5, 2) := by decide +kernel
theorem d_La_law_1001 : decode code 1001 = .ok (.aload_n 2, 1) := by decide +kernel
theorem d_La_law_1002 : decode code 1002 = .ok (.aload_n 0, 1) := by decide +kernel
theorem d_La_law_1003 : decode code 1003 = .ok (.iload 4, 2) := by decide +kernel
theorem d_La_law_1005 : decode code 1005 = .ok (.iconst 1, 1) := by decide +kernel
theorem d_La_law_1006 : decode code 1006 = .ok (.iadd, 1) := by decide +kernel
theorem d_La_law_1007 : decode code 1007 = .ok (.iaload, 1) := by decide +kernel
theorem d_La_law_1008 : decode code 1008 = .ok (.invokevirtual 141, 3) := by decide +kernel
theorem d_La_law_1011 : decode code 1011 = .ok (.istore 6, 2) := by decide +kernel
theorem d_La_law_1013 : decode code 1013 = .ok (.aload_n 2, 1) := by decide +kernel
theorem d_La_law_1014 : decode code 1014 = .ok (.invokevirtual 82, 3) := by decide +kernel
theorem d_La_law_1017 : decode code 1017 = .ok (.iload 5, 2) := by decide +kernel
theorem d_La_law_1019 : decode code 1019 = .ok (.if_icmp .eq 5, 3) := by decide +kernel
theorem d_La_law_1022 : decode code 1022 = .ok (.iconst 0, 1) := by decide +kernel
theorem d_La_law_1023 : decode code 1023 = .ok (.ireturn, 1) := by decide +kernel
theorem d_La_law_1024 : decode code 1024 = .ok (.iload 5, 2) := by decide +kernel
theorem d_La_law_1026 : decode code 1026 = .ok (.ifCond .ne 15, 3) := by decide +kernel
theorem d_La_law_1029 : decode code 1029 = .ok (.aload_n 3, 1) := by decide +kernel
theorem d_La_law_1030 : decode code 1030 = .ok (.iconst 0, 1) := by decide +kernel
theorem d_La_law_1031 : decode code 1031 = .ok (.laload, 1) := by decide +kernel
theorem d_La_law_1032 : decode code 1032 = .ok (.iload 6, 2) := by decide +kernel
theorem d_La_law_1034 : decode code 1034 = .ok (.i2l, 1) := by decide +kernel
theorem d_La_law_1035 : decode code 1035 = .ok (.lcmp, 1) := by decide +kernel
theorem d_La_law_1036 : decode code 1036 = .ok (.ifCond .eq 5, 3) := by decide +kernel
theorem d_La_law_1039 : decode code 1039 = .ok (.iconst 0, 1) := by decide +kernel
theorem d_La_law_1040 : decode code 1040 = .ok (.ireturn, 1) := by decide +kernel
theorem d_La_law_1041 : decode code 1041 = .ok (.goto 103, 3) := by decide +kernel
theorem d_La_law_1044 : decode code 1044 = .ok (.aload_n 1, 1) := by decide +kernel
theorem d_La_law_1045 : decode code 1045 = .ok (.aload_n 3, 1) := by decide +kernel
theorem d_La_law_1046 : decode code 1046 = .ok (.invokestatic 142, 3) := by decide +kernel
theorem d_La_law_1049 : decode code 1049 = .ok (.istore 5, 2) := by decide +kernel
theorem d_La_law_1051 : decode code 1051 = .ok (.aload_n 2, 1) := by decide +kernel
theorem d_La_law_1052 : decode code 1052 = .ok (.invokevirtual 145, 3) := by decide +kernel
theorem d_La_law_1055 : decode code 1055 = .ok (.istore 6, 2) := by decide +kernel
theorem d_La_law_1057 : decode code 1057 = .ok (.aload_n 2, 1) := by decide +kernel
theorem d_La_law_1058 : decode code 1058 = .ok (.invokevirtual 82, 3) := by decide +kernel
theorem d_La_law_1061 : decode code 1061 = .ok (.iload 5, 2) := by decide +kernel
theorem d_La_law_1063 : decode code 1063 = .ok (.if_icmp .eq 5, 3) := by decide +kernel
theorem d_La_law_1066 : decode code 1066 = .ok (.iconst 0, 1) := by decide +kernel
theorem d_La_law_1067 : decode code 1067 = .ok (.ireturn, 1) := by decide +kernel
theorem d_La_law_1068 : decode code 1068 = .ok (.iload 5, 2) := by decide +kernel
theorem d_La_law_1070 : decode code 1070 = .ok (.ifCond .ne 15, 3) := by decide +kernel
theorem d_La_law_1073 : decode code 1073 = .ok (.aload_n 3, 1) := by decide +kernel
theorem d_La_law_1074 : decode code 1074 = .ok (.iconst 0, 1) := by decide +kernel
theorem d_La_law_1075 : decode code 1075 = .ok (.laload, 1) := by decide +kernel
theorem d_La_law_1076 : decode code 1076 = .ok (.iload 6, 2) := by decide +kernel
theorem d_La_law_1078 : decode code 1078 = .ok (.i2l, 1) := by decide +kernel
theorem d_La_law_1079 : decode code 1079 = .ok (.lcmp, 1) := by decide +kernel
theorem d_La_law_1080 : decode code 1080 = .ok (.ifCond .eq 5, 3) := by decide +kernel
theorem d_La_law_1083 : decode code 1083 = .ok (.iconst 0, 1) := by decide +kernel
theorem d_La_law_1084 : decode code 1084 = .ok (.ireturn, 1) := by decide +kernel
theorem d_La_law_1085 : decode code 1085 = .ok (.goto 59, 3) := by decide +kernel
theorem d_La_law_1088 : decode code 1088 = .ok (.aload_n 1, 1) := by decide +kernel
theorem d_La_law_1089 : decode code 1089 = .ok (.aload_n 0, 1) := by decide +kernel
theorem d_La_law_1090 : decode code 1090 = .ok (.iload 4, 2) := by decide +kernel
theorem d_La_law_1092 : decode code 1092 = .ok (.iconst 1, 1) := by decide +kernel
theorem d_La_law_1093 : decode code 1093 = .ok (.iadd, 1) := by decide +kernel
theorem d_La_law_1094 : decode code 1094 = .ok (.iaload, 1) := by decide +kernel
theorem d_La_law_1095 : decode code 1095 = .ok (.aload_n 3, 1) := by decide +kernel
theorem d_La_law_1096 : decode code 1096 = .ok (.invokestatic 146, 3) := by decide +kernel
theorem d_La_law_1099 : decode code 1099 = .ok (.istore 5, 2) := by decide +kernel
theorem d_La_law_1101 : decode code 1101 = .ok (.aload_n 2, 1) := by decide +kernel
theorem d_La_law_1102 : decode code 1102 = .ok (.aload_n 0, 1) := by decide +kernel
theorem d_La_law_1103 : decode code 1103 = .ok (.iload 4, 2) := by decide +kernel
theorem d_La_law_1105 : decode code 1105 = .ok (.iconst 1, 1) := by decide +kernel
theorem d_La_law_1106 : decode code 1106 = .ok (.iadd, 1) := by decide +kernel
theorem d_La_law_1107 : decode code 1107 = .ok (.iaload, 1) := by decide +kernel
theorem d_La_law_1108 : decode code 1108 = .ok (.invokevirtual 148, 3) := by decide +kernel
theorem d_La_law_1111 : decode code 1111 = .ok (.istore 6, 2) := by decide +kernel
theorem d_La_law_1113 : decode code 1113 = .ok (.aload_n 2, 1) := by decide +kernel
theorem d_La_law_1114 : decode code 1114 = .ok (.invokevirtual 82, 3) := by decide +kernel
theorem d_La_law_1117 : decode code 1117 = .ok (.iload 5, 2) := by decide +kernel
theorem d_La_law_1119 : decode code 1119 = .ok (.if_icmp .eq 5, 3) := by decide +kernel
theorem d_La_law_1122 : decode code 1122 = .ok (.iconst 0, 1) := by decide +kernel
theorem d_La_law_1123 : decode code 1123 = .ok (.ireturn, 1) := by decide +kernel
theorem d_La_law_1124 : decode code 1124 = .ok (.iload 5, 2) := by decide +kernel
theorem d_La_law_1126 : decode code 1126 = .ok (.ifCond .ne 15, 3) := by decide +kernel
theorem d_La_law_1129 : decode code 1129 = .ok (.aload_n 3, 1) := by decide +kernel
theorem d_La_law_1130 : decode code 1130 = .ok (.iconst 0, 1) := by decide +kernel
theorem d_La_law_1131 : decode code 1131 = .ok (.laload, 1) := by decide +kernel
theorem d_La_law_1132 : decode code 1132 = .ok (.iload 6, 2) := by decide +kernel
theorem d_La_law_1134 : decode code 1134 = .ok (.i2l, 1) := by decide +kernel
theorem d_La_law_1135 : decode code 1135 = .ok (.lcmp, 1) := by decide +kernel
theorem d_La_law_1136 : decode code 1136 = .ok (.ifCond .eq 5, 3) := by decide +kernel
theorem d_La_law_1139 : decode code 1139 = .ok (.iconst 0, 1) := by decide +kernel
theorem d_La_law_1140 : decode code 1140 = .ok (.ireturn, 1) := by decide +kernel
theorem d_La_law_1141 : decode code 1141 = .ok (.goto 3, 3) := by decide +kernel
theorem d_La_law_1144 : decode code 1144 = .ok (.iinc 4 4, 3) := by decide +kernel
theorem d_La_law_1147 : decode code 1147 = .ok (.goto (-1124), 3) := by decide +kernel
theorem d_La_law_1150 : decode code 1150 = .ok (.iconst 1, 1) := by decide +kernel
theorem d_La_law_1151 : decode code 1151 = .ok (.ireturn, 1) := by decide +kernel
