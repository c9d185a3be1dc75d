theorem tb_21 : (Jvm.Cond.methodLink "GraphWalker" (1 : Nat) ({ cls := "java/lang/Object", name := "<init>", desc := "()V" } : Jvm.MethodName)) ∈ gw_all := List.mem_filter.mpr ⟨List.mem_append_right _ (List.mem_of_getElem? (i := 21) (by decide +kernel)), rfl⟩
theorem tb_22 : (Jvm.Cond.instanceMethod ({ cls := "java/lang/Object", name := "<init>", desc := "()V" } : Jvm.MethodName)) ∈ gw_all := List.mem_filter.mpr ⟨List.mem_append_right _ (List.mem_of_getElem? (i := 22) (by decide +kernel)), rfl⟩
theorem tb_23 : (Jvm.Cond.code ({ cls := "java/lang/Object", name := "<init>", desc := "()V" } : Jvm.MethodName) object_method_1_code (1 : Nat) (Option.none : Option Jvm.ClassFile.FieldType)) ∈ gw_T := List.mem_filter.mpr ⟨List.mem_append_right _ (List.mem_of_getElem? (i := 23) (by decide +kernel)), rfl⟩
theorem tb_24 : (Jvm.Cond.classLink "GraphWalker" (7 : Nat) "GraphWalker$Walk") ∈ gw_all := List.mem_filter.mpr ⟨List.mem_append_right _ (List.mem_of_getElem? (i := 24) (by decide +kernel)), rfl⟩
theorem tb_25 : (Jvm.Cond.instantiable "GraphWalker$Walk" (17 : Nat)) ∈ gw_all := List.mem_filter.mpr ⟨List.mem_append_right _ (List.mem_of_getElem? (i := 25) (by decide +kernel)), rfl⟩
theorem tb_26 : (Jvm.Cond.methodLinkNest "GraphWalker" (9 : Nat) ({ cls := "GraphWalker$Walk", name := "<init>", desc := "()V" } : Jvm.MethodName) "GraphWalker") ∈ gw_all := List.mem_filter.mpr ⟨List.mem_append_right _ (List.mem_of_getElem? (i := 26) (by decide +kernel)), rfl⟩
theorem tb_27 : (Jvm.Cond.instanceMethod ({ cls := "GraphWalker$Walk", name := "<init>", desc := "()V" } : Jvm.MethodName)) ∈ gw_all := List.mem_filter.mpr ⟨List.mem_append_right _ (List.mem_of_getElem? (i := 27) (by decide +kernel)), rfl⟩
theorem tb_28 : (Jvm.Cond.code ({ cls := "GraphWalker$Walk", name := "<init>", desc := "()V" } : Jvm.MethodName) prog_7_method_1_code (1 : Nat) (Option.none : Option Jvm.ClassFile.FieldType)) ∈ gw_T := List.mem_filter.mpr ⟨List.mem_append_right _ (List.mem_of_getElem? (i := 28) (by decide +kernel)), rfl⟩
theorem tb_29 : (Jvm.Cond.methodLink "GraphWalker$Walk" (3 : Nat) ({ cls := "java/lang/Object", name := "<init>", desc := "()V" } : Jvm.MethodName)) ∈ gw_all := List.mem_filter.mpr ⟨List.mem_append_right _ (List.mem_of_getElem? (i := 29) (by decide +kernel)), rfl⟩
theorem tb_30 : (Jvm.Cond.classLink "GraphWalker$Walk" (9 : Nat) "GraphWalker$Terms") ∈ gw_all := List.mem_filter.mpr ⟨List.mem_append_right _ (List.mem_of_getElem? (i := 30) (by decide +kernel)), rfl⟩
theorem tb_31 : (Jvm.Cond.instantiable "GraphWalker$Terms" (7 : Nat)) ∈ gw_all := List.mem_filter.mpr ⟨List.mem_append_right _ (List.mem_of_getElem? (i := 31) (by decide +kernel)), rfl⟩
theorem tb_32 : (Jvm.Cond.methodLinkNest "GraphWalker$Walk" (11 : Nat) ({ cls := "GraphWalker$Terms", name := "<init>", desc := "()V" } : Jvm.MethodName) "GraphWalker") ∈ gw_all := List.mem_filter.mpr ⟨List.mem_append_right _ (List.mem_of_getElem? (i := 32) (by decide +kernel)), rfl⟩
theorem tb_33 : (Jvm.Cond.instanceMethod ({ cls := "GraphWalker$Terms", name := "<init>", desc := "()V" } : Jvm.MethodName)) ∈ gw_all := List.mem_filter.mpr ⟨List.mem_append_right _ (List.mem_of_getElem? (i := 33) (by decide +kernel)), rfl⟩
theorem tb_34 : (Jvm.Cond.code ({ cls := "GraphWalker$Terms", name := "<init>", desc := "()V" } : Jvm.MethodName) prog_4_method_1_code (1 : Nat) (Option.none : Option Jvm.ClassFile.FieldType)) ∈ gw_T := List.mem_filter.mpr ⟨List.mem_append_right _ (List.mem_of_getElem? (i := 34) (by decide +kernel)), rfl⟩
theorem tb_35 : (Jvm.Cond.methodLink "GraphWalker$Terms" (3 : Nat) ({ cls := "java/lang/Object", name := "<init>", desc := "()V" } : Jvm.MethodName)) ∈ gw_all := List.mem_filter.mpr ⟨List.mem_append_right _ (List.mem_of_getElem? (i := 35) (by decide +kernel)), rfl⟩
theorem tb_58 : (Jvm.Cond.arrayClass Jvm.ClassFile.FieldType.int) ∈ gw_all := List.mem_filter.mpr ⟨List.mem_append_right _ (List.mem_of_getElem? (i := 58) (by decide +kernel)), rfl⟩
theorem tb_59 : (Jvm.Cond.arrayClass Jvm.ClassFile.FieldType.long) ∈ gw_all := List.mem_filter.mpr ⟨List.mem_append_right _ (List.mem_of_getElem? (i := 59) (by decide +kernel)), rfl⟩
theorem tb_60 : (Jvm.Cond.classLink "GraphWalker$Walk" (18 : Nat) "GraphWalker$Places") ∈ gw_all := List.mem_filter.mpr ⟨List.mem_append_right _ (List.mem_of_getElem? (i := 60) (by decide +kernel)), rfl⟩
theorem tb_61 : (Jvm.Cond.instantiable "GraphWalker$Places" (4 : Nat)) ∈ gw_all := List.mem_filter.mpr ⟨List.mem_append_right _ (List.mem_of_getElem? (i := 61) (by decide +kernel)), rfl⟩
theorem tb_62 : (Jvm.Cond.methodLinkNest "GraphWalker$Walk" (20 : Nat) ({ cls := "GraphWalker$Places", name := "<init>", desc := "()V" } : Jvm.MethodName) "GraphWalker") ∈ gw_all := List.mem_filter.mpr ⟨List.mem_append_right _ (List.mem_of_getElem? (i := 62) (by decide +kernel)), rfl⟩
theorem tb_63 : (Jvm.Cond.instanceMethod ({ cls := "GraphWalker$Places", name := "<init>", desc := "()V" } : Jvm.MethodName)) ∈ gw_all := List.mem_filter.mpr ⟨List.mem_append_right _ (List.mem_of_getElem? (i := 63) (by decide +kernel)), rfl⟩
theorem tb_64 : (Jvm.Cond.code ({ cls := "GraphWalker$Places", name := "<init>", desc := "()V" } : Jvm.MethodName) prog_2_method_1_code (1 : Nat) (Option.none : Option Jvm.ClassFile.FieldType)) ∈ gw_T := List.mem_filter.mpr ⟨List.mem_append_right _ (List.mem_of_getElem? (i := 64) (by decide +kernel)), rfl⟩
theorem tb_65 : (Jvm.Cond.methodLink "GraphWalker$Places" (3 : Nat) ({ cls := "java/lang/Object", name := "<init>", desc := "()V" } : Jvm.MethodName)) ∈ gw_all := List.mem_filter.mpr ⟨List.mem_append_right _ (List.mem_of_getElem? (i := 65) (by decide +kernel)), rfl⟩
theorem tb_80 : (Jvm.Cond.classLink "GraphWalker$Walk" (25 : Nat) "GraphWalker$Things") ∈ gw_all := List.mem_filter.mpr ⟨List.mem_append_right _ (List.mem_of_getElem? (i := 80) (by decide +kernel)), rfl⟩
theorem tb_81 : (Jvm.Cond.instantiable "GraphWalker$Things" (15 : Nat)) ∈ gw_all := List.mem_filter.mpr ⟨List.mem_append_right _ (List.mem_of_getElem? (i := 81) (by decide +kernel)), rfl⟩
theorem tb_82 : (Jvm.Cond.methodLinkNest "GraphWalker$Walk" (27 : Nat) ({ cls := "GraphWalker$Things", name := "<init>", desc := "()V" } : Jvm.MethodName) "GraphWalker") ∈ gw_all := List.mem_filter.mpr ⟨List.mem_append_right _ (List.mem_of_getElem? (i := 82) (by decide +kernel)), rfl⟩
theorem tb_83 : (Jvm.Cond.instanceMethod ({ cls := "GraphWalker$Things", name := "<init>", desc := "()V" } : Jvm.MethodName)) ∈ gw_all := List.mem_filter.mpr ⟨List.mem_append_right _ (List.mem_of_getElem? (i := 83) (by decide +kernel)), rfl⟩
theorem tb_84 : (Jvm.Cond.code ({ cls := "GraphWalker$Things", name := "<init>", desc := "()V" } : Jvm.MethodName) prog_5_method_1_code (1 : Nat) (Option.none : Option Jvm.ClassFile.FieldType)) ∈ gw_T := List.mem_filter.mpr ⟨List.mem_append_right _ (List.mem_of_getElem? (i := 84) (by decide +kernel)), rfl⟩
theorem tb_85 : (Jvm.Cond.methodLink "GraphWalker$Things" (3 : Nat) ({ cls := "java/lang/Object", name := "<init>", desc := "()V" } : Jvm.MethodName)) ∈ gw_all := List.mem_filter.mpr ⟨List.mem_append_right _ (List.mem_of_getElem? (i := 85) (by decide +kernel)), rfl⟩
theorem tb_135 : (Jvm.Cond.classLink "GraphWalker$Walk" (32 : Nat) "GraphWalker$Row") ∈ gw_all := List.mem_filter.mpr ⟨List.mem_append_right _ (List.mem_of_getElem? (i := 135) (by decide +kernel)), rfl⟩
theorem tb_136 : (Jvm.Cond.instantiable "GraphWalker$Row" (6 : Nat)) ∈ gw_all := List.mem_filter.mpr ⟨List.mem_append_right _ (List.mem_of_getElem? (i := 136) (by decide +kernel)), rfl⟩
theorem tb_137 : (Jvm.Cond.methodLinkNest "GraphWalker$Walk" (34 : Nat) ({ cls := "GraphWalker$Row", name := "<init>", desc := "()V" } : Jvm.MethodName) "GraphWalker") ∈ gw_all := List.mem_filter.mpr ⟨List.mem_append_right _ (List.mem_of_getElem? (i := 137) (by decide +kernel)), rfl⟩
theorem tb_138 : (Jvm.Cond.instanceMethod ({ cls := "GraphWalker$Row", name := "<init>", desc := "()V" } : Jvm.MethodName)) ∈ gw_all := List.mem_filter.mpr ⟨List.mem_append_right _ (List.mem_of_getElem? (i := 138) (by decide +kernel)), rfl⟩
theorem tb_139 : (Jvm.Cond.code ({ cls := "GraphWalker$Row", name := "<init>", desc := "()V" } : Jvm.MethodName) prog_3_method_1_code (1 : Nat) (Option.none : Option Jvm.ClassFile.FieldType)) ∈ gw_T := List.mem_filter.mpr ⟨List.mem_append_right _ (List.mem_of_getElem? (i := 139) (by decide +kernel)), rfl⟩
theorem tb_140 : (Jvm.Cond.methodLink "GraphWalker$Row" (3 : Nat) ({ cls := "java/lang/Object", name := "<init>", desc := "()V" } : Jvm.MethodName)) ∈ gw_all := List.mem_filter.mpr ⟨List.mem_append_right _ (List.mem_of_getElem? (i := 140) (by decide +kernel)), rfl⟩
theorem tb_162 : (Jvm.Cond.classLink "GraphWalker$Walk" (39 : Nat) "GraphWalker$Value") ∈ gw_all := List.mem_filter.mpr ⟨List.mem_append_right _ (List.mem_of_getElem? (i := 162) (by decide +kernel)), rfl⟩
theorem tb_163 : (Jvm.Cond.instantiable "GraphWalker$Value" (4 : Nat)) ∈ gw_all := List.mem_filter.mpr ⟨List.mem_append_right _ (List.mem_of_getElem? (i := 163) (by decide +kernel)), rfl⟩
theorem tb_164 : (Jvm.Cond.methodLinkNest "GraphWalker$Walk" (41 : Nat) ({ cls := "GraphWalker$Value", name := "<init>", desc := "()V" } : Jvm.MethodName) "GraphWalker") ∈ gw_all := List.mem_filter.mpr ⟨List.mem_append_right _ (List.mem_of_getElem? (i := 164) (by decide +kernel)), rfl⟩
theorem tb_165 : (Jvm.Cond.instanceMethod ({ cls := "GraphWalker$Value", name := "<init>", desc := "()V" } : Jvm.MethodName)) ∈ gw_all := List.mem_filter.mpr ⟨List.mem_append_right _ (List.mem_of_getElem? (i := 165) (by decide +kernel)), rfl⟩
theorem tb_166 : (Jvm.Cond.code ({ cls := "GraphWalker$Value", name := "<init>", desc := "()V" } : Jvm.MethodName) prog_6_method_1_code (1 : Nat) (Option.none : Option Jvm.ClassFile.FieldType)) ∈ gw_T := List.mem_filter.mpr ⟨List.mem_append_right _ (List.mem_of_getElem? (i := 166) (by decide +kernel)), rfl⟩
theorem tb_167 : (Jvm.Cond.methodLink "GraphWalker$Value" (3 : Nat) ({ cls := "java/lang/Object", name := "<init>", desc := "()V" } : Jvm.MethodName)) ∈ gw_all := List.mem_filter.mpr ⟨List.mem_append_right _ (List.mem_of_getElem? (i := 167) (by decide +kernel)), rfl⟩
theorem tb_870 : (Jvm.Cond.methodLink "GraphWalkerModel" (1 : Nat) ({ cls := "java/lang/Object", name := "<init>", desc := "()V" } : Jvm.MethodName)) ∈ gw_all := List.mem_filter.mpr ⟨List.mem_append_right _ (List.mem_of_getElem? (i := 870) (by decide +kernel)), rfl⟩
theorem tb_1016 : (Jvm.Cond.arrayClass Jvm.ClassFile.FieldType.boolean) ∈ gw_all := List.mem_filter.mpr ⟨List.mem_append_right _ (List.mem_of_getElem? (i := 1016) (by decide +kernel)), rfl⟩
theorem d_Te_init_0 : decode b_Te_init 0 = .ok (.aload_n 0, 1) := by decide +kernel
theorem d_Te_init_1 : decode b_Te_init 1 = .ok (.invokespecial 3, 3) := by decide +kernel
theorem d_Te_init_4 : decode b_Te_init 4 = .ok (.aload_n 0, 1) := by decide +kernel
theorem d_Te_init_5 : decode b_Te_init 5 = .ok (.sipush 200, 3) := by decide +kernel
theorem d_Te_init_8 : decode b_Te_init 8 = .ok (.newarray .int, 2) := by decide +kernel
theorem d_Te_init_10 : decode b_Te_init 10 = .ok (.putfield 9, 3) := by decide +kernel
theorem d_Te_init_13 : decode b_Te_init 13 = .ok (.aload_n 0, 1) := by decide +kernel
theorem d_Te_init_14 : decode b_Te_init 14 = .ok (.sipush 200, 3) := by decide +kernel
theorem d_Te_init_17 : decode b_Te_init 17 = .ok (.newarray .int, 2) := by decide +kernel
theorem d_Te_init_19 : decode b_Te_init 19 = .ok (.putfield 15, 3) := by decide +kernel
theorem d_Te_init_22 : decode b_Te_init 22 = .ok (.aload_n 0, 1) := by decide +kernel
theorem d_Te_init_23 : decode b_Te_init 23 = .ok (.sipush 200, 3) := by decide +kernel
theorem d_Te_init_26 : decode b_Te_init 26 = .ok (.newarray .int, 2) := by decide +kernel
theorem d_Te_init_28 : decode b_Te_init 28 = .ok (.putfield 18, 3) := by decide +kernel
theorem d_Te_init_31 : decode b_Te_init 31 = .ok (.aload_n 0, 1) := by decide +kernel
theorem d_Te_init_32 : decode b_Te_init 32 = .ok (.sipush 200, 3) := by decide +kernel
theorem d_Te_init_35 : decode b_Te_init 35 = .ok (.newarray .int, 2) := by decide +kernel
theorem d_Te_init_37 : decode b_Te_init 37 = .ok (.putfield 21, 3) := by decide +kernel
theorem d_Te_init_40 : decode b_Te_init 40 = .ok (.aload_n 0, 1) := by decide +kernel
theorem d_Te_init_41 : decode b_Te_init 41 = .ok (.sipush 200, 3) := by decide +kernel
theorem d_Te_init_44 : decode b_Te_init 44 = .ok (.newarray .long, 2) := by decide +kernel
theorem d_Te_init_46 : decode b_Te_init 46 = .ok (.putfield 24, 3) := by decide +kernel
theorem d_Te_init_49 : decode b_Te_init 49 = .ok (.aload_n 0, 1) := by decide +kernel
theorem d_Te_init_50 : decode b_Te_init 50 = .ok (.sipush 200, 3) := by decide +kernel
theorem d_Te_init_53 : decode b_Te_init 53 = .ok (.newarray .int, 2) := by decide +kernel
theorem d_Te_init_55 : decode b_Te_init 55 = .ok (.putfield 28, 3) := by decide +kernel
theorem d_Te_init_58 : decode b_Te_init 58 = .ok (.aload_n 0, 1) := by decide +kernel
theorem d_Te_init_59 : decode b_Te_init 59 = .ok (.iconst 0, 1) := by decide +kernel
theorem d_Te_init_60 : decode b_Te_init 60 = .ok (.putfield 31, 3) := by decide +kernel
theorem d_Te_init_63 : decode b_Te_init 63 = .ok (.return_, 1) := by decide +kernel
theorem d_Pl_init_0 : decode b_Pl_init 0 = .ok (.aload_n 0, 1) := by decide +kernel
theorem d_Pl_init_1 : decode b_Pl_init 1 = .ok (.invokespecial 3, 3) := by decide +kernel
theorem d_Pl_init_4 : decode b_Pl_init 4 = .ok (.aload_n 0, 1) := by decide +kernel
theorem d_Pl_init_5 : decode b_Pl_init 5 = .ok (.sipush 1000, 3) := by decide +kernel
theorem d_Pl_init_8 : decode b_Pl_init 8 = .ok (.newarray .int, 2) := by decide +kernel
theorem d_Pl_init_10 : decode b_Pl_init 10 = .ok (.putfield 9, 3) := by decide +kernel
theorem d_Pl_init_13 : decode b_Pl_init 13 = .ok (.aload_n 0, 1) := by decide +kernel
theorem d_Pl_init_14 : decode b_Pl_init 14 = .ok (.sipush 1000, 3) := by decide +kernel
theorem d_Pl_init_17 : decode b_Pl_init 17 = .ok (.newarray .int, 2) := by decide +kernel
theorem d_Pl_init_19 : decode b_Pl_init 19 = .ok (.putfield 15, 3) := by decide +kernel
theorem d_Pl_init_22 : decode b_Pl_init 22 = .ok (.aload_n 0, 1) := by decide +kernel
theorem d_Pl_init_23 : decode b_Pl_init 23 = .ok (.sipush 1000, 3) := by decide +kernel
theorem d_Pl_init_26 : decode b_Pl_init 26 = .ok (.newarray .int, 2) := by decide +kernel
theorem d_Pl_init_28 : decode b_Pl_init 28 = .ok (.putfield 18, 3) := by decide +kernel
theorem d_Pl_init_31 : decode b_Pl_init 31 = .ok (.aload_n 0, 1) := by decide +kernel
theorem d_Pl_init_32 : decode b_Pl_init 32 = .ok (.iconst 0, 1) := by decide +kernel
theorem d_Pl_init_33 : decode b_Pl_init 33 = .ok (.putfield 21, 3) := by decide +kernel
theorem d_Pl_init_36 : decode b_Pl_init 36 = .ok (.return_, 1) := by decide +kernel
theorem d_Th_init_0 : decode b_Th_init 0 = .ok (.aload_n 0, 1) := by decide +kernel
theorem d_Th_init_1 : decode b_Th_init 1 = .ok (.invokespecial 3, 3) := by decide +kernel
theorem d_Th_init_4 : decode b_Th_init 4 = .ok (.aload_n 0, 1) := by decide +kernel
theorem d_Th_init_5 : decode b_Th_init 5 = .ok (.sipush 1000, 3) := by decide +kernel
theorem d_Th_init_8 : decode b_Th_init 8 = .ok (.newarray .int, 2) := by decide +kernel
theorem d_Th_init_10 : decode b_Th_init 10 = .ok (.putfield 9, 3) := by decide +kernel
theorem d_Th_init_13 : decode b_Th_init 13 = .ok (.aload_n 0, 1) := by decide +kernel
theorem d_Th_init_14 : decode b_Th_init 14 = .ok (.sipush 1000, 3) := by decide +kernel
theorem d_Th_init_17 : decode b_Th_init 17 = .ok (.newarray .int, 2) := by decide +kernel
theorem d_Th_init_19 : decode b_Th_init 19 = .ok (.putfield 15, 3) := by decide +kernel
theorem d_Th_init_22 : decode b_Th_init 22 = .ok (.aload_n 0, 1) := by decide +kernel
theorem d_Th_init_23 : decode b_Th_init 23 = .ok (.sipush 1000, 3) := by decide +kernel
theorem d_Th_init_26 : decode b_Th_init 26 = .ok (.newarray .int, 2) := by decide +kernel
theorem d_Th_init_28 : decode b_Th_init 28 = .ok (.putfield 18, 3) := by decide +kernel
theorem d_Th_init_31 : decode b_Th_init 31 = .ok (.aload_n 0, 1) := by decide +kernel
theorem d_Th_init_32 : decode b_Th_init 32 = .ok (.sipush 1000, 3) := by decide +kernel
theorem d_Th_init_35 : decode b_Th_init 35 = .ok (.newarray .int, 2) := by decide +kernel
theorem d_Th_init_37 : decode b_Th_init 37 = .ok (.putfield 21, 3) := by decide +kernel
theorem d_Th_init_40 : decode b_Th_init 40 = .ok (.aload_n 0, 1) := by decide +kernel
theorem d_Th_init_41 : decode b_Th_init 41 = .ok (.sipush 1000, 3) := by decide +kernel
theorem d_Th_init_44 : decode b_Th_init 44 = .ok (.newarray .int, 2) := by decide +kernel
theorem d_Th_init_46 : decode b_Th_init 46 = .ok (.putfield 24, 3) := by decide +kernel
theorem d_Th_init_49 : decode b_Th_init 49 = .ok (.aload_n 0, 1) := by decide +kernel
theorem d_Th_init_50 : decode b_Th_init 50 = .ok (.sipush 1000, 3) := by decide +kernel
theorem d_Th_init_53 : decode b_Th_init 53 = .ok (.newarray .int, 2) := by decide +kernel
theorem d_Th_init_55 : decode b_Th_init 55 = .ok (.putfield 27, 3) := by decide +kernel
theorem d_Th_init_58 : decode b_Th_init 58 = .ok (.aload_n 0, 1) := by decide +kernel
theorem d_Th_init_59 : decode b_Th_init 59 = .ok (.sipush 1000, 3) := by decide +kernel
theorem d_Th_init_62 : decode b_Th_init 62 = .ok (.newarray .long, 2) := by decide +kernel
theorem d_Th_init_64 : decode b_Th_init 64 = .ok (.putfield 30, 3) := by decide +kernel
theorem d_Th_init_67 : decode b_Th_init 67 = .ok (.aload_n 0, 1) := by decide +kernel
theorem d_Th_init_68 : decode b_Th_init 68 = .ok (.sipush 1000, 3) := by decide +kernel
theorem d_Th_init_71 : decode b_Th_init 71 = .ok (.newarray .int, 2) := by decide +kernel
theorem d_Th_init_73 : decode b_Th_init 73 = .ok (.putfield 34, 3) := by decide +kernel
theorem d_Th_init_76 : decode b_Th_init 76 = .ok (.aload_n 0, 1) := by decide +kernel
theorem d_Th_init_77 : decode b_Th_init 77 = .ok (.sipush 1000, 3) := by decide +kernel
theorem d_Th_init_80 : decode b_Th_init 80 = .ok (.newarray .int, 2) := by decide +kernel
theorem d_Th_init_82 : decode b_Th_init 82 = .ok (.putfield 37, 3) := by decide +kernel
theorem d_Th_init_85 : decode b_Th_init 85 = .ok (.aload_n 0, 1) := by decide +kernel
theorem d_Th_init_86 : decode b_Th_init 86 = .ok (.sipush 1000, 3) := by decide +kernel
theorem d_Th_init_89 : decode b_Th_init 89 = .ok (.newarray .int, 2) := by decide +kernel
theorem d_Th_init_91 : decode b_Th_init 91 = .ok (.putfield 40, 3) := by decide +kernel
theorem d_Th_init_94 : decode b_Th_init 94 = .ok (.aload_n 0, 1) := by decide +kernel
theorem d_Th_init_95 : decode b_Th_init 95 = .ok (.sipush 300, 3) := by decide +kernel
theorem d_Th_init_98 : decode b_Th_init 98 = .ok (.newarray .int, 2) := by decide +kernel
theorem d_Th_init_100 : decode b_Th_init 100 = .ok (.putfield 43, 3) := by decide +kernel
theorem d_Th_init_103 : decode b_Th_init 103 = .ok (.aload_n 0, 1) := by decide +kernel
theorem d_Th_init_104 : decode b_Th_init 104 = .ok (.sipush 300, 3) := by decide +kernel
theorem d_Th_init_107 : decode b_Th_init 107 = .ok (.newarray .int, 2) := by decide +kernel
theorem d_Th_init_109 : decode b_Th_init 109 = .ok (.putfield 46, 3) := by decide +kernel
theorem d_Th_init_112 : decode b_Th_init 112 = .ok (.aload_n 0, 1) := by decide +kernel
theorem d_Th_init_113 : decode b_Th_init 113 = .ok (.iconst 0, 1) := by decide +kernel
theorem d_Th_init_114 : decode b_Th_init 114 = .ok (.putfield 49, 3) := by decide +kernel
theorem d_Th_init_117 : decode b_Th_init 117 = .ok (.aload_n 0, 1) := by decide +kernel
theorem d_Th_init_118 : decode b_Th_init 118 = .ok (.iconst 0, 1) := by decide +kernel
theorem d_Th_init_119 : decode b_Th_init 119 = .ok (.putfield 53, 3) := by decide +kernel
theorem d_Th_init_122 : decode b_Th_init 122 = .ok (.aload_n 0, 1) := by decide +kernel
theorem d_Th_init_123 : decode b_Th_init 123 = .ok (.iconst 0, 1) := by decide +kernel
theorem d_Th_init_124 : decode b_Th_init 124 = .ok (.putfield 56, 3) := by decide +kernel
theorem d_Th_init_127 : decode b_Th_init 127 = .ok (.return_, 1) := by decide +kernel
theorem d_Ro_init_0 : decode b_Ro_init 0 = .ok (.aload_n 0, 1) := by decide +kernel
theorem d_Ro_init_1 : decode b_Ro_init 1 = .ok (.invokespecial 3, 3) := by decide +kernel
theorem d_Ro_init_4 : decode b_Ro_init 4 = .ok (.aload_n 0, 1) := by decide +kernel
theorem d_Ro_init_5 : decode b_Ro_init 5 = .ok (.sipush 300, 3) := by decide +kernel
theorem d_Ro_init_8 : decode b_Ro_init 8 = .ok (.newarray .int, 2) := by decide +kernel
theorem d_Ro_init_10 : decode b_Ro_init 10 = .ok (.putfield 9, 3) := by decide +kernel
theorem d_Ro_init_13 : decode b_Ro_init 13 = .ok (.aload_n 0, 1) := by decide +kernel
theorem d_Ro_init_14 : decode b_Ro_init 14 = .ok (.sipush 300, 3) := by decide +kernel
theorem d_Ro_init_17 : decode b_Ro_init 17 = .ok (.newarray .int, 2) := by decide +kernel
theorem d_Ro_init_19 : decode b_Ro_init 19 = .ok (.putfield 15, 3) := by decide +kernel
theorem d_Ro_init_22 : decode b_Ro_init 22 = .ok (.aload_n 0, 1) := by decide +kernel
theorem d_Ro_init_23 : decode b_Ro_init 23 = .ok (.sipush 300, 3) := by decide +kernel
theorem d_Ro_init_26 : decode b_Ro_init 26 = .ok (.newarray .int, 2) := by decide +kernel
theorem d_Ro_init_28 : decode b_Ro_init 28 = .ok (.putfield 18, 3) := by decide +kernel
theorem d_Ro_init_31 : decode b_Ro_init 31 = .ok (.aload_n 0, 1) := by decide +kernel
theorem d_Ro_init_32 : decode b_Ro_init 32 = .ok (.sipush 300, 3) := by decide +kernel
theorem d_Ro_init_35 : decode b_Ro_init 35 = .ok (.newarray .long, 2) := by decide +kernel
theorem d_Ro_init_37 : decode b_Ro_init 37 = .ok (.putfield 21, 3) := by decide +kernel
theorem d_Ro_init_40 : decode b_Ro_init 40 = .ok (.aload_n 0, 1) := by decide +kernel
theorem d_Ro_init_41 : decode b_Ro_init 41 = .ok (.iconst 0, 1) := by decide +kernel
theorem d_Ro_init_42 : decode b_Ro_init 42 = .ok (.putfield 25, 3) := by decide +kernel
theorem d_Ro_init_45 : decode b_Ro_init 45 = .ok (.aload_n 0, 1) := by decide +kernel
theorem d_Ro_init_46 : decode b_Ro_init 46 = .ok (.iconst 0, 1) := by decide +kernel
theorem d_Ro_init_47 : decode b_Ro_init 47 = .ok (.putfield 29, 3) := by decide +kernel
theorem d_Ro_init_50 : decode b_Ro_init 50 = .ok (.return_, 1) := by decide +kernel
theorem d_Va_init_0 : decode b_Va_init 0 = .ok (.aload_n 0, 1) := by decide +kernel
theorem d_Va_init_1 : decode b_Va_init 1 = .ok (.invokespecial 3, 3) := by decide +kernel
theorem d_Va_init_4 : decode b_Va_init 4 = .ok (.aload_n 0, 1) := by decide +kernel
theorem d_Va_init_5 : decode b_Va_init 5 = .ok (.iconst 0, 1) := by decide +kernel
theorem d_Va_init_6 : decode b_Va_init 6 = .ok (.putfield 9, 3) := by decide +kernel
theorem d_Va_init_9 : decode b_Va_init 9 = .ok (.aload_n 0, 1) := by decide +kernel
theorem d_Va_init_10 : decode b_Va_init 10 = .ok (.lconst 0, 1) := by decide +kernel
theorem d_Va_init_11 : decode b_Va_init 11 = .ok (.putfield 15, 3) := by decide +kernel
theorem d_Va_init_14 : decode b_Va_init 14 = .ok (.aload_n 0, 1) := by decide +kernel
theorem d_Va_init_15 : decode b_Va_init 15 = .ok (.iconst (-1), 1) := by decide +kernel
theorem d_Va_init_16 : decode b_Va_init 16 = .ok (.putfield 19, 3) := by decide +kernel
theorem d_Va_init_19 : decode b_Va_init 19 = .ok (.aload_n 0, 1) := by decide +kernel
theorem d_Va_init_20 : decode b_Va_init 20 = .ok (.iconst (-1), 1) := by decide +kernel
theorem d_Va_init_21 : decode b_Va_init 21 = .ok (.putfield 22, 3) := by decide +kernel
theorem d_Va_init_24 : decode b_Va_init 24 = .ok (.return_, 1) := by decide +kernel
theorem d_Wa_init_0 : decode b_Wa_init 0 = .ok (.aload_n 0, 1) := by decide +kernel
theorem d_Wa_init_1 : decode b_Wa_init 1 = .ok (.invokespecial 3, 3) := by decide +kernel
theorem d_Wa_init_4 : decode b_Wa_init 4 = .ok (.aload_n 0, 1) := by decide +kernel
theorem d_Wa_init_5 : decode b_Wa_init 5 = .ok (.new 9, 3) := by decide +kernel
theorem d_Wa_init_8 : decode b_Wa_init 8 = .ok (.dup, 1) := by decide +kernel
theorem d_Wa_init_9 : decode b_Wa_init 9 = .ok (.invokespecial 11, 3) := by decide +kernel
theorem d_Wa_init_12 : decode b_Wa_init 12 = .ok (.putfield 12, 3) := by decide +kernel
theorem d_Wa_init_15 : decode b_Wa_init 15 = .ok (.aload_n 0, 1) := by decide +kernel
theorem d_Wa_init_16 : decode b_Wa_init 16 = .ok (.new 18, 3) := by decide +kernel
theorem d_Wa_init_19 : decode b_Wa_init 19 = .ok (.dup, 1) := by decide +kernel
theorem d_Wa_init_20 : decode b_Wa_init 20 = .ok (.invokespecial 20, 3) := by decide +kernel
theorem d_Wa_init_23 : decode b_Wa_init 23 = .ok (.putfield 21, 3) := by decide +kernel
theorem d_Wa_init_26 : decode b_Wa_init 26 = .ok (.aload_n 0, 1) := by decide +kernel
theorem d_Wa_init_27 : decode b_Wa_init 27 = .ok (.new 25, 3) := by decide +kernel
theorem d_Wa_init_30 : decode b_Wa_init 30 = .ok (.dup, 1) := by decide +kernel
theorem d_Wa_init_31 : decode b_Wa_init 31 = .ok (.invokespecial 27, 3) := by decide +kernel
theorem d_Wa_init_34 : decode b_Wa_init 34 = .ok (.putfield 28, 3) := by decide +kernel
theorem d_Wa_init_37 : decode b_Wa_init 37 = .ok (.aload_n 0, 1) := by decide +kernel
theorem d_Wa_init_38 : decode b_Wa_init 38 = .ok (.new 32, 3) := by decide +kernel
theorem d_Wa_init_41 : decode b_Wa_init 41 = .ok (.dup, 1) := by decide +kernel
theorem d_Wa_init_42 : decode b_Wa_init 42 = .ok (.invokespecial 34, 3) := by decide +kernel
theorem d_Wa_init_45 : decode b_Wa_init 45 = .ok (.putfield 35, 3) := by decide +kernel
theorem d_Wa_init_48 : decode b_Wa_init 48 = .ok (.aload_n 0, 1) := by decide +kernel
theorem d_Wa_init_49 : decode b_Wa_init 49 = .ok (.new 39, 3) := by decide +kernel
theorem d_Wa_init_52 : decode b_Wa_init 52 = .ok (.dup, 1) := by decide +kernel
theorem d_Wa_init_53 : decode b_Wa_init 53 = .ok (.invokespecial 41, 3) := by decide +kernel
theorem d_Wa_init_56 : decode b_Wa_init 56 = .ok (.putfield 42, 3) := by decide +kernel
theorem d_Wa_init_59 : decode b_Wa_init 59 = .ok (.aload_n 0, 1) := by decide +kernel
theorem d_Wa_init_60 : decode b_Wa_init 60 = .ok (.iconst 0, 1) := by decide +kernel
theorem d_Wa_init_61 : decode b_Wa_init 61 = .ok (.putfield 46, 3) := by decide +kernel
theorem d_Wa_init_64 : decode b_Wa_init 64 = .ok (.aload_n 0, 1) := by decide +kernel
theorem d_Wa_init_65 : decode b_Wa_init 65 = .ok (.iconst 0, 1) := by decide +kernel
theorem d_Wa_init_66 : decode b_Wa_init 66 = .ok (.putfield 50, 3) := by decide +kernel
theorem d_Wa_init_69 : decode b_Wa_init 69 = .ok (.aload_n 0, 1) := by decide +kernel
theorem d_Wa_init_70 : decode b_Wa_init 70 = .ok (.iconst 0, 1) := by decide +kernel
theorem d_Wa_init_71 : decode b_Wa_init 71 = .ok (.putfield 54, 3) := by decide +kernel
theorem d_Wa_init_74 : decode b_Wa_init 74 = .ok (.aload_n 0, 1) := by decide +kernel
theorem d_Wa_init_75 : decode b_Wa_init 75 = .ok (.iconst (-1), 1) := by decide +kernel
theorem d_Wa_init_76 : decode b_Wa_init 76 = .ok (.putfield 57, 3) := by decide +kernel
theorem d_Wa_init_79 : decode b_Wa_init 79 = .ok (.aload_n 0, 1) := by decide +kernel
theorem d_Wa_init_80 : decode b_Wa_init 80 = .ok (.iconst (-1), 1) := by decide +kernel
theorem d_Wa_init_81 : decode b_Wa_init 81 = .ok (.putfield 60, 3) := by decide +kernel
theorem d_Wa_init_84 : decode b_Wa_init 84 = .ok (.aload_n 0, 1) := by decide +kernel
theorem d_Wa_init_85 : decode b_Wa_init 85 = .ok (.iconst (-1), 1) := by decide +kernel
theorem d_Wa_init_86 : decode b_Wa_init 86 = .ok (.putfield 63, 3) := by decide +kernel
theorem d_Wa_init_89 : decode b_Wa_init 89 = .ok (.aload_n 0, 1) := by decide +kernel
theorem d_Wa_init_90 : decode b_Wa_init 90 = .ok (.iconst 0, 1) := by decide +kernel
theorem d_Wa_init_91 : decode b_Wa_init 91 = .ok (.putfield 66, 3) := by decide +kernel
theorem d_Wa_init_94 : decode b_Wa_init 94 = .ok (.aload_n 0, 1) := by decide +kernel
theorem d_Wa_init_95 : decode b_Wa_init 95 = .ok (.iconst 0, 1) := by decide +kernel
theorem d_Wa_init_96 : decode b_Wa_init 96 = .ok (.putfield 69, 3) := by decide +kernel
theorem d_Wa_init_99 : decode b_Wa_init 99 = .ok (.aload_n 0, 1) := by decide +kernel
theorem d_Wa_init_100 : decode b_Wa_init 100 = .ok (.iconst 0, 1) := by decide +kernel
theorem d_Wa_init_101 : decode b_Wa_init 101 = .ok (.putfield 72, 3) := by decide +kernel
theorem d_Wa_init_104 : decode b_Wa_init 104 = .ok (.aload_n 0, 1) := by decide +kernel
theorem d_Wa_init_105 : decode b_Wa_init 105 = .ok (.iconst (-1), 1) := by decide +kernel
theorem d_Wa_init_106 : decode b_Wa_init 106 = .ok (.putfield 75, 3) := by decide +kernel
theorem d_Wa_init_109 : decode b_Wa_init 109 = .ok (.aload_n 0, 1) := by decide +kernel
theorem d_Wa_init_110 : decode b_Wa_init 110 = .ok (.iconst 0, 1) := by decide +kernel
theorem d_Wa_init_111 : decode b_Wa_init 111 = .ok (.putfield 78, 3) := by decide +kernel
theorem d_Wa_init_114 : decode b_Wa_init 114 = .ok (.aload_n 0, 1) := by decide +kernel
theorem d_Wa_init_115 : decode b_Wa_init 115 = .ok (.iconst 0, 1) := by decide +kernel
theorem d_Wa_init_116 : decode b_Wa_init 116 = .ok (.putfield 81, 3) := by decide +kernel
theorem d_Wa_init_119 : decode b_Wa_init 119 = .ok (.return_, 1) := by decide +kernel
theorem d_Gw_init_0 : decode b_Gw_init 0 = .ok (.aload_n 0, 1) := by decide +kernel
theorem d_Gw_init_1 : decode b_Gw_init 1 = .ok (.invokespecial 1, 3) := by decide +kernel
theorem d_Gw_init_4 : decode b_Gw_init 4 = .ok (.aload_n 0, 1) := by decide +kernel
theorem d_Gw_init_5 : decode b_Gw_init 5 = .ok (.new 7, 3) := by decide +kernel
theorem d_Gw_init_8 : decode b_Gw_init 8 = .ok (.dup, 1) := by decide +kernel
theorem d_Gw_init_9 : decode b_Gw_init 9 = .ok (.invokespecial 9, 3) := by decide +kernel
theorem d_Gw_init_12 : decode b_Gw_init 12 = .ok (.putfield 10, 3) := by decide +kernel
theorem d_Gw_init_15 : decode b_Gw_init 15 = .ok (.return_, 1) := by decide +kernel
theorem d_Mo_init_0 : decode b_Mo_init 0 = .ok (.aload_n 0, 1) := by decide +kernel
theorem d_Mo_init_1 : decode b_Mo_init 1 = .ok (.invokespecial 1, 3) := by decide +kernel
theorem d_Mo_init_4 : decode b_Mo_init 4 = .ok (.aload_n 0, 1) := by decide +kernel
theorem d_Mo_init_5 : decode b_Mo_init 5 = .ok (.sipush 200, 3) := by decide +kernel
theorem d_Mo_init_8 : decode b_Mo_init 8 = .ok (.newarray .int, 2) := by decide +kernel
theorem d_Mo_init_10 : decode b_Mo_init 10 = .ok (.putfield 7, 3) := by decide +kernel
theorem d_Mo_init_13 : decode b_Mo_init 13 = .ok (.aload_n 0, 1) := by decide +kernel
theorem d_Mo_init_14 : decode b_Mo_init 14 = .ok (.sipush 200, 3) := by decide +kernel
theorem d_Mo_init_17 : decode b_Mo_init 17 = .ok (.newarray .int, 2) := by decide +kernel
theorem d_Mo_init_19 : decode b_Mo_init 19 = .ok (.putfield 13, 3) := by decide +kernel
theorem d_Mo_init_22 : decode b_Mo_init 22 = .ok (.aload_n 0, 1) := by decide +kernel
theorem d_Mo_init_23 : decode b_Mo_init 23 = .ok (.sipush 200, 3) := by decide +kernel
theorem d_Mo_init_26 : decode b_Mo_init 26 = .ok (.newarray .int, 2) := by decide +kernel
theorem d_Mo_init_28 : decode b_Mo_init 28 = .ok (.putfield 16, 3) := by decide +kernel
theorem d_Mo_init_31 : decode b_Mo_init 31 = .ok (.aload_n 0, 1) := by decide +kernel
theorem d_Mo_init_32 : decode b_Mo_init 32 = .ok (.sipush 200, 3) := by decide +kernel
theorem d_Mo_init_35 : decode b_Mo_init 35 = .ok (.newarray .int, 2) := by decide +kernel
theorem d_Mo_init_37 : decode b_Mo_init 37 = .ok (.putfield 19, 3) := by decide +kernel
theorem d_Mo_init_40 : decode b_Mo_init 40 = .ok (.aload_n 0, 1) := by decide +kernel
theorem d_Mo_init_41 : decode b_Mo_init 41 = .ok (.sipush 200, 3) := by decide +kernel
theorem d_Mo_init_44 : decode b_Mo_init 44 = .ok (.newarray .long, 2) := by decide +kernel
theorem d_Mo_init_46 : decode b_Mo_init 46 = .ok (.putfield 22, 3) := by decide +kernel
theorem d_Mo_init_49 : decode b_Mo_init 49 = .ok (.aload_n 0, 1) := by decide +kernel
theorem d_Mo_init_50 : decode b_Mo_init 50 = .ok (.sipush 200, 3) := by decide +kernel
theorem d_Mo_init_53 : decode b_Mo_init 53 = .ok (.newarray .int, 2) := by decide +kernel
theorem d_Mo_init_55 : decode b_Mo_init 55 = .ok (.putfield 26, 3) := by decide +kernel
theorem d_Mo_init_58 : decode b_Mo_init 58 = .ok (.aload_n 0, 1) := by decide +kernel
theorem d_Mo_init_59 : decode b_Mo_init 59 = .ok (.sipush 1000, 3) := by decide +kernel
theorem d_Mo_init_62 : decode b_Mo_init 62 = .ok (.newarray .int, 2) := by decide +kernel
theorem d_Mo_init_64 : decode b_Mo_init 64 = .ok (.putfield 29, 3) := by decide +kernel
theorem d_Mo_init_67 : decode b_Mo_init 67 = .ok (.aload_n 0, 1) := by decide +kernel
theorem d_Mo_init_68 : decode b_Mo_init 68 = .ok (.sipush 1000, 3) := by decide +kernel
theorem d_Mo_init_71 : decode b_Mo_init 71 = .ok (.newarray .int, 2) := by decide +kernel
theorem d_Mo_init_73 : decode b_Mo_init 73 = .ok (.putfield 32, 3) := by decide +kernel
theorem d_Mo_init_76 : decode b_Mo_init 76 = .ok (.aload_n 0, 1) := by decide +kernel
theorem d_Mo_init_77 : decode b_Mo_init 77 = .ok (.sipush 1000, 3) := by decide +kernel
theorem d_Mo_init_80 : decode b_Mo_init 80 = .ok (.newarray .int, 2) := by decide +kernel
theorem d_Mo_init_82 : decode b_Mo_init 82 = .ok (.putfield 35, 3) := by decide +kernel
theorem d_Mo_init_85 : decode b_Mo_init 85 = .ok (.aload_n 0, 1) := by decide +kernel
theorem d_Mo_init_86 : decode b_Mo_init 86 = .ok (.sipush 1000, 3) := by decide +kernel
theorem d_Mo_init_89 : decode b_Mo_init 89 = .ok (.newarray .int, 2) := by decide +kernel
theorem d_Mo_init_91 : decode b_Mo_init 91 = .ok (.putfield 38, 3) := by decide +kernel
theorem d_Mo_init_94 : decode b_Mo_init 94 = .ok (.aload_n 0, 1) := by decide +kernel
theorem d_Mo_init_95 : decode b_Mo_init 95 = .ok (.sipush 1000, 3) := by decide +kernel
theorem d_Mo_init_98 : decode b_Mo_init 98 = .ok (.newarray .long, 2) := by decide +kernel
theorem d_Mo_init_100 : decode b_Mo_init 100 = .ok (.putfield 41, 3) := by decide +kernel
theorem d_Mo_init_103 : decode b_Mo_init 103 = .ok (.aload_n 0, 1) := by decide +kernel
theorem d_Mo_init_104 : decode b_Mo_init 104 = .ok (.sipush 1000, 3) := by decide +kernel
theorem d_Mo_init_107 : decode b_Mo_init 107 = .ok (.newarray .int, 2) := by decide +kernel
theorem d_Mo_init_109 : decode b_Mo_init 109 = .ok (.putfield 44, 3) := by decide +kernel
theorem d_Mo_init_112 : decode b_Mo_init 112 = .ok (.aload_n 0, 1) := by decide +kernel
theorem d_Mo_init_113 : decode b_Mo_init 113 = .ok (.sipush 1000, 3) := by decide +kernel
theorem d_Mo_init_116 : decode b_Mo_init 116 = .ok (.newarray .int, 2) := by decide +kernel
theorem d_Mo_init_118 : decode b_Mo_init 118 = .ok (.putfield 47, 3) := by decide +kernel
theorem d_Mo_init_121 : decode b_Mo_init 121 = .ok (.aload_n 0, 1) := by decide +kernel
theorem d_Mo_init_122 : decode b_Mo_init 122 = .ok (.sipush 1000, 3) := by decide +kernel
theorem d_Mo_init_125 : decode b_Mo_init 125 = .ok (.newarray .int, 2) := by decide +kernel
theorem d_Mo_init_127 : decode b_Mo_init 127 = .ok (.putfield 50, 3) := by decide +kernel
theorem d_Mo_init_130 : decode b_Mo_init 130 = .ok (.aload_n 0, 1) := by decide +kernel
theorem d_Mo_init_131 : decode b_Mo_init 131 = .ok (.sipush 1000, 3) := by decide +kernel
theorem d_Mo_init_134 : decode b_Mo_init 134 = .ok (.newarray .int, 2) := by decide +kernel
theorem d_Mo_init_136 : decode b_Mo_init 136 = .ok (.putfield 53, 3) := by decide +kernel
theorem d_Mo_init_139 : decode b_Mo_init 139 = .ok (.aload_n 0, 1) := by decide +kernel
theorem d_Mo_init_140 : decode b_Mo_init 140 = .ok (.sipush 1000, 3) := by decide +kernel
theorem d_Mo_init_143 : decode b_Mo_init 143 = .ok (.newarray .boolean, 2) := by decide +kernel
theorem d_Mo_init_145 : decode b_Mo_init 145 = .ok (.putfield 56, 3) := by decide +kernel
theorem d_Mo_init_148 : decode b_Mo_init 148 = .ok (.aload_n 0, 1) := by decide +kernel
theorem d_Mo_init_149 : decode b_Mo_init 149 = .ok (.sipush 1000, 3) := by decide +kernel
theorem d_Mo_init_152 : decode b_Mo_init 152 = .ok (.newarray .int, 2) := by decide +kernel
theorem d_Mo_init_154 : decode b_Mo_init 154 = .ok (.putfield 60, 3) := by decide +kernel
theorem d_Mo_init_157 : decode b_Mo_init 157 = .ok (.aload_n 0, 1) := by decide +kernel
theorem d_Mo_init_158 : decode b_Mo_init 158 = .ok (.sipush 1000, 3) := by decide +kernel
theorem d_Mo_init_161 : decode b_Mo_init 161 = .ok (.newarray .int, 2) := by decide +kernel
theorem d_Mo_init_163 : decode b_Mo_init 163 = .ok (.putfield 63, 3) := by decide +kernel
theorem d_Mo_init_166 : decode b_Mo_init 166 = .ok (.aload_n 0, 1) := by decide +kernel
theorem d_Mo_init_167 : decode b_Mo_init 167 = .ok (.sipush 300, 3) := by decide +kernel
theorem d_Mo_init_170 : decode b_Mo_init 170 = .ok (.newarray .int, 2) := by decide +kernel
theorem d_Mo_init_172 : decode b_Mo_init 172 = .ok (.putfield 66, 3) := by decide +kernel
theorem d_Mo_init_175 : decode b_Mo_init 175 = .ok (.aload_n 0, 1) := by decide +kernel
theorem d_Mo_init_176 : decode b_Mo_init 176 = .ok (.sipush 300, 3) := by decide +kernel
theorem d_Mo_init_179 : decode b_Mo_init 179 = .ok (.newarray .int, 2) := by decide +kernel
theorem d_Mo_init_181 : decode b_Mo_init 181 = .ok (.putfield 69, 3) := by decide +kernel
theorem d_Mo_init_184 : decode b_Mo_init 184 = .ok (.aload_n 0, 1) := by decide +kernel
theorem d_Mo_init_185 : decode b_Mo_init 185 = .ok (.sipush 300, 3) := by decide +kernel
theorem d_Mo_init_188 : decode b_Mo_init 188 = .ok (.newarray .int, 2) := by decide +kernel
theorem d_Mo_init_190 : decode b_Mo_init 190 = .ok (.putfield 72, 3) := by decide +kernel
theorem d_Mo_init_193 : decode b_Mo_init 193 = .ok (.aload_n 0, 1) := by decide +kernel
theorem d_Mo_init_194 : decode b_Mo_init 194 = .ok (.sipush 300, 3) := by decide +kernel
theorem d_Mo_init_197 : decode b_Mo_init 197 = .ok (.newarray .long, 2) := by decide +kernel
theorem d_Mo_init_199 : decode b_Mo_init 199 = .ok (.putfield 75, 3) := by decide +kernel
theorem d_Mo_init_202 : decode b_Mo_init 202 = .ok (.aload_n 0, 1) := by decide +kernel
theorem d_Mo_init_203 : decode b_Mo_init 203 = .ok (.sipush 1000, 3) := by decide +kernel
theorem d_Mo_init_206 : decode b_Mo_init 206 = .ok (.newarray .boolean, 2) := by decide +kernel
theorem d_Mo_init_208 : decode b_Mo_init 208 = .ok (.putfield 78, 3) := by decide +kernel
theorem d_Mo_init_211 : decode b_Mo_init 211 = .ok (.aload_n 0, 1) := by decide +kernel
theorem d_Mo_init_212 : decode b_Mo_init 212 = .ok (.sipush 1000, 3) := by decide +kernel
theorem d_Mo_init_215 : decode b_Mo_init 215 = .ok (.newarray .boolean, 2) := by decide +kernel
theorem d_Mo_init_217 : decode b_Mo_init 217 = .ok (.putfield 81, 3) := by decide +kernel
theorem d_Mo_init_220 : decode b_Mo_init 220 = .ok (.aload_n 0, 1) := by decide +kernel
theorem d_Mo_init_221 : decode b_Mo_init 221 = .ok (.sipush 1000, 3) := by decide +kernel
theorem d_Mo_init_224 : decode b_Mo_init 224 = .ok (.newarray .int, 2) := by decide +kernel
theorem d_Mo_init_226 : decode b_Mo_init 226 = .ok (.putfield 84, 3) := by decide +kernel
theorem d_Mo_init_229 : decode b_Mo_init 229 = .ok (.return_, 1) := by decide +kernel
