/-! THROWS: contracts of methods that may throw; a throw of one's own; a call that throws, passed on -/
def gw_ISE : String := "java/lang/IllegalStateException"
def gw_IAE : String := "java/lang/IllegalArgumentException"
def gw_IOB : String := "java/lang/IndexOutOfBoundsException"
/-- the class that is thrown, by its number -/
def gw_X : Nat → String
  | 1 => gw_IOB
  | 2 => gw_ISE
  | _ => gw_IAE
abbrev gw_up : List String := ["java/lang/RuntimeException", "java/lang/Exception"]
def gw_ls1 : Cond := .laysStatic "java/lang/Throwable" "UNASSIGNED_STACK" "[Ljava/lang/StackTraceElement;"
def gw_ls2 : Cond := .laysStatic "java/lang/Throwable" "SUPPRESSED_SENTINEL" "Ljava/util/List;"
def gw_rs1 : Cond := .isRef (.static "java/lang/Throwable" "UNASSIGNED_STACK" "[Ljava/lang/StackTraceElement;")
def gw_rs2 : Cond := .isRef (.static "java/lang/Throwable" "SUPPRESSED_SENTINEL" "Ljava/util/List;")
def gw_keepS (H H' : Heap) : Prop := ∀ (a : Nat) (cell : Cell), H[a]? = some cell → cell.vm.isStatics = true → H'[a]? = some cell
theorem gw_ls_move {C n d : String} {args args' : Array Value} {s U : State} (hvm : s.vm.Alike U.vm) (hk : gw_keepS s.heap U.heap) (h : (Cond.laysStatic C n d).before args s = true) : (Cond.laysStatic C n d).before args' U = true := by
  obtain ⟨c, k, i, f, a, cell, hc, hi, hst, ha, hcell, hs, hcls, hlt, hty⟩ := Cond.laysStatic_spec h
  obtain ⟨k', hi', hek⟩ := State.fieldFound?_setVm hvm hi
  exact Cond.laysStatic_of (s := U) (by rw [hvm.findClass]; exact hc) hi' hst (by rw [hek]; exact ha) (hk a cell hcell hs) hs hcls hlt (by rw [hek]; exact hty)
theorem gw_rs_move {C n d : String} {args args' : Array Value} {s U : State} (hvm : s.vm.Alike U.vm) (hk : gw_keepS s.heap U.heap) (hl : (Cond.laysStatic C n d).before args s = true) (h : (Cond.isRef (.static C n d)).before args s = true) : (Cond.isRef (.static C n d)).before args' U = true := by
  cases hv : (Term.static C n d).eval args s none [] s with
  | none => simp [Cond.before, Cond.holds, Cond.value, hv] at h
  | some v =>
    obtain ⟨c, k, i, f, a, cell, hc, hi, hst, ha, hcell, hs, hcls, hlt, hty⟩ := Cond.laysStatic_spec hl
    obtain ⟨hst', a', cell', ha', hcell', -, hslot⟩ := Term.static_spec hi hv
    cases ha.symm.trans ha'
    cases hcell.symm.trans hcell'
    obtain ⟨k', hi', hek⟩ := State.fieldFound?_setVm hvm hi
    have hv' : (Term.static C n d).eval args' U none [] U = some v := Term.static_eval (s := U) hi' hst (by rw [hek]; exact ha) (hk a cell hcell hs) hs hslot
    simp only [Cond.before, Cond.holds, Cond.value, hv] at h
    simp only [Cond.before, Cond.holds, Cond.value, hv']
    exact h
/-- the strings that are thrown: entry and text -/
def gw_isStr : Cond → Bool
  | .stringRef .. => true
  | _ => false
/-- what a throw needs of a state, beside the good words -/
def gw_F (U : State) : Prop := (∀ w ∈ lw_tbl, (w.onTables && w.keepsFace) = true → va_Nw w U) ∧ gw_ls1.before #[] U = true ∧ gw_ls2.before #[] U = true ∧ gw_rs1.before #[] U = true ∧ gw_rs2.before #[] U = true ∧ ∀ (own tx : String) (k : Nat), Cond.stringRef own k tx ∈ lw_tbl → ∃ a : Nat, vk_R own k tx a U
theorem gw_F_move {s U : State} (hW : s.WarmedH U.vm) (hk : gw_keepS s.heap U.heap) (h : gw_F s) : gw_F U := by
  obtain ⟨h1, h2, h3, h4, h5, h6⟩ := h
  refine ⟨fun w hw ho => ?_, gw_ls_move hW.alike hk h2, gw_ls_move hW.alike hk h3, gw_rs_move hW.alike hk h2 h4, gw_rs_move hW.alike hk h3 h5, fun own tx k hw => ?_⟩
  · have ho' := ho
    rw [Bool.and_eq_true] at ho'
    exact va_tabs ho'.1 (rfl : (s.setVm U.vm).vm = U.vm) (Cond.before_shiftedFace (State.Shifted.of_warmed hW) w ho'.2 (h1 w hw ho))
  · obtain ⟨a, ha⟩ := h6 own tx k hw
    exact ⟨a, ha.warm hW⟩
/-- how the words of a throw are had -/
def gw_tk (w : Cond) : Bool := (decide (w ∈ lw_tbl) && (w.onTables && w.keepsFace)) || (decide (w = gw_ls1) || (decide (w = gw_ls2) || (decide (w = gw_rs1) || decide (w = gw_rs2))))
theorem gw_F_words {args : Array Value} {U : State} (h : gw_F U) {ws : List Cond} (ha : ws.all gw_tk = true) : ∀ w ∈ ws, w.before args U = true := by
  intro w hw
  have hk := List.all_eq_true.mp ha w hw
  obtain ⟨h1, h2, h3, h4, h5, h6⟩ := h
  have hvm : U.vm.Alike U.vm := Vm.Alike.refl U.vm
  have hkk : gw_keepS U.heap U.heap := fun a cell q _ => q
  simp only [gw_tk, Bool.or_eq_true, Bool.and_eq_true, decide_eq_true_eq] at hk
  rcases hk with ⟨hm, ho⟩ | rfl | rfl | rfl | rfl
  · exact va_Nw.use ho.1 (h1 w hm (by rw [Bool.and_eq_true]; exact ho))
  · exact gw_ls_move hvm hkk h2
  · exact gw_ls_move hvm hkk h3
  · exact gw_rs_move hvm hkk h2 h4
  · exact gw_rs_move hvm hkk h3 h5
set_option maxRecDepth 100000 in
theorem gw_own_ISE : (Bundle.ownAtoms "GraphWalker" 66 gw_ISE gw_up).all gw_tk = true := by decide +kernel
set_option maxRecDepth 100000 in
theorem gw_own_IAE : (Bundle.ownAtoms "GraphWalker" 33 gw_IAE gw_up).all gw_tk = true := by decide +kernel
set_option maxRecDepth 100000 in
theorem gw_own_IOB : (Bundle.ownAtoms "GraphWalker" 144 gw_IOB gw_up).all gw_tk = true := by decide +kernel
/-- what is new and written since a start, however it ended -/
def gw_FE (first t : State) (L : List Loc) (k n : Nat) : Prop := first.WarmedH t.vm ∧ first.sameButNew ({ t with vm := first.vm } : State) L k n
/-- k = 0: it returned o; else it threw an object of the class k -/
def gw_Oc (k : Nat) (o : Option Value) (st : State) (oc : Outcome) (t : State) : Prop := (k = 0 ∧ oc = .returned o) ∨ (k ≠ 0 ∧ ∃ (x : Nat) (cell : Cell), oc = .threw x ∧ t.heap[x]? = some cell ∧ cell.vm = .none ∧ st.vm.findClass (gw_X k) = some cell.cls)
def gw_QcT (D : va_G) (cl : List vw_C) (w' : va_W) (k : Nat) (o : Option Value) (A : Nat → Prop) : Array Value → State → Outcome → State → Prop := fun _ st oc t => (gw_Oc k o st oc t ∧ va_P D cl w' t.heap ∧ va_D A w') ∧ va_F A st t
def gw_PcT (D : va_G) (cl : List vw_C) (tys : List (ClassId × FieldType)) (av : List Value) (w : va_W) (sz : Nat) : Array Value → State → Prop := fun v U => gw_Pc D cl tys av w sz v U ∧ gw_F U
def gw_QT (Qc : Array Value → State → Outcome → State → Prop) (mc ms : Nat) (free : Addr → Prop) : Array Value → State → Outcome → State → Prop := fun a st oc t => Qc a st oc t ∧ ∃ L, gw_FE st t L mc ms ∧ ∀ q ∈ L, free q.base
/-- a throw makes one cell of six slots, a return none -/
def gw_kc (k : Nat) : Nat := if k = 0 then 0 else 1
def gw_ks (k : Nat) : Nat := if k = 0 then 0 else 6
/-- A CONTRACT of a method that may throw -/
def gw_MT (l : Launch) (y : MethodName) (wy : List Cond) (rm : Room) (D : va_G) (cl : List vw_C) (tys : List (ClassId × FieldType)) (av : List Value) (w w' : va_W) (k : Nat) (o : Option Value) : Prop :=
  ∀ sz : Nat, MetFree l y (headSpec wy rm) (gw_PcT D cl tys av w sz) (fun _ _ _ _ _ => True) (gw_QT (gw_QcT D cl w' k o (va_A w sz)) (gw_kc k) (gw_ks k) (va_A w sz))
def MQT (below : List Frame) (Qc : Array Value → State → Outcome → State → Prop) (a : Array Value) (s : State) (mc ms : Nat) (free : Addr → Prop) : State → Prop := fun t =>
  ∃ o, t.status = .running ∧ Ended t below o ∧ gw_QT Qc mc ms free a s o t
theorem gw_blindT {D : va_G} {cl : List vw_C} {tys : List (ClassId × FieldType)} {av : List Value} {w : va_W} {sz : Nat} : FrameBlind (gw_PcT D cl tys av w sz) := fun a U g mk q => by
  refine ⟨gw_blind a U g mk q.1, ?_⟩
  obtain ⟨h1, h2, h3, h4, h5, h6⟩ := q.2
  have hvm : U.vm.Alike (U.calling g mk a).vm := Vm.Alike.refl U.vm
  have hkk : gw_keepS U.heap (U.calling g mk a).heap := fun b cell q _ => q
  exact ⟨fun w hw ho => va_tabs (by rw [Bool.and_eq_true] at ho; exact ho.1) (rfl : U.vm = (U.calling g mk a).vm) (h1 w hw ho), gw_ls_move hvm hkk h2, gw_ls_move hvm hkk h3, gw_rs_move hvm hkk h2 h4, gw_rs_move hvm hkk h3 h5, fun own tx k hw => by
    obtain ⟨b, hb⟩ := h6 own tx k hw
    exact ⟨b, hb.same rfl⟩⟩
/-- world's cells are no statics -/
theorem gw_noSt {D : va_G} {cl : List vw_C} {w : va_W} {H : Heap} (hP : va_P D cl w H) {sz : Nat} (hsz : sz = H.size) : ∀ (a : Nat) (cell : Cell), H[a]? = some cell → cell.vm.isStatics = true → ¬ va_A w sz a := by
  intro a cell hc hs h
  rcases h with ⟨k, e, h⟩ | h
  · have h1 := hP k (a, e) h
    cases e with
    | inl x =>
      have h2 : H[a]? = some (vp_cell x.1 x.2) := h1
      rw [hc] at h2
      cases h2
      obtain ⟨cA, n, pay⟩ := x
      rcases pay with f | f | f | f | f <;> simp [vp_cell, arrV, VmData.isStatics] at hs
    | inr x =>
      obtain ⟨r, -, cell2, h2, -, h3, -⟩ := h1
      rw [hc] at h2
      cases h2
      rw [h3] at hs
      cases hs
  · have := (Array.getElem?_eq_some_iff.mp hc).1
    omega
theorem gw_keep_of {A : Nat → Prop} {H0 H : Heap} {locs : List Loc} (hS : va_S A H0 H locs) (hn : ∀ (a : Nat) (cell : Cell), H0[a]? = some cell → cell.vm.isStatics = true → ¬ A a) : gw_keepS H0 H := fun a cell hc hs => by
  rw [hS.2.1 a (Array.getElem?_eq_some_iff.mp hc).1 (hn a cell hc hs)]
  exact hc
/-- the fixed facts of a walk in a method that may throw -/
def gw_CT (l : Launch) (p : Program) (s : State) (m : MethodId) (args : Array Value) (meth : Method) (c : Code) (cc : ByteArray) (nL : Nat) (own : String) (D : va_G) (cl : List vw_C) (tys : List (ClassId × FieldType)) (A : Nat → Prop) : Prop :=
  gw_C p s m args meth c cc nL own D cl tys A ∧ gw_F s ∧ (∀ (a : Nat) (cell : Cell), s.heap[a]? = some cell → cell.vm.isStatics = true → ¬ A a) ∧ l.flags = pinnedFlags ++ [noTraceFlag]
section GT
variable {p : Program} {l : Launch} {e : Env} {R : Room} {s : State} {m : MethodId} {args : Array Value} {below : List Frame} {meth : Method} {c : Code} {Q : State → Prop}
variable {cc : ByteArray} {nL : Nat} {own : String} {D : va_G} {cl : List vw_C} {tys : List (ClassId × FieldType)} {A : Nat → Prop} {cells slots : Nat} {ws ws' : va_W} {lv lv' : List (Nat × Value)} {pc : Nat} {st : List Value}
theorem gw_mono {Q' : State → Prop} (h : ∀ t, Q t → Q' t) (k : gw_W p l e R s m args below meth c D cl A Q cells slots nL ws lv pc st) : gw_W p l e R s m args below meth c D cl A Q' cells slots nL ws lv pc st := fun H locs ls hP hD hS hl T hT X => by
  obtain ⟨t, a, b⟩ := k H locs ls hP hD hS hl T hT X
  exact ⟨t, a, h t b⟩
theorem MQT_of {Qc : Array Value → State → Outcome → State → Prop} {a : Array Value} {mc ms : Nat} {free : Addr → Prop} : ∀ t, MQ below Qc a s mc ms free t → MQT below Qc a s mc ms free t := fun t h => by
  obtain ⟨o, h1, h2, h3, L, h4, h5⟩ := h
  exact ⟨o, h1, h2, h3, L, ⟨h4.2.1, h4.2.2⟩, h5⟩
/-- how such a contract is begun -/
theorem gw_startT {y : MethodName} {wy : List Cond} {rm : Room} {av : List Value} {w w' : va_W} {k : Nat} {o : Option Value} {ret : Option FieldType} (hfl : l.flags = pinnedFlags ++ [noTraceFlag]) (hy : plainName y.cls = true) (hw : wy = Cond.code y cc nL ret :: gw_T) (hlen : (lg_sl av).length ≤ nL)
    (body : ∀ (p : Program) (e : Env) (s : State) (m : MethodId) (below : List Frame) (meth : Method) (c : Code) (A : Nat → Prop), gw_CT l p s m av.toArray meth c cc nL y.cls D cl tys A → meth.sig.returnType = ret → c.exceptionTable.isEmpty = true → gw_W p l e rm s m av.toArray below meth c D cl A (MQT below (gw_QcT D cl w' k o A) av.toArray s (gw_kc k) (gw_ks k) A) 0 0 nL w (lv_args 0 av) 0 []) : gw_MT l y wy rm D cl tys av w w' k o := by
  intro sz
  refine MetFree.of_bodyS (code := cc) (maxLocals := nL) (ret := ret) hy ?_ ?_
  · intro args s m h hn
    obtain ⟨meth, c, h1, h2, h3, h4, h5, h6, -, -⟩ := Cond.code_spec hn (atoms_spec (ws := wy) h _ (by rw [hw]; exact List.mem_cons_self))
    exact ⟨meth, c, h1, h2, h3, h4, h5, h6⟩
  · intro p e s m args below meth c s₁ B hml hv _
    obtain ⟨⟨rfl, hsz, hP, hK, hD0, hE⟩, hF⟩ := hv
    subst hsz
    have hh0 : s₁.heap = s.heap := by rw [B.state]; rfl
    have hD := hD0.self (sz := s.heap.size)
    have hl := lv_entry av (n := nL) hlen
    have hem : c.exceptionTable.isEmpty = true := B.noHandlers (atoms_spec (ws := wy) B.pre _ (by rw [hw]; exact List.mem_cons_self))
    have C0 : gw_C p s m av.toArray meth c cc nL y.cls D cl tys (va_A w s.heap.size) := ⟨B.exec, B.bytes, hml, findClass_of_methodNamed B.named, gw_all_of (fun w h => atoms_spec (ws := wy) B.pre w (by rw [hw]; exact List.mem_cons_of_mem _ h)) hE, hK, fun q h => Or.inr h, B.notSynchronized⟩
    have K := body p e s m below meth c (va_A w s.heap.size) ⟨C0, hF, gw_noSt hP rfl, hfl⟩ B.returns hem s.heap [] _ hP hD va_S.rf hl
    rw [← lg_entry_eq] at K
    obtain ⟨t, a1, o1, b1, b2, b3⟩ := K s₁ hh0 (Stand.of_body B)
    exact ⟨t, o1, a1, b1, b2, b3⟩
theorem gw_iretT (C : gw_CT l p s m args meth c cc nL own D cl tys A) {w' : va_W} {v : Int32} (hr : meth.sig.returnType = some .int) (hw : ws = w') (hdg : decode cc pc = .ok (.ireturn, 1)) : gw_W p l e R s m args below meth c D cl A (MQT below (gw_QcT D cl w' 0 (some (.int v)) A) args s cells slots A) cells slots nL ws lv pc [.int v] :=
  gw_mono MQT_of (fun H locs ls hP hD hS hl => W.iret C.1.1 C.1.2.1 hr (fun t ht hW => ⟨⟨Or.inl ⟨rfl, rfl⟩, by rw [ht]; exact hw ▸ hP, hw ▸ hD⟩, hS.F ht⟩) hS.2.2 hdg (hlocks := C.1.2.2.2.2.2.2.2))
theorem gw_vretT (C : gw_CT l p s m args meth c cc nL own D cl tys A) {w' : va_W} (hr : meth.sig.returnType = none) (hw : ws = w') (hdg : decode cc pc = .ok (.return_, 1)) : gw_W p l e R s m args below meth c D cl A (MQT below (gw_QcT D cl w' 0 none A) args s cells slots A) cells slots nL ws lv pc [] :=
  gw_mono MQT_of (fun H locs ls hP hD hS hl => W.vret C.1.1 C.1.2.1 hr (fun t ht hW => ⟨⟨Or.inl ⟨rfl, rfl⟩, by rw [ht]; exact hw ▸ hP, hw ▸ hD⟩, hS.F ht⟩) hS.2.2 hdg (hlocks := C.1.2.2.2.2.2.2.2))
end GT
