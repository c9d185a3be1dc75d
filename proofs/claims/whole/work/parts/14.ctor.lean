/-! CONSTRUCTORS: rows that make cells; contracts that end in a world of new cells -/
section GN
variable {p : Program} {l : Launch} {e : Env} {R : Room} {s : State} {m : MethodId} {args : Array Value} {below : List Frame} {meth : Method} {c : Code} {Q : State → Prop}
variable {cc : ByteArray} {nL : Nat} {own : String} {D : va_G} {cl : List vw_C} {tys : List (ClassId × FieldType)} {A : Nat → Prop} {cells slots : Nat} {ws ws' : va_W} {lv lv' : List (Nat × Value)} {pc : Nat} {st : List Value}
theorem gw_newa (C : gw_C p s m args meth c cc nL own D cl tys A) {atype : ArrayType} {ty : FieldType} {cA : ClassId} {n : Int32} {N' : Nat} {a0 : vp_A} (t0 : Nat) (harr : Cond.arrayClass ty ∈ gw_all) (hty : newarray.typeOf atype = ty) (hp : ∀ z : ClassId, va_RA s z ty → s.vm.findClass ("[" ++ ty.toString) = some z) (ht : tys[t0]? = some (cA, ty))
    (ha : ∀ z : ClassId, vp_cell z a0 = arrV z N' (fun _ => defaultValue ty)) (hn : ¬ n < 0) (hN : n.toNatClampNeg = N') (hbytes : N' * componentBytes ty ≤ 536870912) (hcells : cells + 1 ≤ R.cells) (hslots : slots + N' ≤ R.slots) (hdg : decode cc pc = .ok (.newarray atype, 2))
    (kk : ∀ q : Nat, gw_W p l e R s m args below meth c D cl A Q (cells + 1) (slots + N') nL (ws ++ [(q, .inl (cA, a0))]) lv (pc + 2) (.ref q :: st)) : gw_W p l e R s m args below meth c D cl A Q cells slots nL ws lv pc (.int n :: st) := by
  intro H locs ls hP hD hS hl
  subst hty
  refine va_newa C.1 C.2.1 (C.2.2.2.2.1 _ harr) rfl C.2.2.2.2.2.1 hP hD hS C.2.2.2.2.2.2.1 ha hn hN hbytes hcells hslots hdg (fun q cA' H1 hK1 hP1 hD1 hS1 => ?_)
  have h1 := hp cA (C.2.2.2.2.2.1.2 t0 _ ht).2
  have h2 := hp cA' (hK1.2 tys.length (cA', newarray.typeOf atype) (by simp)).2
  have h3 : cA' = cA := Option.some.inj (h2.symm.trans h1)
  subst h3
  exact kk q H1 locs ls hP1 hD1 hS1 hl
theorem gw_new (C : gw_C p s m args meth c cc nL own D cl tys A) {K : String} {T : u_T} {N ci index : Nat} {fs : List Value} (hin : ∀ w ∈ u_ws K T N, w ∈ gw_all) (ty0 : Nat → FieldType) (hty : ∀ k, k < N → parseFieldDescriptor (T k).2.2.1 = some (ty0 k)) (hcl : Cond.classLink own index K ∈ gw_all) (hins : Cond.instantiable K N ∈ gw_all) (hini : Cond.initialized K ∈ gw_all) (hc : cl[ci]? = some (K, T, N))
    (hfs : ∀ j, j < N → defaultValue (ty0 j) = vp_V fs j) (hcells : cells + 1 ≤ R.cells) (hslots : slots + N ≤ R.slots) (hdg : decode cc pc = .ok (.new index, 3))
    (kk : ∀ q : Nat, gw_W p l e R s m args below meth c D cl A Q (cells + 1) (slots + N) nL (ws ++ [(q, .inr (ci, fs))]) lv (pc + 3) (.ref q :: st)) : gw_W p l e R s m args below meth c D cl A Q cells slots nL ws lv pc st := by
  intro H locs ls hP hD hS hl
  exact va_new C.1 C.2.1 C.2.2.2.2.1 hin ty0 hty C.2.2.2.1 (C.2.2.2.2.1 _ hcl) (C.2.2.2.2.1 _ hins) (C.2.2.2.2.1 _ hini) C.2.2.2.2.2.1 hP hD hS C.2.2.2.2.2.2.1 hc hfs hcells hslots hdg (fun q H1 hP1 hD1 hS1 => kk q H1 locs ls hP1 hD1 hS1 hl)
theorem gw_objInit (C : gw_C p s m args meth c cc nL own D cl tys A) {idx a : Nat} (hlink : Cond.methodLink own idx Lib.objectInit ∈ gw_all) (hinst : Cond.instanceMethod Lib.objectInit ∈ gw_all) (hcode : Cond.code Lib.objectInit ⟨#[0xb1]⟩ 1 none ∈ gw_all) (hd : decode cc pc = .ok (.invokespecial idx, 3)) (hframes : 1 ≤ R.frames) (hlocals : (st.map fun v => v.category).sum + 12 ≤ R.locals)
    (kk : gw_W p l e R s m args below meth c D cl A Q cells slots nL ws lv (pc + 3) st) : gw_W p l e R s m args below meth c D cl A Q cells slots nL ws lv pc (.ref a :: st) := by
  intro H locs ls hP hD hS hl
  exact W.objInit C.1 C.2.1 C.2.2.2.1 (C.2.2.2.2.1 _ hlink) (C.2.2.2.2.1 _ hinst) (C.2.2.2.2.1 _ hcode) rfl (hl.1.trans C.2.2.1.symm) rfl hd hframes (by show 2 * 0 + (st.map fun v => v.category).sum + 12 ≤ R.locals; omega) (kk H locs ls hP hD hS hl)
theorem gw_perm (is : List Nat) (hs : is.filterMap (fun i => ws[i]?) = ws') (hm : is.map (fun i => ws[i]?) = ws'.map some) (hn : va_nd is = true) (kk : gw_W p l e R s m args below meth c D cl A Q cells slots nL ws' lv pc st) : gw_W p l e R s m args below meth c D cl A Q cells slots nL ws lv pc st := fun H locs ls hP hD hS hl => kk H locs ls (hP.sub is hs) (hD.sub is hn hm) hS hl
/-- A CONTRACT of a constructor: the world behind it, whose new cells lie somewhere -/
def gw_QcI (D : va_G) (cl : List vw_C) (W' : (Nat → Nat) → va_W) (A : Nat → Prop) : Array Value → State → Outcome → State → Prop := fun _ st oc t => (oc = .returned none ∧ ∃ ad : Nat → Nat, va_P D cl (W' ad) t.heap ∧ va_D A (W' ad)) ∧ va_F A st t
def gw_MI (l : Launch) (y : MethodName) (wy : List Cond) (rm : Room) (D : va_G) (cl : List vw_C) (tys : List (ClassId × FieldType)) (av : List Value) (w : va_W) (W' : (Nat → Nat) → va_W) : Prop :=
  ∀ sz : Nat, Met l y wy rm (gw_Pc D cl tys av w sz) (gw_QcI D cl W' (va_A w sz)) rm.cells rm.slots (va_A w sz)
theorem gw_startI {y : MethodName} {wy : List Cond} {rm : Room} {av : List Value} {w : va_W} {W' : (Nat → Nat) → va_W} {ret : Option FieldType} (hy : plainName y.cls = true) (hw : wy = Cond.code y cc nL ret :: gw_T) (hlen : (lg_sl av).length ≤ nL)
    (body : ∀ (p : Program) (e : Env) (s : State) (m : MethodId) (below : List Frame) (meth : Method) (c : Code) (A : Nat → Prop), gw_C p s m av.toArray meth c cc nL y.cls D cl tys A → meth.sig.returnType = ret → meth.name = y.name → gw_W p l e rm s m av.toArray below meth c D cl A (MQ below (gw_QcI D cl W' A) av.toArray s rm.cells rm.slots A) 0 0 nL w (lv_args 0 av) 0 []) : gw_MI l y wy rm D cl tys av w W' := by
  intro sz
  refine Met.ofW (cc := cc) (maxL := nL) (ret := ret) hy hw ?_
  intro p e s m args below meth c s₁ B hml hv
  obtain ⟨rfl, hsz, hP, hK, hD0, hE⟩ := hv
  subst hsz
  have hD := hD0.self (sz := s.heap.size)
  have hl := lv_entry av (n := nL) hlen
  rw [lg_entry_eq]
  exact body p e s m below meth c (va_A w s.heap.size) ⟨B.exec, B.bytes, hml, findClass_of_methodNamed B.named, gw_all_of (fun w h => atoms_spec (ws := wy) B.pre w (by rw [hw]; exact List.mem_cons_of_mem _ h)) hE, hK, fun q h => Or.inr h, B.notSynchronized⟩ B.returns (name_of_methodNamed B.named B.method).1 s.heap [] _ hP hD va_S.rf hl
theorem gw_vretI (C : gw_C p s m args meth c cc nL own D cl tys A) {W' : (Nat → Nat) → va_W} (ad : Nat → Nat) (hr : meth.sig.returnType = none) (hw : ws = W' ad) (hdg : decode cc pc = .ok (.return_, 1)) : gw_W p l e R s m args below meth c D cl A (MQ below (gw_QcI D cl W' A) args s cells slots A) cells slots nL ws lv pc [] :=
  fun H locs ls hP hD hS hl => W.vret C.1 C.2.1 hr (fun t ht hW => ⟨⟨rfl, ad, by rw [ht]; exact hw ▸ hP, hw ▸ hD⟩, hS.F ht⟩) hS.2.2 hdg (hlocks := C.2.2.2.2.2.2.2)
/-- behind a constructor's call: the rest of the world is as it was -/
theorem gw_afterI (C : gw_C p s m args meth c cc nL own D cl tys A) {wc wr : va_W} {W' : (Nat → Nat) → va_W} {mc ms : Nat} {st0 : List Value} {a : Array Value} (isC isR : List Nat) (hC : isC.map (fun i => ws[i]?) = wc.map some) (hR : isR.map (fun i => ws[i]?) = wr.map some) (hn : va_nd isR = true) (hdis : ∀ i ∈ isR, i ∉ isC)
    (hr : ∀ (H : Heap) (locs : List Loc) (ls : Array Slot), va_P D cl ws H → va_D A ws → va_S A s.heap H locs → lv_has ls nL lv → va_Run p l e R s m args below meth c H locs cells slots mc ms (F0 m pc ls st0) st (gw_QcI D cl W' (va_A wc H.size) a) (va_A wc H.size))
    (kk : ∀ ad : Nat → Nat, gw_W p l e R s m args below meth c D cl A Q (cells + mc) (slots + ms) nL (wr ++ W' ad) lv (pc + 3) st) : gw_W p l e R s m args below meth c D cl A Q cells slots nL ws lv pc st0 := by
  intro H locs ls hP hD hS hl T hT X
  obtain ⟨v, st₀, t, T', L, h0, X', hL, e1, e2, ⟨⟨hv, ad, hP1, hD1⟩, hz, hk⟩, stp⟩ := hr H locs ls hP hD hS hl T hT X
  cases hv
  rw [h0] at hz hk
  have hF := gw_sub (wc := wc) C hD hS isC hC
  obtain ⟨hP2, hD2⟩ := va_join (wr := wr) (w1 := W' ad) hP hD isC isR hC hR hn hdis hk hF hP1 hD1
  obtain ⟨t2, a1, b1⟩ := kk ad T'.heap (locs ++ L) ls (by rw [e1]; exact hP2) hD2 ⟨Nat.le_trans hS.1 (by rw [e1]; exact hz), fun q h1 h2 => by rw [e1, hk q (Nat.lt_of_lt_of_le h1 hS.1) (fun z => h2 (hF q z))]; exact hS.2.1 q h1 h2, fun q hq => by
      rcases List.mem_append.mp hq with h | h
      · exact hS.2.2 q h
      · exact hF _ (hL q h)⟩ hl T' rfl X'
  exact ⟨t2, stp t2 a1, b1⟩
theorem gw_callI (C : gw_C p s m args meth c cc nL own D cl tys A) {y : MethodName} {bytes : ByteArray} {maxL index : Nat} {rm : Room} {wc wr : va_W} {W' : (Nat → Nat) → va_W} {b : Nat} (hM : gw_MI l y (Cond.code y bytes maxL none :: gw_T) rm D cl tys [.ref b] wc W') (hcode : Cond.code y bytes maxL none ∈ gw_T) (hl1 : Cond.methodLink own index y ∈ gw_all) (hl2 : Cond.instanceMethod y ∈ gw_all) (hl4 : Cond.initialized y.cls ∈ gw_all) (hy1 : y.name = "<init>")
    (hd : y.cls ≠ "java/lang/invoke/MethodHandle" ∧ y.cls ≠ "java/lang/invoke/VarHandle" ∧ (parseMethodDescriptor y.desc).map (fun d => d.parameters.length) = some 0) (hRm : rm.frames + 1 ≤ R.frames ∧ 8 + (maxL + 11) + rm.locals ≤ R.locals) (hf : cells + rm.cells ≤ R.cells ∧ slots + rm.slots ≤ R.slots)
    (isC isR : List Nat) (hC : isC.map (fun i => ws[i]?) = wc.map some) (hCf : isC.filterMap (fun i => ws[i]?) = wc) (hnC : va_nd isC = true) (hR : isR.map (fun i => ws[i]?) = wr.map some) (hn : va_nd isR = true) (hdis : ∀ i ∈ isR, i ∉ isC) (hW : (st.map fun v => v.category).sum ≤ 8) (hdg : decode cc pc = .ok (.invokespecial index, 3))
    (kk : ∀ ad : Nat → Nat, gw_W p l e R s m args below meth c D cl A Q (cells + rm.cells) (slots + rm.slots) nL (wr ++ W' ad) lv (pc + 3) st) : gw_W p l e R s m args below meth c D cl A Q cells slots nL ws lv pc (.ref b :: st) := by
  refine gw_afterI (a := [Value.ref b].toArray) C isC isR hC hR hn hdis (fun H locs ls hP hD hS hl => ?_) kk
  exact va_runI (As := []) (rest := st) ⟨C.1, C.2.1, C.2.2.1, C.2.2.2.1, C.2.2.2.2.1⟩ (hM H.size) ⟨callB_of 0 C.2.2.2.2.1 (gw_good hcode) rfl rfl rfl (C.2.2.2.2.1 _ hl4) (C.2.2.2.2.1 _ hl1) hd hRm, hy1, C.2.2.2.2.1 _ hl2⟩ ⟨gw_blind, fun U hU hW9 => ⟨rfl, by rw [hU], by rw [hU]; exact hP.sub isC hCf, va_K.moved hW9.alike C.2.2.2.2.2.1, (hD.sub isC hnC hC).weaken (fun _ _ _ _ => trivial), gw_E_warm hW9 (gw_E_of C.2.2.2.2.1)⟩⟩ rfl rfl hl.1 rfl (lv_room hW) hdg hf
theorem gw_callIN (C : gw_C p s m args meth c cc nL own D cl tys A) {y : MethodName} {host : String} {bytes : ByteArray} {maxL index : Nat} {rm : Room} {wc wr : va_W} {W' : (Nat → Nat) → va_W} {b : Nat} (hM : gw_MI l y (Cond.code y bytes maxL none :: gw_T) rm D cl tys [.ref b] wc W') (hcode : Cond.code y bytes maxL none ∈ gw_T) (hl1 : Cond.methodLinkNest own index y host ∈ gw_all) (hl2 : Cond.instanceMethod y ∈ gw_all) (hl4 : Cond.initialized y.cls ∈ gw_all) (hy1 : y.name = "<init>")
    (hd : y.cls ≠ "java/lang/invoke/MethodHandle" ∧ y.cls ≠ "java/lang/invoke/VarHandle" ∧ (parseMethodDescriptor y.desc).map (fun d => d.parameters.length) = some 0) (hRm : rm.frames + 1 ≤ R.frames ∧ 8 + (maxL + 11) + rm.locals ≤ R.locals) (hf : cells + rm.cells ≤ R.cells ∧ slots + rm.slots ≤ R.slots)
    (isC isR : List Nat) (hC : isC.map (fun i => ws[i]?) = wc.map some) (hCf : isC.filterMap (fun i => ws[i]?) = wc) (hnC : va_nd isC = true) (hR : isR.map (fun i => ws[i]?) = wr.map some) (hn : va_nd isR = true) (hdis : ∀ i ∈ isR, i ∉ isC) (hW : (st.map fun v => v.category).sum ≤ 8) (hdg : decode cc pc = .ok (.invokespecial index, 3))
    (kk : ∀ ad : Nat → Nat, gw_W p l e R s m args below meth c D cl A Q (cells + rm.cells) (slots + rm.slots) nL (wr ++ W' ad) lv (pc + 3) st) : gw_W p l e R s m args below meth c D cl A Q cells slots nL ws lv pc (.ref b :: st) := by
  refine gw_afterI (a := [Value.ref b].toArray) C isC isR hC hR hn hdis (fun H locs ls hP hD hS hl => ?_) kk
  exact va_runIN (As := []) (rest := st) ⟨C.1, C.2.1, C.2.2.1, C.2.2.2.1, C.2.2.2.2.1⟩ (hM H.size) ⟨va_cnB 0 C.2.2.2.2.1 (gw_good hcode) rfl rfl rfl (va_Nw.of rfl (C.2.2.2.2.1 _ hl1)) (C.2.2.2.2.1 _ hl4) hd hRm, hy1, C.2.2.2.2.1 _ hl2⟩ ⟨gw_blind, fun U hU hW9 => ⟨rfl, by rw [hU], by rw [hU]; exact hP.sub isC hCf, va_K.moved hW9.alike C.2.2.2.2.2.1, (hD.sub isC hnC hC).weaken (fun _ _ _ _ => trivial), gw_E_warm hW9 (gw_E_of C.2.2.2.2.1)⟩⟩ rfl rfl hl.1 rfl (lv_room hW) hdg hf
end GN
