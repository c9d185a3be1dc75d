/-! HELPERS: contracts of the law's own static methods; a call that is caught -/
def gw_PcH (D : va_G) (cl : List vw_C) (tys : List (ClassId × FieldType)) (av : List Value) (w : va_W) (sz : Nat) : Array Value → State → Prop := fun v U => gw_PcT D cl tys av w sz v U ∧ gw_Nc U
theorem gw_blindH {D : va_G} {cl : List vw_C} {tys : List (ClassId × FieldType)} {av : List Value} {w : va_W} {sz : Nat} : FrameBlind (gw_PcH D cl tys av w sz) := fun a U g mk q => ⟨gw_blindT a U g mk q.1, gw_Nc_move (U := U.calling g mk a) (Vm.Alike.refl U.vm) q.2⟩
/-- A CONTRACT of such a method: it returns; k tells what it caught on its way -/
def gw_MH (l : Launch) (y : MethodName) (wy : List Cond) (rm : Room) (D : va_G) (cl : List vw_C) (tys : List (ClassId × FieldType)) (av : List Value) (w w' : va_W) (k : Nat) (o : Option Value) : Prop :=
  ∀ sz : Nat, MetFree l y (headSpec wy rm) (gw_PcH D cl tys av w sz) (fun _ _ _ _ _ => True) (gw_QT (gw_QcT D cl w' 0 o (va_A w sz)) (gw_kc k) (gw_ks k) (va_A w sz))
theorem gw_kc1 {k : Nat} (h : k ≠ 0) : gw_kc k = 1 := if_neg h
theorem gw_ks1 {k : Nat} (h : k ≠ 0) : gw_ks k = 6 := if_neg h
section GH2
variable {p : Program} {l : Launch} {e : Env} {R : Room} {s : State} {m : MethodId} {args : Array Value} {below : List Frame} {meth : Method} {c : Code} {Q : State → Prop}
variable {cc : ByteArray} {nL : Nat} {own : String} {D : va_G} {cl : List vw_C} {tys : List (ClassId × FieldType)} {A : Nat → Prop} {cells slots : Nat} {ws ws' : va_W} {lv lv' : List (Nat × Value)} {pc : Nat} {st : List Value}
theorem gw_startH {y : MethodName} {wy : List Cond} {rm : Room} {av : List Value} {w w' : va_W} {k : Nat} {o : Option Value} {ret : Option FieldType} {hh : List (Nat × Nat × Nat × Nat)} (hfl : l.flags = pinnedFlags ++ [noTraceFlag]) (hy : plainName y.cls = true) (hw : wy = Cond.codeWith y cc nL ret hh :: gw_T) (hlen : (lg_sl av).length ≤ nL)
    (body : ∀ (p : Program) (e : Env) (s : State) (m : MethodId) (below : List Frame) (meth : Method) (c : Code) (A : Nat → Prop), gw_CT l p s m av.toArray meth c cc nL y.cls D cl tys A → gw_Nc s → meth.sig.returnType = ret → c.exceptionTable.toList.map (fun h => (h.startPc, h.endPc, h.handlerPc, h.catchType)) = hh → gw_W p l e rm s m av.toArray below meth c D cl A (MQT below (gw_QcT D cl w' 0 o A) av.toArray s (gw_kc k) (gw_ks k) A) 0 0 nL w (lv_args 0 av) 0 []) : gw_MH l y wy rm D cl tys av w w' k o := by
  intro sz
  refine MetFree.of_bodyS (code := cc) (maxLocals := nL) (ret := ret) hy ?_ ?_
  · intro args s m h hn
    obtain ⟨m9, meth, c, hn9, h1, h2, h3, h4, -, h5, h6, -⟩ := Cond.codeWith_spec (atoms_spec (ws := wy) h _ (by rw [hw]; exact List.mem_cons_self))
    cases hn.symm.trans hn9
    exact ⟨meth, c, h1, h2, h3, h4, h5, h6⟩
  · intro p e s m args below meth c s₁ B hml hv _
    obtain ⟨⟨⟨rfl, hsz, hP, hK, hD0, hE⟩, hF⟩, hN⟩ := hv
    subst hsz
    have hh0 : s₁.heap = s.heap := by rw [B.state]; rfl
    have hD := hD0.self (sz := s.heap.size)
    have hl := lv_entry av (n := nL) hlen
    obtain ⟨m9, meth9, c9, hn9, h1, h2, -, -, htab, -, -, -⟩ := Cond.codeWith_spec (atoms_spec (ws := wy) B.pre _ (by rw [hw]; exact List.mem_cons_self))
    cases B.named.symm.trans hn9
    cases B.method.symm.trans h1
    cases (Stand.of_body B).code.symm.trans h2
    have C0 : gw_C p s m av.toArray meth c cc nL y.cls D cl tys (va_A w s.heap.size) := ⟨B.exec, B.bytes, hml, findClass_of_methodNamed B.named, gw_all_of (fun w h => atoms_spec (ws := wy) B.pre w (by rw [hw]; exact List.mem_cons_of_mem _ h)) hE, hK, fun q h => Or.inr h, B.notSynchronized⟩
    have K := body p e s m below meth c (va_A w s.heap.size) ⟨C0, hF, gw_noSt hP rfl, hfl⟩ hN B.returns htab s.heap [] _ hP hD va_S.rf hl
    rw [← lg_entry_eq] at K
    obtain ⟨t, a1, o1, b1, b2, b3⟩ := K s₁ hh0 (Stand.of_body B)
    exact ⟨t, o1, a1, b1, b2, b3⟩
/-- a call that may throw, what it throws being caught here; the callee has the part wc of the world -/
theorem gw_callVC (C : gw_CT l p s m args meth c cc nL own D cl tys A) {y : MethodName} {bytes : ByteArray} {maxL n index : Nat} {ret : Option FieldType} {rm : Room} {As : List Value} {wc wr w' : va_W} {k : Nat} {o : Option Value} {b ci q0 : Nat} {fs : List Value} {T : u_T} {N : Nat} {hs : List ((Nat × Nat × Nat × Nat) × String)}
    (hM : gw_MT l y (Cond.code y bytes maxL ret :: gw_T) rm D cl tys (.ref b :: As) wc w' k o) (hcode : Cond.code y bytes maxL ret ∈ gw_T) (hl1 : Cond.methodLink own index y ∈ gw_all) (hl2 : Cond.instanceMethod y ∈ gw_all) (hl3 : Cond.selects y.cls y y ∈ gw_all) (hl4 : Cond.initialized y.cls ∈ gw_T)
    (hd : y.cls ≠ "java/lang/invoke/MethodHandle" ∧ y.cls ≠ "java/lang/invoke/VarHandle" ∧ (parseMethodDescriptor y.desc).map (fun d => d.parameters.length) = some n) (hR : rm.frames + 1 ≤ R.frames ∧ 8 + (maxL + 11) + rm.locals ≤ R.locals) (hf : 0 + rm.cells ≤ R.cells ∧ 0 + rm.slots ≤ R.slots)
    (isC isR : List Nat) (hC : isC.map (fun i => ws[i]?) = wc.map some) (hCf : isC.filterMap (fun i => ws[i]?) = wc) (hndC : va_nd isC = true) (hRr : isR.map (fun i => ws[i]?) = wr.map some) (hnd : va_nd isR = true) (hdis : ∀ i ∈ isR, i ∉ isC)
    (hc : cl[ci]? = some (y.cls, T, N)) (he : wc[q0]? = some (b, .inr (ci, fs))) (hn : As.length = n) (hW : (st.map fun v => v.category).sum ≤ 8) (hdg : decode cc pc = .ok (.invokevirtual index, 3))
    (htab : c.exceptionTable.toList.map (fun h => (h.startPc, h.endPc, h.handlerPc, h.catchType)) = hs.map (·.1))
    (kk : k = 0 → gw_W p l e R s m args below meth c D cl A Q 0 0 nL (wr ++ w') lv (pc + 3) (o.toList ++ st))
    (kt : k ≠ 0 → (∀ q ∈ hs, covers (gw_en q.1) pc = true ∧ q.1.2.2.2 ≠ 0 ∧ Cond.classLink own q.1.2.2.2 q.2 ∈ gw_all ∧ (q.2 ≠ gw_X k → va_Nc (gw_X k) q.2 s)) ∧ ∃ pcH, gw_hd (gw_X k) hs = some pcH ∧ ∀ x : Nat, gw_W p l e R s m args below meth c D cl A Q 1 6 nL (wr ++ w') lv pcH [.ref x]) :
    gw_W p l e R s m args below meth c D cl A Q 0 0 nL ws lv pc (As.reverse ++ .ref b :: st) := by
  intro H locs ls hP hD hS hl T0 hT X
  obtain ⟨⟨hx, hb, hml, hown, hts, hK, hA, hlocks⟩, hF, hns, hfl⟩ := C
  have hPc := hP.sub isC hCf
  have hDc := hD.sub isC hndC hC
  obtain ⟨cellB, hcB, hoB, hclB⟩ := va_recv hK hPc hc he
  have hFc := va_free (wc := wc) hD hS hA isC hC
  obtain ⟨oc, st₀, t, T', L, h0, hW0, X', hL, e1, e2, ⟨⟨hOc, hP1, hD1⟩, hz, hk⟩, hret, hthr⟩ := gw_callT0 X hx hown (hts _ hl1) (hts _ hl2) (hts _ hl3) (hts _ (gw_T_all hcode)) ⟨hd.1, hd.2.1⟩ (fun a' U hU => gw_pay hts hl4 _ List.mem_cons_self a' U hU) (hM H.size) gw_blindT (gw_pay hts hcode) hR.1 hR.2 hf.1 hf.2
    (by rw [hT]; exact hcB) hoB hclB (g := F0 m pc ls (As.reverse ++ .ref b :: st)) rfl (hl.1.trans hml.symm) (As := As) (rest := st) (fun sig h => by have h9 := hd.2.2; rw [h] at h9; exact hn.trans (Option.some.inj h9).symm) rfl (lv_room hW) (by rw [hb]; exact hdg)
    (fun vm₁ hW1 => ⟨⟨rfl, by show T0.heap.size = H.size; rw [hT], by show va_P D cl wc T0.heap; rw [hT]; exact hPc, va_K.moved hW1.alike hK, hDc.weaken (fun _ _ _ _ => trivial), gw_E_warm (U := T0.setVm vm₁) hW1 (gw_E_of hts)⟩, gw_F_move (U := T0.setVm vm₁) hW1 (show gw_keepS s.heap T0.heap by rw [hT]; exact gw_keep_of hS hns) hF⟩)
  rw [h0, hT] at hz hk
  obtain ⟨hP2, hD2⟩ := va_join (wr := wr) (w1 := w') hP hD isC isR hC hRr hnd hdis hk hFc hP1 hD1
  have hS1 : va_S A s.heap T'.heap (locs ++ L) := ⟨Nat.le_trans hS.1 (by rw [e1]; exact hz), fun q h1 h2 => by rw [e1, hk q (Nat.lt_of_lt_of_le h1 hS.1) (fun z => h2 (hFc q z))]; exact hS.2.1 q h1 h2, fun q hq => by
      rcases List.mem_append.mp hq with h | h
      · exact hS.2.2 q h
      · exact hFc _ (hL q h)⟩
  rcases hOc with ⟨hk0, hoc⟩ | ⟨hk0, x, cell, hoc, hcx, hcv, hcc⟩
  · subst hk0
    obtain ⟨t2, a1, b1⟩ := kk rfl T'.heap (locs ++ L) ls (by rw [e1]; exact hP2) hD2 hS1 hl T' rfl X'
    exact ⟨t2, hret _ hoc t2 a1, b1⟩
  · obtain ⟨hall, pcH, hhd, kt'⟩ := kt hk0
    obtain ⟨vm2, X2, hst⟩ := gw_caught X' (g := F0 m pc ls st) rfl (by rw [e1]; exact hcx) hcv (E := gw_X k) (by rw [← hW0.alike.findClass]; exact hcc) hown hts htab hall hhd
    rw [gw_kc1 hk0, gw_ks1 hk0] at X2
    obtain ⟨t2, a1, b1⟩ := kt' x T'.heap (locs ++ L) ls (by rw [e1]; exact hP2) hD2 hS1 hl (T'.setVm vm2) rfl X2
    exact ⟨t2, hthr x hoc t2 (hst t2 a1), b1⟩
end GH2
