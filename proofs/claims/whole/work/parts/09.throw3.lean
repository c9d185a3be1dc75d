/-! THROWS, third: a call of a method that may throw -/
section GT4
variable {p : Program} {l : Launch} {e : Env} {R : Room} {s : State} {m : MethodId} {args : Array Value} {below : List Frame} {meth : Method} {c : Code} {T : State} {locs : List Loc} {cells slots : Nat}
theorem gw_callT0 (X : Stand p l e R s m args below meth c T locs cells slots) (hexec : p.tables.exec = Jvm.exec) {own : String} {index : Nat} {y : MethodName} {bytes : ByteArray} {maxL : Nat} {ret : Option FieldType}
    (hown : s.vm.findClass own = some m.cls) (hlink : (Cond.methodLink own index y).before args s = true) (hinst : (Cond.instanceMethod y).before args s = true) (hsel : (Cond.selects y.cls y y).before args s = true) (hcode : (Cond.code y bytes maxL ret).before args s = true)
    (hy : y.cls ≠ "java/lang/invoke/MethodHandle" ∧ y.cls ≠ "java/lang/invoke/VarHandle") (hini : ∀ (a' : Array Value) (U : State), s.WarmedH U.vm → (Cond.initialized y.cls).before a' U = true)
    {rm : Room} {Pc : Array Value → State → Prop} {Qt : Array Value → State → Outcome → State → Prop} {mc ms : Nat} {free : Addr → Prop} (hM : MetFree l y (headSpec (Cond.code y bytes maxL ret :: gw_T) rm) Pc (fun _ _ _ _ _ => True) (gw_QT Qt mc ms free)) (hbl : FrameBlind Pc)
    (hgood : ∀ w ∈ Cond.code y bytes maxL ret :: gw_T, ∀ (a' : Array Value) (U : State), s.WarmedH U.vm → w.before a' U = true) (hR1 : rm.frames + 1 ≤ R.frames) (hR2 : 8 + (maxL + 11) + rm.locals ≤ R.locals) (hc : cells + rm.cells ≤ R.cells) (hsl : slots + rm.slots ≤ R.slots)
    {b : Addr} {cellB : Cell} (hcell : T.heap[b]? = some cellB) (hobj : cellB.vm.isStatics = false) (hcls : s.vm.findClass y.cls = some cellB.cls)
    {g : JFrame} (hg : g.method = m) (hsize : g.locals.size = c.maxLocals) {As rest : List Value} (hlen : ∀ sig, parseMethodDescriptor y.desc = some sig → As.length = sig.parameters.length)
    (hstack : g.stack = As.reverse ++ .ref b :: rest) (hW : 2 * g.monitorRoom + (rest.map fun v => v.category).sum ≤ 8) (hdg : decode c.code g.pc = .ok (.invokevirtual index, 3))
    (hPc : ∀ vm₁, s.WarmedH vm₁ → Pc (Value.ref b :: As).toArray (T.setVm vm₁)) :
    ∃ (oc : Outcome) (st₀ t T' : State) (L : List Loc), st₀.heap = T.heap ∧ s.WarmedH st₀.vm ∧ Stand p l e R s m args below meth c T' (locs ++ L) (cells + mc) (slots + ms) ∧ (∀ q ∈ L, free q.base) ∧ T'.heap = t.heap ∧ T'.vm = t.vm ∧ Qt (Value.ref b :: As).toArray st₀ oc t ∧
      (∀ v, oc = .returned v → ∀ tg, Steps p.tables e below (T'.setTop { g with pc := g.pc + 3, stack := v.toList ++ rest }) tg → Steps p.tables e below (T.setTop g) tg) ∧
      (∀ x, oc = .threw x → ∀ tg, Steps p.tables e below ((T'.setTop { g with stack := rest }).pushFrame (.throwing x)) tg → Steps p.tables e below (T.setTop g) tg) := by
  obtain ⟨mk, methM, hnamed, hmethM, hstM, habM⟩ := Cond.instanceMethod_spec hinst
  obtain ⟨methM', cM, hmethM', -, -, -, -, -, -, hsigM⟩ := Cond.code_spec hnamed hcode
  cases hmethM.symm.trans hmethM'
  obtain ⟨c2, r2, m2, q1, q2, q3, q4, kP, hkP, hkPi⟩ := Cond.selects_spec hsel
  cases hcls.symm.trans q1
  cases (State.methodFound?_of_named hnamed hy).symm.trans q2
  cases hnamed.symm.trans q3
  have hselP : selectMethod e.platform s.vm cellB.cls mk = .method mk := by rw [Launch.admits_selectMethod X.admits]; exact q4
  obtain ⟨vm₁, X₁, hstep₁⟩ := X.invokevirtual hexec hown hlink hnamed hmethM hstM hkP hkPi hy (a := b) (cell := cellB) hcell
    (fun z h => by rw [h] at hobj; cases hobj) hselP hmethM habM hkP hkPi (g := g) hg (argsL := As) (rest := rest) (hlen _ hsigM) hstack hdg
  have hn1 : (T.setVm vm₁).methodNamed? y = some mk := X₁.named hnamed
  have h2 := hgood _ List.mem_cons_self (Value.ref b :: As).toArray (T.setVm vm₁) X₁.warmed
  obtain ⟨methY, cY, hmY, hcY, -, hlY, -, -, -, -⟩ := Cond.code_spec hn1 h2
  obtain ⟨kY, hkY, -⟩ := className_of_methodNamed hn1
  have hinitY : kY.init = .initialized := Cond.initialized_spec (findClass_of_methodNamed hn1) hkY (hini (Value.ref b :: As).toArray (T.setVm vm₁) X₁.warmed)
  have h : At (T.setVm vm₁) ({ g with stack := rest } : JFrame).method c below := by rw [show ({ g with stack := rest } : JFrame).method = m from hg]; exact X₁.here
  have happ : (headSpec (Cond.code y bytes maxL ret :: gw_T) rm).appliesLoose y e.platform ((T.setVm vm₁).calling { g with stack := rest } mk (Value.ref b :: As).toArray) = true :=
    Spec.appliesLoose_calling (g := { g with stack := rest }) h hdg hn1 hkY hinitY (X₁.room_calling (g := { g with stack := rest }) (R' := rm) hsize hmY hcY hR1 (by rw [hlY]; show 2 * g.monitorRoom + (rest.map fun v => v.category).sum + (maxL + 11) + rm.locals ≤ R.locals; omega) hc hsl) (atoms_intro fun w hw => hgood w hw _ _ X₁.warmed)
  obtain ⟨mid, hmid⟩ := h.above
  have hfr : ((T.setVm vm₁).setTop { g with stack := rest }).frames = (.java { g with stack := rest } :: mid) ++ below := by rw [State.frames_setTop' _ h.top, hmid]; rfl
  obtain ⟨oc, s₂, hsteps, -, hend, hQ, L, ⟨hWs, hsame⟩, hL⟩ := Steps.callFree hM p X₁.admits X₁.cas X₁.clock (acts := []) hfr happ (hbl _ _ { g with stack := rest } mk (hPc vm₁ X₁.warmed)) trivial
  rw [State.frames_setTop' _ h.top, X₁.tail] at hend
  cases oc with
  | returned v =>
    obtain ⟨T', X', -, -, ht⟩ := X₁.outOf (g := { g with stack := rest }) hg hdg (mk := mk) (a := (Value.ref b :: As).toArray) hend hWs hsame
    refine ⟨.returned v, (T.setVm vm₁).calling { g with stack := rest } mk (Value.ref b :: As).toArray, s₂, T', L, rfl, X₁.warmed, X', hL, by rw [ht]; rfl, by rw [ht]; rfl, hQ, fun v' hv tg htg => ?_, fun x hx => (by cases hx)⟩
    cases hv
    refine hstep₁ _ fun acts => ?_
    rw [doInvoke_state]
    rw [ht] at hsteps
    exact hsteps.trans htg
  | threw x =>
    obtain ⟨T', X', -, -, ht⟩ := X₁.outOfThrown (g := { g with stack := rest }) hg (mk := mk) (a := (Value.ref b :: As).toArray) hend hWs hsame
    refine ⟨.threw x, (T.setVm vm₁).calling { g with stack := rest } mk (Value.ref b :: As).toArray, s₂, T', L, rfl, X₁.warmed, X', hL, by rw [ht]; rfl, by rw [ht]; rfl, hQ, fun v' hv => (by cases hv), fun x' hx tg htg => ?_⟩
    cases hx
    refine hstep₁ _ fun acts => ?_
    rw [doInvoke_state]
    rw [ht] at hsteps
    exact hsteps.trans htg
end GT4
section GT5
variable {p : Program} {l : Launch} {e : Env} {R : Room} {s : State} {m : MethodId} {args : Array Value} {below : List Frame} {meth : Method} {c : Code} {Q : State → Prop}
variable {cc : ByteArray} {nL : Nat} {own : String} {D : va_G} {cl : List vw_C} {tys : List (ClassId × FieldType)} {A : Nat → Prop} {cells slots : Nat} {ws ws' : va_W} {lv lv' : List (Nat × Value)} {pc : Nat} {st : List Value}
/-- the words of a callee, whatever the state -/
theorem gw_pay {w1 : Cond} (hts : ∀ w ∈ gw_all, w.before args s = true) (h1 : w1 ∈ gw_T) : ∀ w ∈ w1 :: gw_T, ∀ (a' : Array Value) (U : State), s.WarmedH U.vm → w.before a' U = true := pay_in hts (gw_good h1)
/-- a call that may throw, in a method without handlers: a throw is passed on -/
theorem gw_callVT (C : gw_CT l p s m args meth c cc nL own D cl tys A) {y : MethodName} {bytes : ByteArray} {maxL n index : Nat} {ret : Option FieldType} {rm : Room} {As : List Value} {w' wF : va_W} {k kF : Nat} {o oF : Option Value} {b ci q0 : Nat} {fs : List Value} {T : u_T} {N : Nat}
    (hM : gw_MT l y (Cond.code y bytes maxL ret :: gw_T) rm D cl tys (.ref b :: As) ws w' k o) (hcode : Cond.code y bytes maxL ret ∈ gw_T) (hl1 : Cond.methodLink own index y ∈ gw_all) (hl2 : Cond.instanceMethod y ∈ gw_all) (hl3 : Cond.selects y.cls y y ∈ gw_all) (hl4 : Cond.initialized y.cls ∈ gw_T)
    (hd : y.cls ≠ "java/lang/invoke/MethodHandle" ∧ y.cls ≠ "java/lang/invoke/VarHandle" ∧ (parseMethodDescriptor y.desc).map (fun d => d.parameters.length) = some n) (hR : rm.frames + 1 ≤ R.frames ∧ 8 + (maxL + 11) + rm.locals ≤ R.locals) (hf : 0 + rm.cells ≤ R.cells ∧ 0 + rm.slots ≤ R.slots)
    (hc : cl[ci]? = some (y.cls, T, N)) (he : ws[q0]? = some (b, .inr (ci, fs))) (hn : As.length = n) (hW : (st.map fun v => v.category).sum ≤ 8) (hdg : decode cc pc = .ok (.invokevirtual index, 3)) (hem : c.exceptionTable.isEmpty = true)
    (kk : k = 0 → gw_W p l e R s m args below meth c D cl A (MQT below (gw_QcT D cl wF kF oF A) args s (gw_kc kF) (gw_ks kF) A) 0 0 nL w' lv (pc + 3) (o.toList ++ st)) (kt : k ≠ 0 → kF = k ∧ wF = w') :
    gw_W p l e R s m args below meth c D cl A (MQT below (gw_QcT D cl wF kF oF A) args s (gw_kc kF) (gw_ks kF) A) 0 0 nL ws lv pc (As.reverse ++ .ref b :: st) := by
  intro H locs ls hP hD hS hl T0 hT X
  obtain ⟨⟨hx, hb, hml, hown, hts, hK, hA, hlocks⟩, hF, hns, hfl⟩ := C
  obtain ⟨cellB, hcB, hoB, hclB⟩ := va_recv hK hP hc he
  have hself := gw_self (own := own) (cc := cc) (nL := nL) ⟨hx, hb, hml, hown, hts, hK, hA, hlocks⟩ hD hS
  obtain ⟨oc, st₀, t, T', L, h0, hW0, X', hL, e1, e2, ⟨⟨hOc, hP1, hD1⟩, hz, hk⟩, hret, hthr⟩ := gw_callT0 X hx hown (hts _ hl1) (hts _ hl2) (hts _ hl3) (hts _ (gw_T_all hcode)) ⟨hd.1, hd.2.1⟩ (fun a' U hU => gw_pay hts hl4 _ List.mem_cons_self a' U hU) (hM H.size) gw_blindT (gw_pay hts hcode) hR.1 hR.2 hf.1 hf.2
    (by rw [hT]; exact hcB) hoB hclB (g := F0 m pc ls (As.reverse ++ .ref b :: st)) rfl (hl.1.trans hml.symm) (As := As) (rest := st) (fun sig h => by have h9 := hd.2.2; rw [h] at h9; exact hn.trans (Option.some.inj h9).symm) rfl (lv_room hW) (by rw [hb]; exact hdg)
    (fun vm₁ hW1 => ⟨⟨rfl, by show T0.heap.size = H.size; rw [hT], by show va_P D cl ws T0.heap; rw [hT]; exact hP, va_K.moved hW1.alike hK, hD.weaken (fun _ _ _ _ => trivial), gw_E_warm (U := T0.setVm vm₁) hW1 (gw_E_of hts)⟩, gw_F_move (U := T0.setVm vm₁) hW1 (show gw_keepS s.heap T0.heap by rw [hT]; exact gw_keep_of hS hns) hF⟩)
  rw [h0, hT] at hz hk
  have hS1 : va_S A s.heap T'.heap (locs ++ L) := ⟨Nat.le_trans hS.1 (by rw [e1]; exact hz), fun q h1 h2 => by rw [e1, hk q (Nat.lt_of_lt_of_le h1 hS.1) (fun z => h2 (hself q z))]; exact hS.2.1 q h1 h2, fun q hq => by
      rcases List.mem_append.mp hq with h | h
      · exact hS.2.2 q h
      · exact hself _ (hL q h)⟩
  have hD2 : va_D A w' := hD1.weaken (fun k q _ h => hself q.1 h)
  rcases hOc with ⟨hk0, hoc⟩ | ⟨hk0, x, cell, hoc, hcx, hcv, hcc⟩
  · subst hk0
    obtain ⟨t2, a1, b1⟩ := kk rfl T'.heap (locs ++ L) ls (by rw [e1]; exact hP1) hD2 hS1 hl T' rfl X'
    exact ⟨t2, hret _ hoc t2 a1, b1⟩
  · obtain ⟨rfl, rfl⟩ := kt hk0
    obtain ⟨w1, w2, w3, w4, w5⟩ := X'.leaveThrown x (g := F0 m pc ls st) rfl rfl rfl (covers_of_empty hem _) hlocks
    rw [Nat.zero_add, Nat.zero_add] at w5
    refine ⟨_, hthr x hoc _ w1, .threw x, w2, w3, ⟨⟨Or.inr ⟨hk0, x, cell, rfl, ?_, hcv, ?_⟩, ?_, hD2⟩, ?_, ?_⟩, locs ++ L, ⟨w4, w5⟩, hS1.2.2⟩
    · show T'.heap[x]? = some cell
      rw [e1]; exact hcx
    · rw [← hW0.alike.findClass]; exact hcc
    · show va_P D cl _ T'.heap
      rw [e1]; exact hP1
    · exact hS1.1
    · exact fun q h1 h2 => hS1.2.1 q h1 h2
end GT5
