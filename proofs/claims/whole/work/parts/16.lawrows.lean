/-! LAW ROWS: calls from the law, framed; the script; the end -/
section GL
variable {p : Program} {l : Launch} {e : Env} {R : Room} {s : State} {m : MethodId} {args : Array Value} {below : List Frame} {meth : Method} {c : Code} {T : State} {locs : List Loc} {cells slots : Nat}
theorem gw_callS0 (X : Stand p l e R s m args below meth c T locs cells slots) (hexec : p.tables.exec = Jvm.exec) {own : String} {index : Nat} {y : MethodName} {bytes : ByteArray} {maxL : Nat} {ret : Option FieldType} {hh : List (Nat × Nat × Nat × Nat)}
    (hown : s.vm.findClass own = some m.cls) (hlink : (Cond.methodLink own index y).before args s = true) (hstat : (Cond.static y).before args s = true) (hcode : (Cond.codeWith y bytes maxL ret hh).before args s = true)
    (hy : y.cls ≠ "java/lang/invoke/MethodHandle" ∧ y.cls ≠ "java/lang/invoke/VarHandle") (hini : ∀ (a' : Array Value) (U : State), s.WarmedH U.vm → (Cond.initialized y.cls).before a' U = true) (hini0 : (Cond.initialized y.cls).before args s = true)
    {rm : Room} {Pc : Array Value → State → Prop} {Qt : Array Value → State → Outcome → State → Prop} {mc ms : Nat} {free : Addr → Prop} (hM : MetFree l y (headSpec (Cond.codeWith y bytes maxL ret hh :: gw_T) rm) Pc (fun _ _ _ _ _ => True) (gw_QT Qt mc ms free)) (hbl : FrameBlind Pc)
    (hgood : ∀ w ∈ Cond.codeWith y bytes maxL ret hh :: gw_T, ∀ (a' : Array Value) (U : State), s.WarmedH U.vm → w.before a' U = true) (hR1 : rm.frames + 1 ≤ R.frames) (hR2 : 8 + (maxL + 11) + rm.locals ≤ R.locals) (hc : cells + rm.cells ≤ R.cells) (hsl : slots + rm.slots ≤ R.slots)
    {g : JFrame} (hg : g.method = m) (hsize : g.locals.size = c.maxLocals) {As rest : List Value} (hlen : ∀ sig, parseMethodDescriptor y.desc = some sig → As.length = sig.parameters.length)
    (hstack : g.stack = As.reverse ++ rest) (hW : 2 * g.monitorRoom + (rest.map fun v => v.category).sum ≤ 8) (hdg : decode c.code g.pc = .ok (.invokestatic index, 3))
    (hPc : ∀ vm₁, s.WarmedH vm₁ → Pc As.toArray (T.setVm vm₁)) (hnot : ∀ a st x t, ¬ Qt a st (.threw x) t) :
    ∃ (v : Option Value) (st₀ t T' : State) (L : List Loc), st₀.heap = T.heap ∧ Stand p l e R s m args below meth c T' (locs ++ L) (cells + mc) (slots + ms) ∧ (∀ q ∈ L, free q.base) ∧ T'.heap = t.heap ∧ T'.vm = t.vm ∧ Qt As.toArray st₀ (.returned v) t ∧
      (∀ tg, Steps p.tables e below (T'.setTop { g with pc := g.pc + 3, stack := v.toList ++ rest }) tg → Steps p.tables e below (T.setTop g) tg) := by
  obtain ⟨mk, methM, cM, hnamed, hmethM, -, -, -, -, -, -, hsigM⟩ := Cond.codeWith_spec hcode
  have hstatic : methM.isStatic = true := Cond.static_spec hnamed hmethM hstat
  obtain ⟨kP, hkP, -⟩ := className_of_methodNamed hnamed
  have hinitP : kP.init = .initialized := Cond.initialized_spec (findClass_of_methodNamed hnamed) hkP hini0
  obtain ⟨vm₁, X₁, hstep₁⟩ := X.invokestatic hexec hown hlink hnamed hmethM hstatic hkP hinitP hy (g := g) hg (argsL := As) (rest := rest) (hlen _ hsigM) hstack hdg
  have hn1 : (T.setVm vm₁).methodNamed? y = some mk := X₁.named hnamed
  have h2 := hgood _ List.mem_cons_self As.toArray (T.setVm vm₁) X₁.warmed
  obtain ⟨m9, methY, cY, hn9, hmY, hcY, -, hlY, -, -, -, -⟩ := Cond.codeWith_spec h2
  cases hn1.symm.trans hn9
  obtain ⟨kY, hkY, -⟩ := className_of_methodNamed hn1
  have hinitY : kY.init = .initialized := Cond.initialized_spec (findClass_of_methodNamed hn1) hkY (hini As.toArray (T.setVm vm₁) X₁.warmed)
  have h : At (T.setVm vm₁) ({ g with stack := rest } : JFrame).method c below := by rw [show ({ g with stack := rest } : JFrame).method = m from hg]; exact X₁.here
  have happ : (headSpec (Cond.codeWith y bytes maxL ret hh :: gw_T) rm).appliesLoose y e.platform ((T.setVm vm₁).calling { g with stack := rest } mk As.toArray) = true :=
    Spec.appliesLoose_calling (g := { g with stack := rest }) h hdg hn1 hkY hinitY (X₁.room_calling (g := { g with stack := rest }) (R' := rm) hsize hmY hcY hR1 (by rw [hlY]; show 2 * g.monitorRoom + (rest.map fun v => v.category).sum + (maxL + 11) + rm.locals ≤ R.locals; omega) hc hsl) (atoms_intro fun w hw => hgood w hw _ _ X₁.warmed)
  obtain ⟨mid, hmid⟩ := h.above
  have hfr : ((T.setVm vm₁).setTop { g with stack := rest }).frames = (.java { g with stack := rest } :: mid) ++ below := by rw [State.frames_setTop' _ h.top, hmid]; rfl
  obtain ⟨oc, s₂, hsteps, -, hend, hQ, L, ⟨hWs, hsame⟩, hL⟩ := Steps.callFree hM p X₁.admits X₁.cas X₁.clock (acts := []) hfr happ (hbl _ _ { g with stack := rest } mk (hPc vm₁ X₁.warmed)) trivial
  rw [State.frames_setTop' _ h.top, X₁.tail] at hend
  cases oc with
  | returned v =>
    obtain ⟨T', X', -, -, ht⟩ := X₁.outOf (g := { g with stack := rest }) hg hdg (mk := mk) (a := As.toArray) hend hWs hsame
    refine ⟨v, (T.setVm vm₁).calling { g with stack := rest } mk As.toArray, s₂, T', L, rfl, X', hL, by rw [ht]; rfl, by rw [ht]; rfl, hQ, fun tg htg => ?_⟩
    refine hstep₁ _ fun acts => ?_
    rw [doInvoke_state]
    rw [ht] at hsteps
    exact hsteps.trans htg
  | threw x => exact absurd hQ (hnot _ _ _ _)
end GL
section GL2
variable {p : Program} {l : Launch} {e : Env} {R : Room} {s : State} {m : MethodId} {args : Array Value} {below : List Frame} {meth : Method} {c : Code} {Q : State → Prop}
variable {cc : ByteArray} {nL : Nat} {own : String} {D : va_G} {cl : List vw_C} {tys : List (ClassId × FieldType)} {A : Nat → Prop} {cells slots : Nat} {ws ws' : va_W} {lv lv' : List (Nat × Value)} {pc : Nat} {st : List Value}
theorem gw_callSH (C : gw_CT l p s m args meth c cc nL own D cl tys A) (hN : gw_Nc s) {y : MethodName} {bytes : ByteArray} {maxL n index : Nat} {ret : Option FieldType} {hh : List (Nat × Nat × Nat × Nat)} {rm : Room} {As : List Value} {wc wr w' : va_W} {k : Nat} {o : Option Value}
    (hM : gw_MH l y (Cond.codeWith y bytes maxL ret hh :: gw_T) rm D cl tys As wc w' k o) (hcode : Cond.codeWith y bytes maxL ret hh ∈ gw_T) (hl1 : Cond.methodLink own index y ∈ gw_all) (hl2 : Cond.static y ∈ gw_all) (hl4 : Cond.initialized y.cls ∈ gw_T)
    (hd : y.cls ≠ "java/lang/invoke/MethodHandle" ∧ y.cls ≠ "java/lang/invoke/VarHandle" ∧ (parseMethodDescriptor y.desc).map (fun d => d.parameters.length) = some n) (hR : rm.frames + 1 ≤ R.frames ∧ 8 + (maxL + 11) + rm.locals ≤ R.locals) (hf : cells + rm.cells ≤ R.cells ∧ slots + rm.slots ≤ R.slots)
    (isC isR : List Nat) (hC : isC.map (fun i => ws[i]?) = wc.map some) (hCf : isC.filterMap (fun i => ws[i]?) = wc) (hndC : va_nd isC = true) (hRr : isR.map (fun i => ws[i]?) = wr.map some) (hnd : va_nd isR = true) (hdis : ∀ i ∈ isR, i ∉ isC) (hn : As.length = n) (hW : (st.map fun v => v.category).sum ≤ 8) (hdg : decode cc pc = .ok (.invokestatic index, 3))
    (kk : gw_W p l e R s m args below meth c D cl A Q (cells + gw_kc k) (slots + gw_ks k) nL (wr ++ w') lv (pc + 3) (o.toList ++ st)) : gw_W p l e R s m args below meth c D cl A Q cells slots nL ws lv pc (As.reverse ++ st) := by
  intro H locs ls hP hD hS hl T0 hT X
  obtain ⟨⟨hx, hb, hml, hown, hts, hK, hA, hlocks⟩, hF, hns, hfl⟩ := C
  have hPc := hP.sub isC hCf
  have hDc := hD.sub isC hndC hC
  have hFc := va_free (wc := wc) hD hS hA isC hC
  obtain ⟨v, st₀, t, T', L, h0, X', hL, e1, e2, ⟨⟨hOc, hP1, hD1⟩, hz, hk⟩, hret⟩ := gw_callS0 X hx hown (hts _ hl1) (hts _ hl2) (hts _ (gw_T_all hcode)) ⟨hd.1, hd.2.1⟩ (fun a' U hU => gw_pay hts hl4 _ List.mem_cons_self a' U hU) (hts _ (gw_T_all hl4)) (hM H.size) gw_blindH (gw_pay hts hcode) hR.1 hR.2 hf.1 hf.2
    (g := F0 m pc ls (As.reverse ++ st)) rfl (hl.1.trans hml.symm) (As := As) (rest := st) (fun sig h => by have h9 := hd.2.2; rw [h] at h9; exact hn.trans (Option.some.inj h9).symm) rfl (lv_room hW) (by rw [hb]; exact hdg)
    (fun vm₁ hW1 => ⟨⟨⟨rfl, by show T0.heap.size = H.size; rw [hT], by show va_P D cl wc T0.heap; rw [hT]; exact hPc, va_K.moved hW1.alike hK, hDc.weaken (fun _ _ _ _ => trivial), gw_E_warm (U := T0.setVm vm₁) hW1 (gw_E_of hts)⟩, gw_F_move (U := T0.setVm vm₁) hW1 (show gw_keepS s.heap T0.heap by rw [hT]; exact gw_keep_of hS hns) hF⟩, gw_Nc_move (U := T0.setVm vm₁) hW1.alike hN⟩)
    (fun a st x t h => by rcases h.1.1 with ⟨-, h⟩ | ⟨h, -⟩ <;> first | cases h | exact h rfl)
  rw [h0, hT] at hz hk
  obtain ⟨hP2, hD2⟩ := va_join (wr := wr) (w1 := w') hP hD isC isR hC hRr hnd hdis hk hFc hP1 hD1
  have hS1 : va_S A s.heap T'.heap (locs ++ L) := ⟨Nat.le_trans hS.1 (by rw [e1]; exact hz), fun q h1 h2 => by rw [e1, hk q (Nat.lt_of_lt_of_le h1 hS.1) (fun z => h2 (hFc q z))]; exact hS.2.1 q h1 h2, fun q hq => by
      rcases List.mem_append.mp hq with h | h
      · exact hS.2.2 q h
      · exact hFc _ (hL q h)⟩
  rcases hOc with ⟨-, hoc⟩ | ⟨h, -⟩
  · cases hoc
    obtain ⟨t2, a1, b1⟩ := kk T'.heap (locs ++ L) ls (by rw [e1]; exact hP2) hD2 hS1 hl T' rfl X'
    exact ⟨t2, hret t2 a1, b1⟩
  · exact absurd rfl h
/-- a call of a method that makes nothing, on a part of the world -/
theorem gw_callVF (C : gw_C p s m args meth c cc nL own D cl tys A) {y : MethodName} {bytes : ByteArray} {maxL n index : Nat} {ret : Option FieldType} {rm : Room} {As : List Value} {wc wr w' : va_W} {o : Option Value} {b ci q0 : Nat} {fs : List Value} {T : u_T} {N : Nat}
    (hM : gw_M l y (Cond.code y bytes maxL ret :: gw_T) rm D cl tys (.ref b :: As) wc w' o) (hcode : Cond.code y bytes maxL ret ∈ gw_T) (hl1 : Cond.methodLink own index y ∈ gw_all) (hl2 : Cond.instanceMethod y ∈ gw_all) (hl3 : Cond.selects y.cls y y ∈ gw_all) (hl4 : Cond.initialized y.cls ∈ gw_all)
    (hd : y.cls ≠ "java/lang/invoke/MethodHandle" ∧ y.cls ≠ "java/lang/invoke/VarHandle" ∧ (parseMethodDescriptor y.desc).map (fun d => d.parameters.length) = some n) (hR : rm.frames + 1 ≤ R.frames ∧ 8 + (maxL + 11) + rm.locals ≤ R.locals) (hf : cells + 0 ≤ R.cells ∧ slots + 0 ≤ R.slots) (hz1 : rm.cells = 0) (hz2 : rm.slots = 0)
    (isC isR : List Nat) (hC : isC.map (fun i => ws[i]?) = wc.map some) (hCf : isC.filterMap (fun i => ws[i]?) = wc) (hndC : va_nd isC = true) (hRr : isR.map (fun i => ws[i]?) = wr.map some) (hnd : va_nd isR = true) (hdis : ∀ i ∈ isR, i ∉ isC) (hc : cl[ci]? = some (y.cls, T, N)) (he : wc[q0]? = some (b, .inr (ci, fs))) (hn : As.length = n) (hW : (st.map fun v => v.category).sum ≤ 8) (hdg : decode cc pc = .ok (.invokevirtual index, 3))
    (kk : gw_W p l e R s m args below meth c D cl A Q cells slots nL (wr ++ w') lv (pc + 3) (o.toList ++ st)) : gw_W p l e R s m args below meth c D cl A Q cells slots nL ws lv pc (As.reverse ++ .ref b :: st) := by
  refine gw_afterF (mc := 0) (ms := 0) (a := (Value.ref b :: As).toArray) C isC isR hC hRr hnd hdis (fun H locs ls hP hD hS hl => ?_) kk
  have hM0 := hM H.size
  rw [hz1, hz2] at hM0
  have hPc := hP.sub isC hCf
  exact va_runV (As := As) (rest := st) ⟨C.1, C.2.1, C.2.2.1, C.2.2.2.1, C.2.2.2.2.1⟩ hM0 ⟨callB_of n C.2.2.2.2.1 (gw_good hcode) rfl hz1 hz2 (C.2.2.2.2.1 _ hl4) (C.2.2.2.2.1 _ hl1) hd hR, C.2.2.2.2.1 _ hl2, C.2.2.2.2.1 _ hl3⟩ ⟨gw_blind, va_recv C.2.2.2.2.2.1 hPc hc he, fun U hU hW9 => ⟨rfl, by rw [hU], by rw [hU]; exact hPc, va_K.moved hW9.alike C.2.2.2.2.2.1, (hD.sub isC hndC hC).weaken (fun _ _ _ _ => trivial), gw_E_warm hW9 (gw_E_of C.2.2.2.2.1)⟩⟩ rfl hn hl.1 rfl (lv_room hW) hdg hf
theorem gw_sld (C : gw_C p s m args meth c cc nL own D cl tys A) {b L : Nat} {xs : Nat → Int32} (hX : va_X b L xs s s.heap) (hbl : b < s.heap.size) (hbA : ¬ A b) {i v : Int32} (hin : vp_in i L) (hv : xs i.toNatClampNeg = v) (hdg : decode cc pc = .ok (.iaload, 1)) (kk : gw_W p l e R s m args below meth c D cl A Q cells slots nL ws lv (pc + 1) (.int v :: st)) : gw_W p l e R s m args below meth c D cl A Q cells slots nL ws lv pc (.int i :: .ref b :: st) := by
  subst hv
  exact fun H locs ls hP hD hS hl => va_sld C.1 C.2.1 hX hbl hbA hS hin hdg (kk H locs ls hP hD hS hl)
theorem gw_slen (C : gw_C p s m args meth c cc nL own D cl tys A) {b L : Nat} {xs : Nat → Int32} (hX : va_X b L xs s s.heap) (hbl : b < s.heap.size) (hbA : ¬ A b) (hdg : decode cc pc = .ok (.arraylength, 1)) (kk : gw_W p l e R s m args below meth c D cl A Q cells slots nL ws lv (pc + 1) (.int (Int32.ofNat L) :: st)) : gw_W p l e R s m args below meth c D cl A Q cells slots nL ws lv pc (.ref b :: st) :=
  fun H locs ls hP hD hS hl => va_slen C.1 C.2.1 hX hbl hbA hS hdg (kk H locs ls hP hD hS hl)
end GL2
