/-! CATCHES: the law's own methods catch what the face throws -/
def gw_Nc (U : State) : Prop := va_Nc gw_ISE gw_IOB U ∧ va_Nc gw_IAE gw_IOB U ∧ va_Nc gw_IAE gw_ISE U ∧ va_Nc gw_ISE gw_IAE U ∧ va_Nc gw_IOB gw_ISE U ∧ va_Nc gw_IOB gw_IAE U
theorem gw_Nc_move {s U : State} (h : s.vm.Alike U.vm) (hN : gw_Nc s) : gw_Nc U := ⟨hN.1.moved h, hN.2.1.moved h, hN.2.2.1.moved h, hN.2.2.2.1.moved h, hN.2.2.2.2.1.moved h, hN.2.2.2.2.2.moved h⟩
def gw_en (q : Nat × Nat × Nat × Nat) : ExceptionTableEntry := { startPc := q.1, endPc := q.2.1, handlerPc := q.2.2.1, catchType := q.2.2.2 }
/-- the first handler for the class E -/
def gw_hd (E : String) : List ((Nat × Nat × Nat × Nat) × String) → Option Nat
  | [] => none
  | q :: r => if q.2 = E then some q.1.2.2.1 else gw_hd E r
theorem gw_go_cold {E : CtlPost} {e : Env} {d : Bool} {acts : List Action} {u : State} {f : JFrame} {a : Addr} {Q : Handler → Pre} {x : ExceptionTableEntry} {t : List ExceptionTableEntry} {c : Nat} {vm' : Vm} (hx : covers x f.pc = true) (h0 : x.catchType ≠ 0)
    (hg : (resolveClass f.method.cls x.catchType).Gives e.toSetting u.vm (.ok c) vm') (hr : vm'.classReady f.method.cls x.catchType c) (hsz : vm'.classes.size ≤ u.vm.classes.size) :
    wp (findHandler.go f a (x :: t)) Q E e d acts u ↔ wp (findHandler.go f a (x :: t)) Q E e d acts (u.setVm vm') := by
  obtain ⟨ha, ht⟩ := hg.op (op := VmOp.resolveClass f.method.cls x.catchType) rfl
  obtain ⟨k, hkd, hres⟩ := hr
  simp only [covers] at hx
  simp [findHandler.go, hx, h0, ha, ht, hsz, resolveClass_memo e hkd hres, VmOp.dirties, VmOp.acts, State.setVm_twice]
theorem gw_asg (vm : Vm) (c : ClassId) : vm.assignable c c = true := by
  show vm.assignableAux (255 + 1) c c = true
  rw [Vm.assignableAux]
  simp
theorem gw_find {s : State} {e : Env} {own : String} {f : JFrame} {a : Addr} {E : String} {cell : Cell} {args : Array Value} (hown : s.vm.findClass own = some f.method.cls) (hpl : e.platform.magicAccessors = ({} : Platform).magicAccessors) (hts : ∀ w ∈ gw_all, w.before args s = true) (hE : s.vm.findClass E = some cell.cls) (hobj : ∀ k, cell.vm ≠ .statics k) :
    ∀ (hs : List ((Nat × Nat × Nat × Nat) × String)) (pcH : Nat) (u : State), s.WarmedH u.vm → u.heap[a]? = some cell → (∀ q ∈ hs, covers (gw_en q.1) f.pc = true ∧ q.1.2.2.2 ≠ 0 ∧ Cond.classLink own q.1.2.2.2 q.2 ∈ gw_all ∧ (q.2 ≠ E → va_Nc E q.2 s)) → gw_hd E hs = some pcH →
      ∃ vm2, s.WarmedH vm2 ∧ ∀ (Q : Handler → Pre) (EE : CtlPost) (d : Bool) (acts : List Action), wp (findHandler.go f a (hs.map (fun q => gw_en q.1))) Q EE e d acts u ↔ Q (.found pcH) d acts (u.setVm vm2) := by
  intro hs
  induction hs with
  | nil => intro pcH u _ _ _ h; cases h
  | cons q r ih =>
    intro pcH u hW hcell hall hhd
    obtain ⟨hx, h0, hlink, hno⟩ := hall q List.mem_cons_self
    obtain ⟨cC, hfc, hcl⟩ := Cond.classLink_spec hown (hts _ hlink) e.platform hpl
    obtain ⟨hg₁, hwarm₁, hready₁⟩ := State.classEntry (e := e) hW hcl
    have hsz : (u.vm.noted f.method.cls q.1.2.2.2 (.cls cC)).classes.size ≤ u.vm.classes.size := by rw [Vm.size_noted]; exact Nat.le_refl _
    generalize u.vm.noted f.method.cls q.1.2.2.2 (.cls cC) = vm1 at hg₁ hwarm₁ hready₁ hsz
    have hk1 : ∃ k, (u.setVm vm1).vm.classes[cell.cls]? = some k := Vm.classAt_of_findClass (name := E) (by show vm1.findClass E = some cell.cls; rw [hwarm₁.alike.findClass]; exact hE)
    have hk2 : ∃ k, (u.setVm vm1).vm.classes[cC]? = some k := Vm.classAt_of_findClass (name := q.2) (by show vm1.findClass q.2 = some cC; rw [hwarm₁.alike.findClass]; exact hfc)
    have step : ∀ (Q : Handler → Pre) (EE : CtlPost) (d : Bool) (acts : List Action), wp (findHandler.go f a ((q :: r).map (fun q => gw_en q.1))) Q EE e d acts u ↔ if vm1.assignable cell.cls cC = true then Q (.found q.1.2.2.1) d acts (u.setVm vm1) else wp (findHandler.go f a (r.map (fun q => gw_en q.1))) Q EE e d acts (u.setVm vm1) := by
      intro Q EE d acts
      rw [List.map_cons, gw_go_cold (x := gw_en q.1) hx h0 hg₁ hready₁ hsz]
      exact W.findHandler_go_class (x := gw_en q.1) hx h0 hready₁ hcell hobj hk1 hk2
    by_cases hq : q.2 = E
    · have he : cC = cell.cls := by rw [hq] at hfc; exact Option.some.inj (hfc.symm.trans hE)
      subst he
      simp only [gw_hd, hq, if_true] at hhd
      cases hhd
      refine ⟨vm1, hwarm₁, fun Q EE d acts => ?_⟩
      rw [step, if_pos (gw_asg _ _)]
    · obtain ⟨c1, t1, g1, g2, g3⟩ := hno hq
      cases hE.symm.trans g1
      cases hfc.symm.trans g2
      simp only [gw_hd, hq, if_false] at hhd
      obtain ⟨vm2, hW2, hgo⟩ := ih pcH (u.setVm vm1) hwarm₁ hcell (fun z hz => hall z (List.mem_cons_of_mem _ hz)) hhd
      refine ⟨vm2, hW2, fun Q EE d acts => ?_⟩
      rw [step, if_neg (by rw [hwarm₁.alike.assignable, g3]; decide)]
      exact hgo Q EE d acts
theorem gw_stepCatch {e : Env} {u u' : State} {a : Addr} {f : JFrame} {r : List Frame} {pc : Nat} (hfind : ∀ (Q : Handler → Pre) (E : CtlPost) (d : Bool) (acts : List Action), wp (findHandler f a) Q E e d acts u ↔ Q (.found pc) d acts u') :
    (stepThrowing e u a (.java f :: r)).Is (u'.setFrames (.java { f with pc := pc, stack := [.ref a] } :: r)) [] := by
  simp only [stepThrowing, searchFrame, vmDo]
  generalize hr : Sem.go _ e false [] u = res
  obtain ⟨as, rfl, ha⟩ := Sem.eq_ok_of hr (a := Handler.found pc) (s' := u') (acts' := []) (by simp [hfind _ _ _ _])
  exact ⟨rfl, ha⟩
section GH
variable {p : Program} {l : Launch} {e : Env} {R : Room} {s : State} {m : MethodId} {args : Array Value} {below : List Frame} {meth : Method} {c : Code} {T : State} {locs : List Loc} {cells slots : Nat}
/-- a throw out of a call is caught in the walked method: the walk goes on at the handler -/
theorem gw_caught (X : Stand p l e R s m args below meth c T locs cells slots) {g : JFrame} (hg : g.method = m) {x : Addr} {cell : Cell} (hcell : T.heap[x]? = some cell) (hvm : cell.vm = .none) {E own : String} (hE : s.vm.findClass E = some cell.cls) (hown : s.vm.findClass own = some m.cls) (hts : ∀ w ∈ gw_all, w.before args s = true)
    {hs : List ((Nat × Nat × Nat × Nat) × String)} (htab : c.exceptionTable.toList.map (fun h => (h.startPc, h.endPc, h.handlerPc, h.catchType)) = hs.map (·.1)) (hall : ∀ q ∈ hs, covers (gw_en q.1) g.pc = true ∧ q.1.2.2.2 ≠ 0 ∧ Cond.classLink own q.1.2.2.2 q.2 ∈ gw_all ∧ (q.2 ≠ E → va_Nc E q.2 s)) {pcH : Nat} (hhd : gw_hd E hs = some pcH) :
    ∃ vm2, Stand p l e R s m args below meth c (T.setVm vm2) locs cells slots ∧ ∀ tg, Steps p.tables e below ((T.setVm vm2).setTop { g with pc := pcH, stack := [.ref x] }) tg → Steps p.tables e below ((T.setTop g).pushFrame (.throwing x)) tg := by
  subst hg
  have hpl : e.platform.magicAccessors = ({} : Platform).magicAccessors := by rw [X.admits.platform]
  have htl : c.exceptionTable.toList = hs.map (fun q => gw_en q.1) := by
    have h1 : (c.exceptionTable.toList.map (fun h => (h.startPc, h.endPc, h.handlerPc, h.catchType))).map gw_en = (hs.map (·.1)).map gw_en := by rw [htab]
    rw [List.map_map, List.map_map] at h1
    rw [show (fun q : (Nat × Nat × Nat × Nat) × String => gw_en q.1) = gw_en ∘ (fun q => q.1) from rfl, ← h1]
    exact (List.map_id _).symm
  have hmeth : ((T.setTop g).pushFrame (.throwing x)).vm.method? g.method = some meth := by rw [Stand.throwing_vm]; exact X.method'
  have hvmu : ((T.setTop g).pushFrame (.throwing x)).vm = T.vm := Stand.throwing_vm T g x
  have hheapu : ((T.setTop g).pushFrame (.throwing x)).heap = T.heap := Stand.throwing_heap T g x
  obtain ⟨vm2, hW2, hgo⟩ := gw_find (e := e) (f := g) (a := x) hown hpl hts hE (fun k h => by rw [hvm] at h; cases h) hs pcH ((T.setTop g).pushFrame (.throwing x)) (by rw [hvmu]; exact X.warmed) (by rw [hheapu]; exact hcell) hall hhd
  refine ⟨vm2, X.noted hW2, fun tg htg => ?_⟩
  have h : At T g.method c below := X.here
  obtain ⟨hgoes, hw⟩ := h.throwing x
  refine Steps.head hgoes hw ?_
  rw [stepThread_throwing (frames_entered h.top _), (gw_stepCatch (u := (T.setTop g).pushFrame (.throwing x)) (u' := ((T.setTop g).pushFrame (.throwing x)).setVm vm2) (pc := pcH) (fun Q EE d acts => by rw [W.findHandler_eq hmeth X.code, htl]; exact hgo Q EE d acts)).1]
  obtain ⟨g₀, hr⟩ := X.frames_eq
  have e1 : (((T.setTop g).pushFrame (.throwing x)).setVm vm2).setFrames (.java { g with pc := pcH, stack := [.ref x] } :: T.frames.tail) = (T.setVm vm2).setTop { g with pc := pcH, stack := [.ref x] } := by
    have hr' : (T.setVm vm2).frames = .java g₀ :: below := hr
    rw [State.setTop_of_frames _ hr', State.pushFrame, State.setTop_of_frames _ hr, State.setFrames_setFrames, hr]
    show ((T.setVm vm2).setFrames _).setFrames _ = _
    rw [State.setFrames_setFrames]
    rfl
  rw [e1]
  exact htg
end GH
