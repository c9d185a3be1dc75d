/-! THROWS, second: a walk begun again where it stands; the throw itself -/
section GT2
variable {p : Program} {l : Launch} {e : Env} {R : Room} {s : State} {m : MethodId} {args : Array Value} {below : List Frame} {meth : Method} {c : Code} {T : State} {locs : List Loc} {cells slots : Nat}
theorem gw_rebase (X : Stand p l e R s m args below meth c T locs cells slots) {R' : Room} (h1 : R'.frames ≤ R.frames) (h2 : R'.locals ≤ R.locals) (h3 : cells + R'.cells ≤ R.cells) (h4 : slots + R'.slots ≤ R.slots) : Stand p l e R' (T.setFrames (.invoking m args :: below)) m args below meth c T [] 0 0 := by
  obtain ⟨g₀, hfr⟩ := X.frames_eq
  have hcur : T.cur < T.threads.size := State.cur_lt_of_frames hfr
  have hf' : (T.setFrames (.invoking m args :: below)).frames = .invoking m args :: below := State.frames_setFrames _ hcur
  have hm : T.vm.method? m = some meth := X.method'
  have hal := X.warmed.alike
  have hv : ∀ x, T.vm.method? x = s.vm.method? x := fun x => hal.method? ..
  obtain ⟨th, hth, -⟩ := State.frames_cons hfr
  obtain ⟨th', hth', -⟩ := State.frames_cons hf'
  refine ⟨X.admits, X.cas, X.clock, hf', ?_, ?_, hm, X.code, X.here, X.tail, State.WarmedH.refl _, ?_, ?_, ?_⟩
  · have hr := X.room
    have hs1 := X.heapSize
    have hs2 := X.used
    have e1 := State.localsInUse_invoking (s := T.setFrames (.invoking m args :: below)) hf' hm X.code
    have e2 := State.localsInUse_invoking X.frames X.method X.code
    have e3 : e.platform.stackLimits (T.setFrames (.invoking m args :: below)).me = e.platform.stackLimits s.me := (State.stackLimits_setFrames ..).trans X.limits
    have e4 : (T.setFrames (.invoking m args :: below)).me.stackBytes = s.me.stackBytes := (State.stackBytes_setFrames ..).trans X.bytes
    simp only [State.hasRoom, Bool.and_eq_true, decide_eq_true_eq, e2, X.frames, List.length_cons] at hr
    simp only [State.hasRoom, Bool.and_eq_true, decide_eq_true_eq, e1, e3, e4, hf', List.length_cons]
    obtain ⟨⟨⟨⟨a1, a2, a3, a4, a5, a6⟩, a7⟩, a8⟩, a9⟩ := hr
    have b1 : (T.setFrames (.invoking m args :: below)).heap.size = T.heap.size := rfl
    have b2 : (T.setFrames (.invoking m args :: below)).slotsUsed = T.slotsUsed := rfl
    refine ⟨⟨⟨⟨by omega, by omega, by omega, by omega, by omega, a6⟩, by rw [b1]; omega⟩, by rw [b2]; omega⟩, X.book⟩
  · have hh := X.hears
    have hv' : ∀ x, (T.setFrames (.invoking m args :: below)).vm.method? x = s.vm.method? x := hv
    cases below with
    | nil => simp only [State.hears, hv'] at hh ⊢; exact hh
    | cons f r => cases f <;> simp only [State.hears, State.code?_eq, hv'] at hh ⊢ <;> exact hh
  · exact (State.stackLimits_setFrames ..).symm
  · exact (State.stackBytes_setFrames ..).symm
  · have h := (State.sameButNew.refl (T.setFrames (.invoking m args :: below)) hth').setFrames T.frames (State.cur_lt_of_frames hf')
    rw [State.setFrames_setFrames, State.setFrames_self hth] at h
    exact h
end GT2
section GT3
variable {p : Program} {l : Launch} {e : Env} {R : Room} {s : State} {m : MethodId} {args : Array Value} {below : List Frame} {meth : Method} {c : Code} {Q : State → Prop}
variable {cc : ByteArray} {nL : Nat} {own : String} {D : va_G} {cl : List vw_C} {tys : List (ClassId × FieldType)} {A : Nat → Prop} {cells slots : Nat} {ws ws' : va_W} {lv lv' : List (Nat × Value)} {pc : Nat} {st : List Value}
theorem gw_all_warm {U : State} {args' : Array Value} (h : ∀ w ∈ gw_all, w.before args s = true) (hW : s.WarmedH U.vm) : ∀ w ∈ gw_all, w.before args' U = true := by
  intro w hw
  cases hg : goodWord w with
  | true => exact pay_in (big := gw_all) (ws := [w]) h (fun v hv => by rw [List.mem_singleton] at hv; subst hv; exact ⟨hw, good_of_word hg⟩) w (List.mem_singleton.mpr rfl) args' U hW
  | false =>
    have h2 := (List.mem_filter.mp hw).2
    rw [hg] at h2
    exact va_Nw.use (gw_nest_on h2) (gw_E_warm hW (gw_E_of h) w hw h2)
theorem gw_throw (C : gw_CT l p s m args meth c cc nL own D cl tys A) {E tx : String} {k ic ix is : Nat} {wF : va_W} {oF : Option Value} (ho : own = "GraphWalker") (hX : gw_X k = E) (hk0 : k ≠ 0) (hfit : Bundle.fit E = true)
    (hwords : (Bundle.ownAtoms "GraphWalker" ic E gw_up).all gw_tk = true) (hcl : Cond.classLink own ix E ∈ gw_all) (hins : Cond.instantiable E 6 ∈ gw_all) (hini : Cond.initialized E ∈ gw_all) (hstr : Cond.stringRef own is tx ∈ lw_tbl)
    (hd0 : decode cc pc = .ok (.new ix, 3)) (hd1 : decode cc (pc + 3) = .ok (.dup, 1)) (hd2 : decode cc (pc + 3 + 1) = .ok (.ldc is, 2)) (hd3 : decode cc (pc + 3 + 1 + 2) = .ok (.invokespecial ic, 3)) (hd4 : decode cc (pc + 3 + 1 + 2 + 3) = .ok (.athrow, 1))
    (hem : c.exceptionTable.isEmpty = true) (hw : ws = wF) (hR : 6 ≤ R.frames) (hRl : 82 ≤ R.locals) (hc : cells + 1 ≤ R.cells) (hs : slots + 6 ≤ R.slots) :
    gw_W p l e R s m args below meth c D cl A (MQT below (gw_QcT D cl wF k oF A) args s (cells + 1) (slots + 6) A) cells slots nL ws lv pc [] := by
  subst hw
  obtain ⟨⟨hx, hb, hml, hown, hts, hK, hA, hlocks⟩, hF, hn, hfl⟩ := C
  intro H locs ls hP hD hS hl T hT X
  have hfl' : (T.setFrames (.invoking m args :: below)).vm = T.vm := rfl
  have X0 : Stand p l e { frames := R.frames, cells := 1, slots := 6, locals := R.locals } (T.setFrames (.invoking m args :: below)) m args below meth c T [] 0 0 := gw_rebase X (Nat.le_refl _) (Nat.le_refl _) hc hs
  have htr : e.platform.stackTraces = false := Launch.traces_off hfl X.admits
  have hal := X.warmed.alike
  have hts' : ∀ w ∈ gw_all, w.before args (T.setFrames (.invoking m args :: below)) = true := gw_all_warm (U := T.setFrames (.invoking m args :: below)) hts X.warmed
  have hkS : gw_keepS s.heap T.heap := by rw [hT]; exact gw_keep_of hS hn
  have hF' : gw_F (T.setFrames (.invoking m args :: below)) := gw_F_move (U := T.setFrames (.invoking m args :: below)) X.warmed hkS hF
  have hown' : (T.setFrames (.invoking m args :: below)).vm.findClass own = some m.cls := by rw [hfl', hal.findClass]; exact hown
  obtain ⟨vm₁, cX, kX, hfX, hkX, -, -, X₁, st1⟩ := X0.newCold hx (own := own) (C := E) (index := ix) (n := 6) hown' (hts' _ hcl) (hts' _ hins) (hts' _ hini) (g := F0 m pc ls []) rfl (by rw [hb]; exact hd0) (Nat.le_refl _) (Nat.le_refl _)
  generalize hT1 : (T.setVm vm₁).pushCell { cls := cX, slots := kX.instanceTypes.map defaultValue, vm := .none } = T₁ at X₁ st1
  have hcellA : T₁.heap[T.heap.size]? = some (freshCell cX kX) := by rw [← hT1]; exact State.heap_pushCell_size _ _
  obtain ⟨q, hq⟩ := hF'.2.2.2.2.2 own tx is hstr
  have final : W p l e { frames := R.frames, cells := 1, slots := 6, locals := R.locals } (T.setFrames (.invoking m args :: below)) m args below meth c T₁.heap [] (0 + 1) (0 + 6) (fun U => U.status = .running ∧ Ended U below (.threw T.heap.size) ∧ (T.setFrames (.invoking m args :: below)).WarmedH U.vm ∧ (T.setFrames (.invoking m args :: below)).sameButNew ({ U with vm := (T.setFrames (.invoking m args :: below)).vm } : State) [] (0 + 1) (0 + 6) ∧ ∃ ce, U.heap[T.heap.size]? = some ce ∧ Bundle.OwnCell args (T.setFrames (.invoking m args :: below)) E T.heap.size (.ref q) ce) (F0 m (pc + 3 + 1 + 2) ls [.ref q, .ref T.heap.size, .ref T.heap.size]) := by
    intro T2 hT2 X2
    obtain ⟨U, u1, u2, u3, u4, u5, u6⟩ := X2.ctorThrowS hx htr (own := "GraphWalker") (cls := E) (names := gw_up) (ic := ic) (ho ▸ hown') hfit (by decide +kernel) (gw_F_words hF' hwords) (fun y hy => by cases hy)
      hfX hkX (by rw [hT2]; exact hcellA) (Nat.le_refl _) (msg := .ref q) rfl (g := F0 m (pc + 3 + 1 + 2) ls [.ref q, .ref T.heap.size, .ref T.heap.size]) rfl (hl.1.trans hml.symm) rfl rfl (rest := []) rfl (by rw [hb]; exact hd3) (by rw [hb]; exact hd4)
      (covers_of_empty hem _) (show 2 + 3 < R.frames by omega) (show 0 + 1 + (13 * (2 + 1) + 42) ≤ R.locals by omega) hlocks
    exact ⟨U, u1, u2, u3, u4, u5, u6⟩
  have walk := lv_dup (ls := ls) (rest := []) hx hb hd1 rfl (va_ldcS (rest := [.ref T.heap.size, .ref T.heap.size]) hx hb hown' hq hd2 final)
  obtain ⟨U, u1, u2, u3, u4, u5, ce, u6, u7⟩ := walk T₁ rfl X₁
  have hB : T.sameButNew ({ U with vm := T.vm } : State) [] (0 + 1) (0 + 6) := by
    obtain ⟨e2, r2⟩ := u5
    refine ⟨?_, r2⟩
    rw [State.setFrames_setFrames] at e2
    exact e2
  have hB2 : s.sameButNew ({ U with vm := s.vm } : State) (locs ++ []) (cells + (0 + 1)) (slots + (0 + 6)) := X.same.trans (hB.setVm s.vm)
  rw [List.append_nil] at hB2
  have hWU : s.WarmedH U.vm := State.WarmedH.trans X.warmed (show T.WarmedH U.vm from u4)
  have hold : ∀ q : Nat, q < T.heap.size → U.heap[q]? = T.heap[q]? := by
    intro q hq
    have h1 : T.heap[q]? = some (T.heap[q]'hq) := Array.getElem?_eq_getElem hq
    rw [h1]
    exact State.sameButNew.old_cell hB h1
  have hsz : T.heap.size ≤ U.heap.size := hB.2.1
  refine ⟨U, st1 U u1, .threw T.heap.size, u2, u3, ⟨⟨Or.inr ⟨hk0, T.heap.size, ce, rfl, u6, u7.vm, ?_⟩, ?_, hD⟩, ?_, ?_⟩, locs, ⟨hWU, hB2⟩, hS.2.2⟩
  · rw [hX, ← hal.findClass]
    exact u7.cls
  · intro k2 q2 hq2
    have h1 := hP k2 q2 hq2
    have h2 := h1.lt
    rw [← hT] at h1 h2
    exact h1.kept (hold q2.1 h2)
  · exact Nat.le_trans hS.1 (by rw [← hT]; exact hsz)
  · intro q2 h1 h2
    rw [hold q2 (by rw [hT]; exact Nat.lt_of_lt_of_le h1 hS.1), hT]
    exact hS.2.1 q2 h1 h2
end GT3
