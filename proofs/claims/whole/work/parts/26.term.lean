/-! PURE, 6: a step with a term at hand -/
theorem Mo_room1 {τ : St} {th tr pl ln a b l3 : Nat} {x3 : Int32} (s2 : τ.1 1 = nI th) (s5 : τ.1 2 = nI tr) (s8 : τ.1 3 = nI pl) (s11 : τ.1 4 = nI ln) (e : nI ln + x3 = nI l3) (h1 : th + a ≤ 1000) (h2 : tr + a ≤ 300) (h3 : pl + b ≤ 1000) (h4 : l3 ≤ 300) : F_Mo_hasRoom τ (nI a) (nI b) x3 = some (1, τ) := by
  unfold F_Mo_hasRoom
  rw [s2, s5, s8, s11, e, nI_add, nI_add, nI_add]
  exact iN (nI_nlt (a := th + a) (b := 1000) |> fun f => (by exact nI_nlt (a := 1000) (b := th + a) h1 (by omega))) (iN (nI_nlt (a := 300) (b := tr + a) h2 (by omega)) (iN (nI_nlt (a := 1000) (b := pl + b) h3 (by omega)) (iN (nI_nlt (a := 300) (b := l3) h4 (by omega)) rfl)))
theorem Mo_room0 {τ : St} {th tr pl ln a b l3 : Nat} {x3 : Int32} (s2 : τ.1 1 = nI th) (s5 : τ.1 2 = nI tr) (s8 : τ.1 3 = nI pl) (s11 : τ.1 4 = nI ln) (e : nI ln + x3 = nI l3) (b1 : th + a < 2 ^ 31) (b2 : tr + a < 2 ^ 31) (b3 : pl + b < 2 ^ 31) (b4 : l3 < 2 ^ 31) (h : 1000 < th + a ∨ 300 < tr + a ∨ 1000 < pl + b ∨ 300 < l3) : F_Mo_hasRoom τ (nI a) (nI b) x3 = some (0, sv τ 13 5) := by
  unfold F_Mo_hasRoom
  rw [s2, s5, s8, s11, e, nI_add, nI_add, nI_add]
  by_cases h1 : 1000 < th + a
  · exact ip (nI_lt (a := 1000) h1 b1) rfl
  refine iN (nI_nlt (a := 1000) (b := th + a) (by omega) (by omega)) ?_
  by_cases h2 : 300 < tr + a
  · exact ip (nI_lt (a := 300) h2 b2) rfl
  refine iN (nI_nlt (a := 300) (b := tr + a) (by omega) (by omega)) ?_
  by_cases h3 : 1000 < pl + b
  · exact ip (nI_lt (a := 1000) h3 b3) rfl
  refine iN (nI_nlt (a := 1000) (b := pl + b) (by omega) (by omega)) ?_
  exact ip (nI_lt (a := 300) (b := l3) (by omega) b4) rfl
theorem Th_room1 {σ : St} {th tr a : Nat} (s1 : σ.1 14 = nI th) (s4 : σ.1 15 = nI tr) (h1 : th + a ≤ 1000) (h2 : tr + a ≤ 300) : F_Th_hasRoomFor σ (nI a) = some (1, σ) := by
  unfold F_Th_hasRoomFor
  rw [s1, s4, nI_add, nI_add]
  exact iN (nI_nlt (a := 1000) (b := th + a) h1 (by omega)) (iN (nI_nlt (a := 300) (b := tr + a) h2 (by omega)) rfl)
theorem Th_room0 {σ : St} {th tr a : Nat} (s1 : σ.1 14 = nI th) (s4 : σ.1 15 = nI tr) (b1 : th + a < 2 ^ 31) (b2 : tr + a < 2 ^ 31) (h : 1000 < th + a ∨ 300 < tr + a) : F_Th_hasRoomFor σ (nI a) = some (0, σ) := by
  unfold F_Th_hasRoomFor
  rw [s1, s4, nI_add, nI_add]
  by_cases h1 : 1000 < th + a
  · exact ip (nI_lt (a := 1000) h1 b1) rfl
  · exact iN (nI_nlt (a := 1000) (b := th + a) (by omega) (by omega)) (ip (nI_lt (a := 300) (b := tr + a) (by omega) b2) rfl)
theorem Ro_full0 {σ : St} {ln : Nat} (s : σ.1 17 = nI ln) (h : ln < 300) : F_Ro_isFull σ = some (0, σ) := ip (by rw [s]; exact nI_lt (b := 300) h (by omega)) rfl
theorem Ro_full1 {σ : St} {ln : Nat} (s : σ.1 17 = nI ln) (h : ln = 300) : F_Ro_isFull σ = some (1, σ) := iN (by rw [s]; exact nI_nlt (b := 300) (by omega) (by omega)) rfl
theorem Pl_full0 {σ : St} {pl : Nat} (s : σ.1 13 = nI pl) (h : pl < 1000) : F_Pl_isFull σ = some (0, σ) := ip (by rw [s]; exact nI_lt (b := 1000) h (by omega)) rfl
theorem Pl_full1 {σ : St} {pl : Nat} (s : σ.1 13 = nI pl) (h : pl = 1000) : F_Pl_isFull σ = some (1, σ) := iN (by rw [s]; exact nI_nlt (b := 1000) (by omega) (by omega)) rfl
/-- is a part's thing new -/
theorem new_ok {tm : Nat} {lk : Nat → Nat} {σ τ : St} (hT : TR tm lk σ τ) {a : Nat} (ha : a < tm) :
    ∃ n : Nat, n ≤ 1 ∧ F_Wa_newThingsFor σ (nI a) = some (nI n, σ) ∧ F_Mo_isNew τ (nI a) = some (nI n, τ) ∧ ((n = 0 ∧ σ.2.1 0 a = 1 ∧ ∃ i : Nat, i ≤ 60 ∧ σ.2.1 1 a = nI i ∧ τ.2.1 1 a = nI i ∧ lk a = i + 1) ∨ (n = 1 ∧ ¬ σ.2.1 0 a = 1)) := by
  obtain ⟨c1, c2, hR⟩ := hT
  have h2 := hR.1
  have ec : (nI a).toNatClampNeg = a := nI_clamp (by omega)
  obtain ⟨g0, -⟩ := Te_get c1 hR.1 ha
  obtain ⟨-, -, -, q⟩ := hR.2 a ha
  have alt : (σ.2.1 0 a = 1 ∧ τ.2.1 0 a = 1 ∧ ∃ i : Nat, i ≤ 60 ∧ σ.2.1 1 a = nI i ∧ τ.2.1 1 a = nI i ∧ lk a = i + 1) ∨ (¬ σ.2.1 0 a = 1 ∧ ¬ τ.2.1 0 a = 1) := by
    rcases q with ⟨x, y, _⟩ | ⟨x, y, z⟩ | ⟨x, y, _⟩ | ⟨x, y, _⟩ | ⟨x, y, _⟩ | ⟨x, y, _⟩ | ⟨x, y, _⟩ | ⟨x, y, _⟩ | ⟨x, o, ho, y, _⟩ | ⟨x, y, _⟩
    · right; rw [x, y]; decide
    · exact Or.inl ⟨x, y, z⟩
    · right; rw [x, y]; decide
    · right; rw [x, y]; decide
    · right; rw [x, y]; decide
    · right; rw [x, y]; decide
    · right; rw [x, y]; decide
    · right; rw [x, y]; decide
    · right; rw [x, y]; exact ⟨by decide, nI_ne (b := 1) (by omega) (by omega) (by omega)⟩
    · right; rw [x, y]; decide
  rcases alt with ⟨x, y, z⟩ | ⟨x, y⟩
  · exact ⟨0, by omega, bi g0 (ip x rfl), ig (by omega) (by omega) (ip (by rw [ec]; exact y) rfl), Or.inl ⟨rfl, x, z⟩⟩
  · exact ⟨1, by omega, bi g0 (iN x rfl), ig (by omega) (by omega) (iN (by rw [ec]; exact y) rfl), Or.inr ⟨rfl, x⟩⟩
def Fr (σ σ' : St) : Prop := (∀ j, j ≠ 14 → j ≠ 15 → σ'.1 j = σ.1 j) ∧ (∀ j, j < 8 → σ'.2.1 j = σ.2.1 j) ∧ σ'.2.2 = σ.2.2
def FrM (τ τ' : St) : Prop := (∀ j, j ≠ 1 → j ≠ 2 → τ'.1 j = τ.1 j) ∧ (∀ j, j < 5 → τ'.2.1 j = τ.2.1 j) ∧ τ'.2.2 = τ.2.2
theorem Fr_t (σ : St) (th tr : Nat) (t x : Int32) : Fr σ (tC σ th tr t x) := by
  refine ⟨fun j h1 h2 => ?_, fun j hj => ?_, rfl⟩
  · show up (up σ.1 14 _) 15 _ j = _
    rw [up_ne _ _ h2, up_ne _ _ h1]
  · show up (up (up (up (up (up σ.2.1 8 _) 9 _) 10 _) 11 _) 12 _) 17 _ j = _
    rw [up_ne _ _ (by omega), up_ne _ _ (by omega), up_ne _ _ (by omega), up_ne _ _ (by omega), up_ne _ _ (by omega), up_ne _ _ (by omega)]
theorem FrM_t (τ : St) (th tr : Nat) (t x : Int32) : FrM τ (tM τ th tr t x) := by
  refine ⟨fun j h1 h2 => ?_, fun j hj => ?_, rfl⟩
  · show up (up τ.1 1 _) 2 _ j = _
    rw [up_ne _ _ h2, up_ne _ _ h1]
  · show up (up (up (up (up (up τ.2.1 5 _) 6 _) 7 _) 11 _) 13 _) 12 _ j = _
    rw [up_ne _ _ (by omega), up_ne _ _ (by omega), up_ne _ _ (by omega), up_ne _ _ (by omega), up_ne _ _ (by omega), up_ne _ _ (by omega)]
theorem pk2 {o o' : Option St} {P : St → St → Prop} {σ' τ' : St} (h1 : o = some σ') (h2 : o' = some τ') (h3 : P σ' τ') : ∃ σ' τ', o = some σ' ∧ o' = some τ' ∧ P σ' τ' := ⟨σ', τ', h1, h2, h3⟩
section
variable {R tm : Nat} {lk : Nat → Nat} {th tr pl ln gr gm : Nat} {GP : Nat → Prop} {σ τ : St}
theorem thing_for (h : Mid R tm lk th tr pl ln gr gm GP σ τ) {a d n : Nat} {x : Int32} (e4 : σ.1 4 = x) (e8 : τ.1 8 = x) (ht : TD tm lk a d) (hd : Dp (σ.2.1 6) pl x d) (hx : Pv GP x) (h1 : th + n ≤ 1000) (h2 : tr + n ≤ 300) (nn : F_Mo_isNew τ (nI a) = some (nI n, τ))
    (hn : (n = 0 ∧ σ.2.1 0 a = 1 ∧ ∃ i : Nat, i ≤ 60 ∧ σ.2.1 1 a = nI i ∧ τ.2.1 1 a = nI i ∧ lk a = i + 1) ∨ (n = 1 ∧ ¬ σ.2.1 0 a = 1)) :
    ∃ (σ' τ' : St) (k : Nat), F_Wa_thingFor σ (nI a) = some (nI k, σ') ∧ F_Mo_thingOf τ (nI a) = some (nI k, τ') ∧ Mid R tm lk (th + n) (tr + n) pl ln gr gm GP σ' τ' ∧ k < th + n ∧ σ'.2.1 8 k ≠ 3 ∧ (∀ j, j < th → σ.2.1 8 j ≠ 3 → σ'.2.1 8 j ≠ 3) ∧ Fr σ σ' ∧ FrM τ τ' := by
  obtain ⟨⟨c1, c2, hR⟩, hA, ⟨s1, s2, s3, s4, s5, s6, s7⟩, hP, hK, hE, hL⟩ := id h
  have hr2 := hR.1
  obtain ⟨ha, hla⟩ := id ht
  have ec : (nI a).toNatClampNeg = a := nI_clamp (by omega)
  obtain ⟨g0, g1, -⟩ := Te_get c1 hR.1 ha
  rcases hn with ⟨rfl, x0, i, hi, x1, y1, hl⟩ | ⟨rfl, x0⟩
  · obtain ⟨k, k1, k2, k3, k4⟩ := thing_at0 h (i := i) hi hd (by omega) hx
    exact ⟨σ, τ, k, bi g0 (ip x0 (bi (by rw [g1, x1]) (bi (by rw [e4]; exact k3) rfl))), bi nn (ip rfl (ig (by omega) (by omega) (bi (by rw [ec, y1, e8]; exact k4) rfl))), h, k1, k2, fun _ _ z => z, ⟨fun _ _ _ => rfl, fun _ _ => rfl, rfl⟩, ⟨fun _ _ _ => rfl, fun _ _ => rfl, rfl⟩⟩
  · refine ⟨_, _, th, bi g0 (iN x0 (bi (by rw [e4]; exact Th_add s1 s4 (by omega) (by omega) _ _) rfl)), bi nn (iN (by decide) (bi (by rw [e8]; exact Mo_newThing s2 s5 (by omega) _ _) rfl)), Mid_thing h (by omega) (by omega) ht hd hx, by omega, by show upd (σ.2.1 8) th 0 th ≠ 3; rw [pk_us]; decide, fun j hj z => by show upd (σ.2.1 8) th 0 j ≠ 3; rw [pk_un (by omega)]; exact z, Fr_t _ _ _ _ _, FrM_t _ _ _ _ _⟩
/-- FIRST, SECOND, ACT, CHOOSE: an entry, and the first part at hand -/
theorem enter_ok (h : Mid R tm lk th tr pl ln gr gr GP σ τ) (hH : HH tm lk th pl GP σ τ) (hh : σ.1 2 = 0) (hh' : τ.1 6 = 0) (o : σ.1 0 = 1) (o' : τ.1 13 = 1) {t a d : Nat} {x : Int32} (e3 : σ.1 3 = nI t) (e4 : σ.1 4 = x) (e8 : τ.1 8 = x) (htm : t < tm) (hta : TD tm lk a d) (hd : Dp (σ.2.1 6) pl x d) (hx : Pv GP x)
    (x1 : σ.2.1 1 t = nI a) (kd : Int32) {e : Int32} (hy : (kd = 14 ∧ τ.2.1 3 t = nI a) ∨ (¬ kd = 14 ∧ τ.2.1 1 t = nI a))
    (he : RE (TD tm lk) (AT tm (σ.2.1 0)) (CH tm (σ.2.1 0)) th (σ.1 1) (σ.2.1 8) (σ.2.1 6) pl GP e (nI t) x 0 e (nI t) x 0) :
    ∃ σ' τ', F_Wa_enter σ e = some σ' ∧ ((F_Mo_hasRoom τ 0 0 1 = some (1, τ) ∧ K_Mo_goOnWithTerm_333 τ (nI t) kd e = some τ') ∨ F_Mo_hasRoom τ 0 0 1 = some (0, τ')) ∧ Post R tm lk gr σ' τ' := by
  obtain ⟨⟨c1, c2, hR⟩, hA, ⟨s1, s2, s3, s4, s5, s6, s7, s8, s9, s10, s11, s12, s13, s14, s15, s16, s17⟩, hP, hK, hE, hL⟩ := id h
  have hr2 := hR.1
  have ec : (nI t).toNatClampNeg = t := nI_clamp (by omega)
  by_cases hl : ln < 300
  · have hM := Mid_push h hl he
    obtain ⟨-, g1, -⟩ := Te_get (σ := pC σ ln e (nI t) x 0 (max gr (ln + 1))) c1 hr2 htm
    refine ⟨sv (pC σ ln e (nI t) x 0 (max gr (ln + 1))) 3 (σ.2.1 1 t), sv (sv (sv (pM τ ln e (nI t) x 0) 6 0) 7 (nI a)) 8 x, bi (Ro_full0 s10 hl) (ip rfl (bv (by rw [e3, e4]; exact Ro_add s10 s13 hl s16 _ _ _ _) (bi (by show F_Te_firstOf _ (σ.1 3) = _; rw [e3]; exact g1) rfl))), Or.inl ⟨Mo_room1 (a := 0) (b := 0) s2 s5 s8 s11 (nI_1 ln) (by omega) (by omega) (by omega) (by omega), ?_⟩, th, tr, pl, ln + 1, max gr (ln + 1), GP, hM, Or.inl ⟨hh, x1, e4, by show Pv GP (σ.1 4); rw [e4]; exact hx, a, d, x1, hta, by show Dp (σ.2.1 6) pl (σ.1 4) d; rw [e4]; exact hd⟩, hh, o.trans o'.symm, Or.inl o⟩
    unfold K_Mo_goOnWithTerm_333
    rw [e8, ec]
    refine bv (Mo_push s11 hl _ _ _ _) ?_
    have q3 : (pM τ ln e (nI t) x 0).2.1 3 t = τ.2.1 3 t := rfl
    have q1 : (pM τ ln e (nI t) x 0).2.1 1 t = τ.2.1 1 t := rfl
    have q8 : (pM τ ln e (nI t) x 0).1 8 = τ.1 8 := rfl
    rcases hy with ⟨hk, y⟩ | ⟨hk, y⟩
    · exact ip hk (ig (by omega) (by omega) (by rw [q3, q8, y, e8]; rfl))
    · exact iN hk (ig (by omega) (by omega) (by rw [q1, q8, y, e8]; rfl))
  · exact ⟨_, _, bi (Ro_full1 s10 (by omega)) (iN one_ne0 rfl), Or.inr (Mo_room0 (a := 0) (b := 0) s2 s5 s8 s11 (nI_1 ln) (by omega) (by omega) (by omega) (by omega) (Or.inr (Or.inr (Or.inr (by omega))))), th, tr, pl, ln, gr, GP, h, hH, hh.trans hh'.symm, rfl, Or.inr (Or.inr (Or.inr rfl))⟩
theorem act_k : ∀ o, o < 6 → ¬ nI (8 + o) = 0 ∧ ¬ nI (8 + o) = 2 ∧ ¬ nI (8 + o) = 1 ∧ ¬ nI (8 + o) = 7 ∧ ¬ nI (8 + o) = 5 ∧ ¬ nI (8 + o) = 6 ∧ ¬ nI (8 + o) = 14 ∧ ¬ nI (8 + o) = 3 ∧ ¬ nI (8 + o) = 4 := by decide +kernel
theorem step_term (h : Mid R tm lk th tr pl ln gr gr GP σ τ) (hH : HH tm lk th pl GP σ τ) (hh : σ.1 2 = 0) (hh' : τ.1 6 = 0) (o : σ.1 0 = 1) (o' : τ.1 13 = 1) {t d : Nat} {x : Int32} (e3 : σ.1 3 = nI t) (e7 : τ.1 7 = nI t) (e4 : σ.1 4 = x) (e8 : τ.1 8 = x) (ht : TD tm lk t d) (hd : Dp (σ.2.1 6) pl x d) (hx : Pv GP x) :
    ∃ σ' τ', F_Wa_stepWithTerm σ = some σ' ∧ F_Mo_goOnWithTerm τ = some τ' ∧ Post R tm lk gr σ' τ' := by
  obtain ⟨⟨c1, c2, hR⟩, hA, ⟨s1, s2, s3, s4, s5, s6, s7, s8, s9, s10, s11, s12, s13, s14, s15, s16, s17⟩, hP, hK, hE, hL⟩ := id h
  have hr2 := hR.1
  obtain ⟨htm, hlt⟩ := id ht
  have ec : (nI t).toNatClampNeg = t := nI_clamp (by omega)
  obtain ⟨g0, g1, g2, g3, g4, g5⟩ := Te_get c1 hr2 htm
  have G0 : F_Te_sortOf σ (σ.1 3) = some (σ.2.1 0 t, σ) := by rw [e3]; exact g0
  have i2 : t < 200 := by omega
  have j2 : (200 : Nat) < 2 ^ 31 := by omega
  have hh2 : σ.1 2 = τ.1 6 := hh.trans hh'.symm
  obtain ⟨-, -, -, q⟩ := hR.2 t htm
  have hMo : ∀ y, τ.2.1 0 t = y → ∀ z, F_Mo_goOnWithTerm τ = z → F_Mo_goOnWithTerm τ = z := fun _ _ _ q => q
  rcases q with ⟨k0, y0, kn⟩ | ⟨k0, y0, i, hi, k1, y1, hl⟩ | ⟨k0, y0, a, ha, k1, y1, hl⟩ | ⟨k0, y0, a, ha, k1, y1, hl⟩ | ⟨k0, y0, a, ha, k1, y1, hl⟩ | ⟨k0, y0, a, b, ha, hb, k1, y1, k2, y2, hl, hl2⟩ | ⟨k0, y0, a, b, ha, hb, k1, y1, k2, y2, hl, hl2⟩ | ⟨k0, y0, a, b, ha, hb, k1, y1, k2, y2, hl, hl2⟩ | ⟨k0, oo, ho, y0, k3, a, b, ha, hb, k1, y1, k2, y2, hl, hl2⟩ | ⟨k0, y0, c, a, b, hc, ha, hb, k1, y3, k2, y1, k3, y2, hl, hl2, hl3⟩
  · -- NUMBER
    refine pk2 (bi (by rw [G0, k0]) (ip rfl (bi (by rw [e3]; exact g5) (bv (bv rfl rfl) rfl)))) (by unfold F_Mo_goOnWithTerm; rw [e7, ec, y0]; exact ig i2 j2 (ip rfl (ig i2 j2 (bv rfl rfl)))) ?_
    exact ⟨th, tr, pl, ln, gr, GP, h, Or.inr (Or.inl ⟨rfl, rfl, Or.inl ⟨rfl, kn⟩⟩), rfl, o.trans o'.symm, Or.inl o⟩
  · -- VARIABLE
    obtain ⟨k, v1, v2, v3, v4⟩ := thing_at0 h (i := i) hi hd (by omega) hx
    obtain ⟨σ', τ', n1, n2, n3⟩ := need_ok h hH hh2 o o' v1 v2 (Or.inl rfl)
    exact ⟨σ', τ', bi (by rw [G0, k0]) (iN (by decide) (ip rfl (bi (by rw [e3, g1, k1]) (bi (by rw [e4]; exact v3) (bv n1 rfl))))), by unfold F_Mo_goOnWithTerm; rw [e7, ec, y0]; exact ig i2 j2 (iN (by decide) (iN (by decide) (ip rfl (ig i2 j2 (bi (by rw [e8, y1]; exact v4) (bv n2 rfl)))))), n3⟩
  · -- LAMBDA
    refine pk2 (bi (by rw [G0, k0]) (iN (by decide) (iN (by decide) (ip rfl (bv (bv rfl rfl) rfl))))) (by unfold F_Mo_goOnWithTerm; rw [e7, ec, y0]; exact ig i2 j2 (iN (by decide) (ip rfl (ig i2 j2 (bv rfl rfl))))) ?_
    exact ⟨th, tr, pl, ln, gr, GP, h, Or.inr (Or.inl ⟨rfl, rfl, Or.inr (Or.inl ⟨rfl, e4.trans e8.symm, by show Pv GP (σ.1 4); rw [e4]; exact hx, t, a, d, e3, y1, ⟨htm, by omega, k1, by omega⟩, by show Dp (σ.2.1 6) pl (σ.1 4) d; rw [e4]; exact hd⟩)⟩), rfl, o.trans o'.symm, Or.inl o⟩
  · -- FIRST
    obtain ⟨σ', τ', n1, n2, n3⟩ := enter_ok h hH hh hh' o o' (a := a) (d := d) e3 e4 e8 htm ⟨by omega, by omega⟩ hd hx k1 3 (e := 5) (Or.inr ⟨by decide, y1⟩) ⟨rfl, Or.inr (Or.inr (Or.inr (Or.inr (Or.inr (Or.inl rfl)))))⟩
    refine ⟨σ', τ', bi (by rw [G0, k0]) (iN (by decide) (iN (by decide) (iN (by decide) (ip rfl (bv n1 rfl))))), ?_, n3⟩
    unfold F_Mo_goOnWithTerm; rw [e7, ec, y0]
    refine ig i2 j2 (iN (by decide) (iN (by decide) (iN (by decide) (iN (by decide) (iN (by decide) (iN (by decide) ?_))))))
    rcases n2 with ⟨n2, n4⟩ | n2
    · exact bi n2 (iN one_ne0 (iN (by decide) (ip rfl n4)))
    · exact bi n2 (ip rfl rfl)
  · -- SECOND
    obtain ⟨σ', τ', n1, n2, n3⟩ := enter_ok h hH hh hh' o o' (a := a) (d := d) e3 e4 e8 htm ⟨by omega, by omega⟩ hd hx k1 4 (e := 6) (Or.inr ⟨by decide, y1⟩) ⟨rfl, Or.inr (Or.inr (Or.inr (Or.inr (Or.inr (Or.inr rfl)))))⟩
    refine ⟨σ', τ', bi (by rw [G0, k0]) (iN (by decide) (iN (by decide) (iN (by decide) (iN (by decide) (ip rfl (bv n1 rfl)))))), ?_, n3⟩
    unfold F_Mo_goOnWithTerm; rw [e7, ec, y0]
    refine ig i2 j2 (iN (by decide) (iN (by decide) (iN (by decide) (iN (by decide) (iN (by decide) (iN (by decide) ?_))))))
    rcases n2 with ⟨n2, n4⟩ | n2
    · exact bi n2 (iN one_ne0 (iN (by decide) (iN (by decide) (ip rfl n4))))
    · exact bi n2 (ip rfl rfl)
  · -- APPLY
    obtain ⟨n, hn, w1, w2, w3⟩ := new_ok ⟨c1, c2, hR⟩ (show b < tm by omega)
    have En : ∀ z, K_Mo_goOnWithTerm_194 τ (nI t) (nI n) = z → F_Mo_goOnWithTerm τ = z := by
      intro z hz
      unfold F_Mo_goOnWithTerm; rw [e7, ec, y0]
      refine ig i2 j2 (iN (by decide) (iN (by decide) (iN (by decide) (iN (by decide) (ip rfl (ig i2 j2 (bi (by rw [y2]; exact w2) ?_)))))))
      rcases (show n = 0 ∨ n = 1 by omega) with rfl | rfl
      · exact ip rfl hz
      · exact iN (by decide) hz
    by_cases room : th + n ≤ 1000 ∧ tr + n ≤ 300
    · by_cases hl3 : ln < 300
      · obtain ⟨σ', τ', k, f1, f2, f3, f4, f5, f6, ⟨f7, f8, f9⟩, ⟨f10, f11, f12⟩⟩ := thing_for h (a := b) (d := d) e4 e8 ⟨by omega, by omega⟩ hd hx room.1 room.2 w2 w3
        obtain ⟨⟨d1, d2, dR⟩, dA, ⟨r1, r2, r3, r4, r5, r6, r7, r8, r9, r10, r11, r12, r13, r14, r15, r16, r17⟩, dP, dK, dE, dL⟩ := id f3
        have hM := Mid_push f3 hl3 (e := 1) (a := nI k) (b := -1) (v := 0) (a' := nI k) (b' := -1) (v' := 0) ⟨rfl, Or.inr (Or.inl ⟨rfl, rfl, k, f4, rfl, f5⟩)⟩
        obtain ⟨-, p1, -⟩ := Te_get (σ := pC σ' ln 1 (nI k) (-1) 0 (max gr (ln + 1))) d1 hr2 htm
        have x1 : σ'.2.1 1 t = nI a := by rw [f8 1 (by omega)]; exact k1
        have x4 : σ'.1 4 = x := by rw [f7 4 (by omega) (by omega)]; exact e4
        have x8 : τ'.1 8 = x := by rw [f10 8 (by omega) (by omega)]; exact e8
        have x6 : σ'.2.1 6 = σ.2.1 6 := f8 6 (by omega)
        refine pk2 (bi (by rw [G0, k0]) (iN (by decide) (iN (by decide) (iN (by decide) (iN (by decide) (iN (by decide) (ip rfl (bi (by rw [e3, g2, k2]) (bv (bi w1 (bi (Th_room1 s1 s4 room.1 room.2) (iN one_ne0 (bi (Ro_full0 s10 hl3) (ip rfl (bi f1 (bv (Ro_add r10 r13 hl3 r16 _ _ _ _) (bi (by show F_Te_firstOf _ (σ'.1 3) = _; rw [f7 3 (by omega) (by omega), e3]; exact p1) rfl)))))))) rfl))))))))) (En _ (bi (Mo_room1 (b := 0) s2 s5 s8 s11 (nI_1 ln) room.1 room.2 (by omega) (by omega)) (iN one_ne0 (ig i2 j2 (bi (by rw [ec, y2]; exact f2) (bv (Mo_push r11 hl3 _ _ _ _) (ig i2 j2 (bv rfl rfl)))))))) ?_
        refine ⟨_, _, _, _, _, _, hM, Or.inl ⟨by show σ'.1 2 = 0; rw [f7 2 (by omega) (by omega)]; exact hh, ?_, by show σ'.1 4 = τ'.1 8; rw [x4, x8], by show Pv GP (σ'.1 4); rw [x4]; exact hx, a, d, x1, ⟨by omega, by omega⟩, by show Dp (σ'.2.1 6) pl (σ'.1 4) d; rw [x4, x6]; exact hd⟩, by show σ'.1 2 = 0; rw [f7 2 (by omega) (by omega)]; exact hh, by show σ'.1 0 = τ'.1 13; rw [f7 0 (by omega) (by omega), f10 13 (by omega) (by omega), o, o'], Or.inl (by show σ'.1 0 = 1; rw [f7 0 (by omega) (by omega)]; exact o)⟩
        show σ'.2.1 1 t = τ'.2.1 1 (nI t).toNatClampNeg
        rw [ec, f11 1 (by omega), y1]; exact x1
      · refine ⟨_, _, bi (by rw [G0, k0]) (iN (by decide) (iN (by decide) (iN (by decide) (iN (by decide) (iN (by decide) (ip rfl (bi (by rw [e3, g2, k2]) (bv (bi w1 (bi (Th_room1 s1 s4 room.1 room.2) (iN one_ne0 (bi (Ro_full1 s10 (by omega)) (iN one_ne0 rfl))))) rfl)))))))), En _ (bi (Mo_room0 (b := 0) s2 s5 s8 s11 (nI_1 ln) (by omega) (by omega) (by omega) (by omega) (Or.inr (Or.inr (Or.inr (by omega))))) (ip rfl rfl)), th, tr, pl, ln, gr, GP, h, hH, hh2, rfl, Or.inr (Or.inr (Or.inr rfl))⟩
    · refine ⟨_, _, bi (by rw [G0, k0]) (iN (by decide) (iN (by decide) (iN (by decide) (iN (by decide) (iN (by decide) (ip rfl (bi (by rw [e3, g2, k2]) (bv (bi w1 (bi (Th_room0 s1 s4 (by omega) (by omega) (by omega)) (ip rfl rfl))) rfl)))))))), En _ (bi (Mo_room0 (b := 0) s2 s5 s8 s11 (nI_1 ln) (by omega) (by omega) (by omega) (by omega) (by omega)) (ip rfl rfl)), th, tr, pl, ln, gr, GP, h, hH, hh2, rfl, Or.inr (Or.inr (Or.inr rfl))⟩
  · -- LET
    have En : ∀ z, (gw_bind (F_Mo_hasRoom τ 1 1 0) fun r25 σ26 => if r25 = 0 then some σ26 else gw_bind (F_Mo_newPlace σ26 (σ26.1 1) (σ26.1 8)) fun r29 σ30 => if gw_in (nI t) 200 then gw_bind (F_Mo_newThing σ30 (σ30.2.1 1 t) r29) fun r33 σ34 => if gw_in (nI t) 200 then gw_bindv (F_Mo_atHand σ34 (σ34.2.1 2 t) r29) fun σ37 => some σ37 else none else none) = z → F_Mo_goOnWithTerm τ = z := by
      intro z hz
      unfold F_Mo_goOnWithTerm; rw [e7, ec, y0]
      exact ig i2 j2 (iN (by decide) (iN (by decide) (iN (by decide) (iN (by decide) (iN (by decide) (ip rfl hz))))))
    by_cases room : th + 1 ≤ 1000 ∧ tr + 1 ≤ 300
    · by_cases hp3 : pl < 1000
      · have hM := Mid_let h hp3 (by omega) (by omega) (t := a) (d := d) (x := x) ⟨by omega, by omega⟩ hd hx
        refine pk2 (bi (by rw [G0, k0]) (iN (by decide) (iN (by decide) (iN (by decide) (iN (by decide) (iN (by decide) (iN (by decide) (ip rfl (bi (by rw [e3, g1, k1]) (bi (by rw [e3, g2, k2]) (bv (bi (Th_room1 (a := 1) s1 s4 room.1 room.2) (iN one_ne0 (bi (Pl_full0 s7 hp3) (ip rfl (bi (by rw [s1, e4]; exact Pl_add s7 hp3 _ _) (bi (Th_add (σ := lC σ pl (nI th) x) s1 s4 (by omega) (by omega) _ _) (bv rfl rfl))))))) rfl))))))))))) (En _ (bi (Mo_room1 (a := 1) (b := 1) s2 s5 s8 s11 (l3 := ln) (x3 := 0) (nI_add ln 0) room.1 room.2 (by omega) (by omega)) (iN one_ne0 (bi (by rw [s2, e8]; exact Mo_newPlace s8 hp3 _ _) (ig i2 j2 (bi (by rw [show (lM τ pl (nI th) x).2.1 1 t = τ.2.1 1 t from rfl, y1]; exact Mo_newThing (τ := lM τ pl (nI th) x) s2 s5 (by omega) _ _) (ig i2 j2 (bv rfl rfl)))))))) ?_
        refine ⟨_, _, _, _, _, _, hM, Or.inl ⟨rfl, y2.symm, rfl, Or.inr ⟨pl, rfl, Or.inr rfl⟩, b, d + 1, rfl, ⟨by omega, by omega⟩, ⟨pl, by omega, rfl, ?_⟩⟩, rfl, o.trans o'.symm, Or.inl o⟩
        show Dp (upd (σ.2.1 6) pl x) (pl + 1) (upd (σ.2.1 6) pl x pl) d
        rw [pk_us]
        exact Dp_ext (by omega) (fun p hp => pk_un (by omega)) _ _ hd
      · refine ⟨_, _, bi (by rw [G0, k0]) (iN (by decide) (iN (by decide) (iN (by decide) (iN (by decide) (iN (by decide) (iN (by decide) (ip rfl (bi (by rw [e3, g1, k1]) (bi (by rw [e3, g2, k2]) (bv (bi (Th_room1 (a := 1) s1 s4 room.1 room.2) (iN one_ne0 (bi (Pl_full1 s7 (by omega)) (iN one_ne0 rfl)))) rfl)))))))))), En _ (bi (Mo_room0 (a := 1) (b := 1) s2 s5 s8 s11 (l3 := ln) (x3 := 0) (nI_add ln 0) (by omega) (by omega) (by omega) (by omega) (Or.inr (Or.inr (Or.inl (by omega))))) (ip rfl rfl)), th, tr, pl, ln, gr, GP, h, hH, hh2, rfl, Or.inr (Or.inr (Or.inr rfl))⟩
    · refine ⟨_, _, bi (by rw [G0, k0]) (iN (by decide) (iN (by decide) (iN (by decide) (iN (by decide) (iN (by decide) (iN (by decide) (ip rfl (bi (by rw [e3, g1, k1]) (bi (by rw [e3, g2, k2]) (bv (bi (Th_room0 (a := 1) s1 s4 (by omega) (by omega) (by omega)) (ip rfl rfl)) rfl)))))))))), En _ (bi (Mo_room0 (a := 1) (b := 1) s2 s5 s8 s11 (l3 := ln) (x3 := 0) (nI_add ln 0) (by omega) (by omega) (by omega) (by omega) (by omega)) (ip rfl rfl)), th, tr, pl, ln, gr, GP, h, hH, hh2, rfl, Or.inr (Or.inr (Or.inr rfl))⟩
  · -- PAIR
    obtain ⟨n, hn, w1, w2, w3⟩ := new_ok ⟨c1, c2, hR⟩ (show a < tm by omega)
    obtain ⟨m, hm, v1, v2, v3⟩ := new_ok ⟨c1, c2, hR⟩ (show b < tm by omega)
    have En : ∀ z, K_Mo_goOnWithTerm_126 τ (nI t) (nI m) (nI n) = z → F_Mo_goOnWithTerm τ = z := by
      intro z hz
      unfold F_Mo_goOnWithTerm; rw [e7, ec, y0]
      refine ig i2 j2 (iN (by decide) (iN (by decide) (iN (by decide) (ip rfl (ig i2 j2 (bi (by rw [y1]; exact w2) ?_))))))
      have E2 : ∀ nn : Int32, nn = nI n → K_Mo_goOnWithTerm_108 τ (nI t) nn = z := by
        intro nn hnn
        subst hnn
        unfold K_Mo_goOnWithTerm_108
        rw [ec]
        refine ig i2 j2 (bi (by rw [y2]; exact v2) ?_)
        rcases (show m = 0 ∨ m = 1 by omega) with rfl | rfl
        · exact ip rfl hz
        · exact iN (by decide) hz
      rcases (show n = 0 ∨ n = 1 by omega) with rfl | rfl
      · exact ip rfl (E2 _ rfl)
      · exact iN (by decide) (E2 _ rfl)
    by_cases room : th + (n + m) ≤ 1000 ∧ tr + (n + m) ≤ 300
    · obtain ⟨σ', τ', k, f1, f2, f3, f4, f5, f6, ⟨f7, f8, f9⟩, ⟨f10, f11, f12⟩⟩ := thing_for h (a := a) (d := d) e4 e8 ⟨by omega, by omega⟩ hd hx (by omega) (by omega) w2 w3
      have x4 : σ'.1 4 = x := by rw [f7 4 (by omega) (by omega)]; exact e4
      have x8 : τ'.1 8 = x := by rw [f10 8 (by omega) (by omega)]; exact e8
      have x6 : σ'.2.1 6 = σ.2.1 6 := f8 6 (by omega)
      have v2' : F_Mo_isNew τ' (nI b) = some (nI m, τ') := by
        have hbb : (nI b).toNatClampNeg = b := nI_clamp (by omega)
        have z := v2
        unfold F_Mo_isNew at z ⊢
        rw [gw_ini (by omega) (by omega), hbb] at z ⊢
        rw [f11 0 (by omega)]
        by_cases kk : τ.2.1 0 b = 1
        · rw [if_pos kk] at z ⊢
          rw [(Prod.mk.inj (Option.some.inj z)).1]
        · rw [if_neg kk] at z ⊢
          rw [(Prod.mk.inj (Option.some.inj z)).1]
      obtain ⟨σ2, τ2, k', p1, p2, p3, p4, p5, p6, ⟨p7, p8, p9⟩, ⟨p10, p11, p12⟩⟩ := thing_for f3 (a := b) (d := d) (n := m) x4 x8 ⟨by omega, by omega⟩ (by rw [x6]; exact hd) hx (by omega) (by omega) v2' (by rw [f8 0 (by omega), f8 1 (by omega), f11 1 (by omega)]; exact v3)
      refine pk2 (bi (by rw [G0, k0]) (iN (by decide) (iN (by decide) (iN (by decide) (iN (by decide) (iN (by decide) (iN (by decide) (iN (by decide) (ip rfl (bi (by rw [e3, g1, k1]) (bi (by rw [e3, g2, k2]) (bv (bi w1 (bi v1 (bi (by rw [nI_add]; exact Th_room1 s1 s4 room.1 room.2) (iN one_ne0 (bi f1 (bi p1 (bv (bv rfl rfl) rfl))))))) rfl)))))))))))) (En _ (bi (by rw [nI_add]; exact Mo_room1 (b := 0) s2 s5 s8 s11 (l3 := ln) (x3 := 0) (nI_add ln 0) room.1 room.2 (by omega) (by omega)) (iN one_ne0 (ig i2 j2 (bi (by rw [ec, y1]; exact f2) (ig i2 j2 (bi (by rw [ec, f11 2 (by omega), y2]; exact p2) (bv rfl rfl)))))))) ?_
      exact ⟨_, _, _, _, _, _, p3, Or.inr (Or.inl ⟨rfl, rfl, Or.inr (Or.inr ⟨rfl, k, k', by omega, by omega, rfl, rfl, rfl, rfl, p6 k f4 f5, p5⟩)⟩), rfl, by show σ2.1 0 = τ2.1 13; rw [p7 0 (by omega) (by omega), p10 13 (by omega) (by omega), f7 0 (by omega) (by omega), f10 13 (by omega) (by omega), o, o'], Or.inl (by show σ2.1 0 = 1; rw [p7 0 (by omega) (by omega), f7 0 (by omega) (by omega)]; exact o)⟩
    · refine pk2 (bi (by rw [G0, k0]) (iN (by decide) (iN (by decide) (iN (by decide) (iN (by decide) (iN (by decide) (iN (by decide) (iN (by decide) (ip rfl (bi (by rw [e3, g1, k1]) (bi (by rw [e3, g2, k2]) (bv (bi w1 (bi v1 (bi (by rw [nI_add]; exact Th_room0 s1 s4 (by omega) (by omega) (by omega)) (ip rfl rfl)))) rfl)))))))))))) (En _ (bi (by rw [nI_add]; exact Mo_room0 (b := 0) s2 s5 s8 s11 (l3 := ln) (x3 := 0) (nI_add ln 0) (by omega) (by omega) (by omega) (by omega) (by omega)) (ip rfl rfl))) ?_
      exact ⟨th, tr, pl, ln, gr, GP, h, hH, hh2, rfl, Or.inr (Or.inr (Or.inr rfl))⟩
  · -- ACT
    obtain ⟨b0, b2, b1, b7, b5, b6, b14, b3, b4⟩ := act_k oo ho
    obtain ⟨σ', τ', n1, n2, n3⟩ := enter_ok h hH hh hh' o o' (a := a) (d := d) e3 e4 e8 htm ⟨by omega, by omega⟩ hd hx k1 (nI (8 + oo)) (e := 2) (Or.inr ⟨b14, y1⟩) ⟨rfl, Or.inr (Or.inr (Or.inl ⟨rfl, rfl, rfl, hx, t, d, rfl, ⟨htm, k0⟩, ht, hd⟩))⟩
    refine ⟨σ', τ', bi (by rw [G0, k0]) (iN (by decide) (iN (by decide) (iN (by decide) (iN (by decide) (iN (by decide) (iN (by decide) (iN (by decide) (iN (by decide) (ip rfl (bv n1 rfl)))))))))), ?_, n3⟩
    unfold F_Mo_goOnWithTerm; rw [e7, ec, y0]
    refine ig i2 j2 (iN b0 (iN b2 (iN b1 (iN b7 (iN b5 (iN b6 ?_))))))
    rcases n2 with ⟨n2, n4⟩ | n2
    · exact bi n2 (iN one_ne0 (iN b14 (iN b3 (iN b4 n4))))
    · exact bi n2 (ip rfl rfl)
  · -- CHOOSE
    obtain ⟨σ', τ', n1, n2, n3⟩ := enter_ok h hH hh hh' o o' (a := c) (d := d) e3 e4 e8 htm ⟨by omega, by omega⟩ hd hx k1 14 (e := 4) (Or.inl ⟨rfl, y3⟩) ⟨rfl, Or.inr (Or.inr (Or.inr (Or.inr (Or.inl ⟨rfl, rfl, rfl, hx, t, d, rfl, ⟨htm, k0⟩, ht, hd⟩))))⟩
    refine ⟨σ', τ', bi (by rw [G0, k0]) (iN (by decide) (iN (by decide) (iN (by decide) (iN (by decide) (iN (by decide) (iN (by decide) (iN (by decide) (iN (by decide) (iN (by decide) (ip rfl (bv n1 rfl))))))))))), ?_, n3⟩
    unfold F_Mo_goOnWithTerm; rw [e7, ec, y0]
    refine ig i2 j2 (iN (by decide) (iN (by decide) (iN (by decide) (iN (by decide) (iN (by decide) (iN (by decide) ?_))))))
    rcases n2 with ⟨n2, n4⟩ | n2
    · exact bi n2 (iN one_ne0 (ip rfl n4))
    · exact bi n2 (ip rfl rfl)
end
