/-! PURE, 5: a thing needed -/
def Post (R tm : Nat) (lk : Nat → Nat) (gm : Nat) (σ τ : St) : Prop := ∃ (th tr pl ln gr : Nat) (GP : Nat → Prop), Mid R tm lk th tr pl ln gr gm GP σ τ ∧ HH tm lk th pl GP σ τ ∧ σ.1 2 = τ.1 6 ∧ σ.1 0 = τ.1 13 ∧ (σ.1 0 = 1 ∨ (σ.1 0 = 3 ∧ σ.1 9 = τ.1 18) ∨ σ.1 0 = 4 ∨ σ.1 0 = 5)
theorem thing_at {th pl : Nat} {GP : Nat → Prop} {σ τ : St} (c1 : σ.1 13 = nI pl) (hpl : pl ≤ 1000) (hP : RP th pl GP (σ.2.1 8) (σ.2.1 5) (σ.2.1 6) (τ.2.1 14) (τ.2.1 15)) :
    ∀ (m c f g : Nat) (x : Int32), c + m < 1000 → m < f → m < g → Dp (σ.2.1 6) pl x (m + 1) → Pv GP x → ∃ k : Nat, k < th ∧ σ.2.1 8 k ≠ 3 ∧ K_Pl_thingAt_5 f σ (nI (c + m)) x (nI c) = some (nI k, σ) ∧ K_Mo_thingOfPlace_5 g τ (nI (c + m)) x (nI c) = some (nI k, τ) := by
  intro m
  induction m with
  | zero =>
    intro c f g x hc hf hg hd hx
    cases f with
    | zero => omega
    | succ f => cases g with
      | zero => omega
      | succ g =>
        obtain ⟨p, hp, rfl, -⟩ := hd
        have hg : GP p := by
          rcases hx with hx | ⟨j, e, hj⟩
          · exact absurd hx (n1_ne' (by omega))
          · have := (hP.2 j hj).1
            have := (nI_eq (by omega) (by omega)).mp e
            subst this; exact hj
        obtain ⟨q1, q2, -⟩ := hP.1 p hp
        obtain ⟨-, ⟨k, k1, k2, k3⟩, -⟩ := hP.2 p hg
        have ec : (nI p).toNatClampNeg = p := nI_clamp (by omega)
        exact ⟨k, k1, k3, ip (nI_le (by omega) (by omega)) (bi (Pl_has c1 hpl hp) (iN one_ne0 (ig (by omega) (by omega) (by rw [ec, k2])))), ip (nI_le (by omega) (by omega)) (ig (by omega) (by omega) (by rw [ec, q1, k2]))⟩
  | succ m ih =>
    intro c f g x hc hf hg hd hx
    cases f with
    | zero => omega
    | succ f => cases g with
      | zero => omega
      | succ g =>
        obtain ⟨p, hp, rfl, hd⟩ := hd
        have hg : GP p := by
          rcases hx with hx | ⟨j, e, hj⟩
          · exact absurd hx (n1_ne' (by omega))
          · have := (hP.2 j hj).1
            have := (nI_eq (by omega) (by omega)).mp e
            subst this; exact hj
        obtain ⟨q1, q2, -⟩ := hP.1 p hp
        obtain ⟨-, -, hv⟩ := hP.2 p hg
        have ec : (nI p).toNatClampNeg = p := nI_clamp (by omega)
        obtain ⟨k, k1, k2, k3, k4⟩ := ih (c + 1) f g _ (by omega) (by omega) (by omega) hd hv
        rw [show c + 1 + m = c + (m + 1) by omega, ← nI_1] at k3 k4
        exact ⟨k, k1, k2, iN (nI_ge (by omega) (by omega)) (bi (Pl_has c1 hpl hp) (iN one_ne0 (ig (by omega) (by omega) (by rw [ec]; exact k3)))), iN (nI_ge (by omega) (by omega)) (ig (by omega) (by omega) (by rw [ec, q2]; exact k4))⟩
theorem thing_at0 {R tm : Nat} {lk : Nat → Nat} {th tr pl ln gr gm : Nat} {GP : Nat → Prop} {σ τ : St} (h : Mid R tm lk th tr pl ln gr gm GP σ τ) {i d : Nat} {x : Int32} (hi : i ≤ 60) (hd : Dp (σ.2.1 6) pl x d) (hid : i + 1 ≤ d) (hx : Pv GP x) :
    ∃ k : Nat, k < th ∧ σ.2.1 8 k ≠ 3 ∧ F_Pl_thingAt σ x (nI i) = some (nI k, σ) ∧ F_Mo_thingOfPlace τ x (nI i) = some (nI k, τ) := by
  obtain ⟨hT, hA, ⟨s1, s2, s3, s4, s5, s6, s7, s8, s9, s10⟩, hP, hK, hE, hL⟩ := h
  have := thing_at s7 s9 hP i 0 gw_N gw_N x (by omega) (by unfold gw_N; omega) (by unfold gw_N; omega) (Dp_le _ _ _ hid hd) hx
  rw [Nat.zero_add] at this
  exact this
theorem newest_loop {σ τ : St} {ln : Nat} (hl : ln ≤ 300) (hE : ∀ i, i < ln → σ.2.1 19 i = τ.2.1 16 i ∧ (σ.2.1 19 i = 0 → σ.2.1 20 i = τ.2.1 17 i)) :
    ∀ (m f g : Nat), m ≤ ln → m < f → m < g → ∃ r : Int32, K_Ro_newestInWork_7 f σ (nI m - 1) = some (r, σ) ∧ K_Mo_latestInWork_7 g τ (nI m - 1) = some (r, τ) ∧ ((∀ i, i < ln → σ.2.1 19 i ≠ 0) → r = -1) := by
  intro m
  induction m with
  | zero =>
    intro f g hm hf hg
    cases f with
    | zero => omega
    | succ f => cases g with
      | zero => omega
      | succ g => exact ⟨-1, ip (by decide) rfl, ip (by decide) (iN (by decide) rfl), fun _ => rfl⟩
  | succ m ih =>
    intro f g hm hf hg
    cases f with
    | zero => omega
    | succ f => cases g with
      | zero => omega
      | succ g =>
        rw [nI_pred]
        have ec : (nI m).toNatClampNeg = m := nI_clamp (by omega)
        obtain ⟨q1, q2⟩ := hE m (by omega)
        have e1 : nI m + (-1) = nI m - 1 := (Int32.sub_eq_add_neg _ _).symm
        by_cases h0 : σ.2.1 19 m = 0
        · exact ⟨σ.2.1 20 m, iN (nI_pos (by omega)) (iN (show ¬ (300 : Int32) ≤ nI m from nI_ge (b := 300) (by omega) (by omega)) (ig (by omega) (by omega) (ip (by rw [ec]; exact h0) (ig (by omega) (by omega) (by rw [ec]))))), iN (nI_pos (by omega)) (ig (by omega) (by omega) (ip (by rw [ec, ← q1]; exact h0) (ip (nI_pos' (by omega)) (ig (by omega) (by omega) (by rw [ec, q2 h0]))))), fun z => absurd h0 (z m (by omega))⟩
        · obtain ⟨r, r1, r2, r3⟩ := ih f g (by omega) (by omega) (by omega)
          exact ⟨r, iN (nI_pos (by omega)) (iN (show ¬ (300 : Int32) ≤ nI m from nI_ge (b := 300) (by omega) (by omega)) (ig (by omega) (by omega) (iN (by rw [ec]; exact h0) (by rw [e1]; exact r1)))), iN (nI_pos (by omega)) (ig (by omega) (by omega) (iN (by rw [ec, ← q1]; exact h0) (by rw [e1]; exact r2))), r3⟩
theorem Th_countWork {σ : St} {th k : Nat} (c1 : σ.1 14 = nI th) (ht : th ≤ 1000) (h : k < th) : F_Th_countWork σ (nI k) = some (sa σ 11 k (σ.2.1 11 k + 1)) :=
  bi (Th_has c1 ht h) (iN one_ne0 (ig (by omega) (by omega) (ig (by omega) (by omega) (by rw [nI_clamp (by omega)]))))
theorem Th_putInWork {σ : St} {th k : Nat} (c1 : σ.1 14 = nI th) (ht : th ≤ 1000) (h : k < th) (r : Int32) : F_Th_putInWork σ (nI k) r = some (sa (sa σ 8 k 1) 12 k r) :=
  bi (Th_has c1 ht h) (iN one_ne0 (ig (by omega) (by omega) (ig (by omega) (by omega) (by rw [nI_clamp (by omega)]))))
theorem Th_copyValue {σ : St} {th k : Nat} (c1 : σ.1 14 = nI th) (ht : th ≤ 1000) (h : k < th) : F_Th_copyValue σ (nI k) = some (sv (sv (sw (sv σ 19 (σ.2.1 13 k)) 0 (σ.2.2.2 1 k)) 20 (σ.2.1 14 k)) 21 (σ.2.1 15 k)) :=
  bi (Th_has c1 ht h) (iN one_ne0 (ig (by omega) (by omega) (ig (by omega) (by omega) (ig (by omega) (by omega) (ig (by omega) (by omega) (by rw [nI_clamp (by omega)]; rfl))))))
theorem Th_finish {σ : St} {th k : Nat} (c1 : σ.1 14 = nI th) (ht : th ≤ 1000) (h : k < th) : F_Th_finish σ (nI k) = some (fC σ k (σ.1 19) (σ.2.2.1 0) (σ.1 20) (σ.1 21)) :=
  bi (Th_has c1 ht h) (iN one_ne0 (ig (by omega) (by omega) (ig (by omega) (by omega) (ig (by omega) (by omega) (ig (by omega) (by omega) (ig (by omega) (by omega) (by rw [nI_clamp (by omega)]; rfl)))))))
section
variable {R tm : Nat} {lk : Nat → Nat} {th tr pl ln gr gm : Nat} {GP : Nat → Prop} {σ τ : St}
/-- what is done -/
theorem need_done (h : Mid R tm lk th tr pl ln gr gm GP σ τ) (o : σ.1 0 = 1) (o' : τ.1 13 = 1) {k : Nat} (hk : k < th) (h2 : σ.2.1 8 k = 2) :
    ∃ σ', K_Wa_need_47 σ (nI k) = some σ' ∧ Post R tm lk gm σ' (sv (sv (sw (sv (sv (sv τ 16 (τ.1 16 + 1)) 6 1) 10 (τ.2.1 8 k)) 0 (τ.2.2.2 1 k)) 11 (τ.2.1 9 k)) 12 (τ.2.1 10 k)) := by
  obtain ⟨hT, hA, ⟨s1, s2, s3, s4, s5, s6, s7, s8, s9, s10, s11, s12, s13, s14, s15, s16, s17, s18, s19⟩, hP, hK, hE, hL⟩ := id h
  obtain ⟨a1, a2, a3, a4, a5, -, a6, -⟩ := hK k hk
  have hv : σ.2.1 13 k = τ.2.1 8 k ∧ VO (LD tm lk (σ.2.1 1)) th (σ.2.1 8) (σ.2.1 6) pl GP (σ.2.1 13 k) (σ.2.2.2 1 k) (σ.2.1 14 k) (σ.2.1 15 k) (τ.2.2.2 1 k) (τ.2.1 9 k) (τ.2.1 10 k) := by
    rcases a6 with a6 | a6 | ⟨_, a6⟩ | a6
    · exact absurd (a6.symm.trans h2) (by decide)
    · exact absurd (a6.symm.trans h2) (by decide)
    · exact a6
    · exact absurd (a6.symm.trans h2) (by decide)
  refine ⟨_, bv (Th_copyValue (σ := sv σ 7 (σ.1 7 + 1)) s1 s3 hk) rfl, th, tr, pl, ln, gr, GP, ⟨hT, hA, ⟨s1, s2, s3, s4, s5, s6, s7, s8, s9, s10, s11, s12, s13, s14, s15, s16, s17, by show σ.1 7 + 1 = τ.1 16 + 1; rw [s18], s19⟩, hP, hK, hE, hL⟩, Or.inr (Or.inl ⟨rfl, hv.1, hv.2⟩), rfl, o.trans o'.symm, Or.inl o⟩
/-- what waits, with sharing -/
theorem need_wait1 (h : Mid R tm lk th tr pl ln gr gm GP σ τ) (hl : ln < 300) (o : σ.1 0 = 1) (o' : τ.1 13 = 1) (hsh : σ.1 1 = 1) {k : Nat} (hk : k < th) (h2 : σ.2.1 8 k = 0) :
    ∃ (σ' : St) (r : Int32), K_Wa_needWaiting_38 σ (nI k) = some σ' ∧ F_Mo_latestInWork (sa (sa (sv τ 17 (τ.1 17 + 1)) 11 k (τ.2.1 11 k + 1)) 13 k 1) = some (r, sa (sa (sv τ 17 (τ.1 17 + 1)) 11 k (τ.2.1 11 k + 1)) 13 k 1) ∧
      Post R tm lk gm σ' (sv (sv (sv (pM (wM1 τ k r) ln 0 (nI k) (-1) 0) 6 0) 7 (τ.2.1 6 k)) 8 (τ.2.1 7 k)) := by
  obtain ⟨hT, hA, ⟨s1, s2, s3, s4, s5, s6, s7, s8, s9, s10, s11, s12, s13, s14, s15, s16, s17, s18, s19⟩, hP, hK, hE, hL⟩ := id h
  have hs : σ.2.1 8 k ≠ 3 := by rw [h2]; decide
  obtain ⟨a1, a2, a3, a4, a5, ⟨t, d, b1, b2, b3⟩, -⟩ := hK k hk
  obtain ⟨b3, b4⟩ := b3 h2
  obtain ⟨r, r1, r2, -⟩ := newest_loop (σ := wC0 σ k) (τ := sa (sa (sv τ 17 (τ.1 17 + 1)) 11 k (τ.2.1 11 k + 1)) 13 k 1) s12 (fun i hi => by
    obtain ⟨e1, e2⟩ := hE i hi
    refine ⟨e1, fun z => ?_⟩
    have z' : σ.2.1 19 i = 0 := z
    rcases e2 with ⟨_, _, e3, _⟩ | ⟨e2, _⟩ | ⟨e2, _⟩ | ⟨e2, _⟩ | ⟨e2, _⟩ | e2 | e2
    · exact e3
    all_goals exact absurd (e2.symm.trans z') (by decide)) ln gw_N gw_N (by omega) (by unfold gw_N; omega) (by unfold gw_N; omega)
  have hM := Mid_push (Mid_work1 h hk hs hsh r) hl (e := 0) (a := nI k) (b := -1) (v := 0) (a' := nI k) (b' := -1) (v' := 0) ⟨rfl, Or.inl ⟨rfl, hsh, rfl, k, hk, rfl, by show upd (σ.2.1 8) k 1 k ≠ 3; rw [pk_us]; decide⟩⟩
  obtain ⟨g1, g2, g3, -⟩ := Th_get (σ := pC (wC1 σ k r) ln 0 (nI k) (-1) 0 (max gr (ln + 1))) s1 s3 hk
  refine ⟨_, r, bv (Th_countWork (σ := sv σ 8 (σ.1 8 + 1)) s1 s3 hk) (iN (by show ¬ σ.1 1 = 0; rw [hsh]; decide) (bi (by show K_Ro_newestInWork_7 gw_N _ (σ.1 17 - 1) = _; rw [s10]; exact r1) (bv (Th_putInWork (σ := wC0 σ k) s1 s3 hk r) (bv (Ro_add (σ := wC1 σ k r) s10 s13 hl s16 _ _ _ _) (bi g2 (bi g3 (bv rfl rfl))))))), by show K_Mo_latestInWork_7 gw_N _ (τ.1 4 - 1) = _; rw [s11]; exact r2, th, tr, pl, ln + 1, max gr (ln + 1), GP, hM, Or.inl ⟨rfl, a2, a3, b4, t, d, b1, b2, b3⟩, rfl, o.trans o'.symm, Or.inl o⟩
theorem need_wait0 (h : Mid R tm lk th tr pl ln gr gm GP σ τ) (o : σ.1 0 = 1) (o' : τ.1 13 = 1) (hsh : σ.1 1 = 0) {k : Nat} (hk : k < th) (h2 : σ.2.1 8 k = 0) :
    ∃ (σ' : St), K_Wa_needWaiting_38 σ (nI k) = some σ' ∧ F_Mo_latestInWork (sa (sa (sv τ 17 (τ.1 17 + 1)) 11 k (τ.2.1 11 k + 1)) 13 k 1) = some (-1, sa (sa (sv τ 17 (τ.1 17 + 1)) 11 k (τ.2.1 11 k + 1)) 13 k 1) ∧
      Post R tm lk gm σ' (sv (sv (sv (wM0 τ k) 6 0) 7 (τ.2.1 6 k)) 8 (τ.2.1 7 k)) ∧ Post R tm lk gm σ' (sv (sv (sv (wM00 τ k) 6 0) 7 (τ.2.1 6 k)) 8 (τ.2.1 7 k)) := by
  obtain ⟨hT, hA, ⟨s1, s2, s3, s4, s5, s6, s7, s8, s9, s10, s11, s12, s13, s14, s15, s16, s17, s18, s19⟩, hP, hK, hE, hL⟩ := id h
  obtain ⟨a1, a2, a3, a4, a5, ⟨t, d, b1, b2, b3⟩, -⟩ := hK k hk
  obtain ⟨b3, b4⟩ := b3 h2
  have nz : ∀ i, i < ln → σ.2.1 19 i ≠ 0 := by
    intro i hi z
    obtain ⟨e1, e2⟩ := hE i hi
    rcases e2 with ⟨_, e3, _⟩ | ⟨e2, _⟩ | ⟨e2, _⟩ | ⟨e2, _⟩ | ⟨e2, _⟩ | e2 | e2
    · exact absurd (hsh.symm.trans e3) (by decide)
    all_goals exact absurd (e2.symm.trans z) (by decide)
  obtain ⟨r, r1, r2, r3⟩ := newest_loop (σ := σ) (τ := sa (sa (sv τ 17 (τ.1 17 + 1)) 11 k (τ.2.1 11 k + 1)) 13 k 1) s12 (fun i hi => ⟨(hE i hi).1, fun z => absurd z (nz i hi)⟩) ln gw_N gw_N (by omega) (by unfold gw_N; omega) (by unfold gw_N; omega)
  have := r3 nz
  subst this
  obtain ⟨g1, g2, g3, -⟩ := Th_get (σ := wC0 σ k) s1 s3 hk
  obtain ⟨m1, m2⟩ := Mid_work0 h (k := k) hsh
  exact ⟨_, bv (Th_countWork (σ := sv σ 8 (σ.1 8 + 1)) s1 s3 hk) (ip hsh (bi g2 (bi g3 (bv rfl rfl)))), by show K_Mo_latestInWork_7 gw_N _ (τ.1 4 - 1) = _; rw [s11]; exact r2, ⟨th, tr, pl, ln, gr, GP, m1, Or.inl ⟨rfl, a2, a3, b4, t, d, b1, b2, b3⟩, rfl, o.trans o'.symm, Or.inl o⟩, ⟨th, tr, pl, ln, gr, GP, m2, Or.inl ⟨rfl, a2, a3, b4, t, d, b1, b2, b3⟩, rfl, o.trans o'.symm, Or.inl o⟩⟩
/-- need, all of it, behind the drop -/
theorem need_mo (hN : τ.1 4 = nI ln) {k y0 : Nat} (hk : k < 1000) {τ' : St}
    (hc : (τ.2.1 5 k = 1 ∧ τ' = sv (sv τ 13 3) 18 (nI k)) ∨
      (τ.2.1 5 k = 2 ∧ τ' = sv (sv (sw (sv (sv (sv (sv τ 4 (nI y0)) 16 (τ.1 16 + 1)) 6 1) 10 (τ.2.1 8 k)) 0 (τ.2.2.2 1 k)) 11 (τ.2.1 9 k)) 12 (τ.2.1 10 k)) ∨
      (τ.2.1 5 k = 0 ∧ τ.1 14 = 1 ∧ y0 = 300 ∧ τ' = sv τ 13 5) ∨
      (τ.2.1 5 k = 0 ∧ τ.1 14 = 1 ∧ y0 < 300 ∧ τ.2.1 13 k = 0 ∧ ∃ r, F_Mo_latestInWork (sa (sa (sv (sv τ 4 (nI y0)) 17 (τ.1 17 + 1)) 11 k (τ.2.1 11 k + 1)) 13 k 1) = some (r, sa (sa (sv (sv τ 4 (nI y0)) 17 (τ.1 17 + 1)) 11 k (τ.2.1 11 k + 1)) 13 k 1) ∧ τ' = sv (sv (sv (pM (wM1 (sv τ 4 (nI y0)) k r) y0 0 (nI k) (-1) 0) 6 0) 7 (τ.2.1 6 k)) 8 (τ.2.1 7 k)) ∨
      (τ.2.1 5 k = 0 ∧ τ.1 14 = 0 ∧ F_Mo_latestInWork (sa (sa (sv (sv τ 4 (nI y0)) 17 (τ.1 17 + 1)) 11 k (τ.2.1 11 k + 1)) 13 k 1) = some (-1, sa (sa (sv (sv τ 4 (nI y0)) 17 (τ.1 17 + 1)) 11 k (τ.2.1 11 k + 1)) 13 k 1) ∧
        ((τ.2.1 13 k = 0 ∧ τ' = sv (sv (sv (wM00 (sv τ 4 (nI y0)) k) 6 0) 7 (τ.2.1 6 k)) 8 (τ.2.1 7 k)) ∨ (¬ τ.2.1 13 k = 0 ∧ τ' = sv (sv (sv (wM0 (sv τ 4 (nI y0)) k) 6 0) 7 (τ.2.1 6 k)) 8 (τ.2.1 7 k))))) :
    K_Mo_need_17 τ (nI k) (nI y0) = some τ' := by
  have ec : (nI k).toNatClampNeg = k := nI_clamp (by omega)
  have h9 : (1000 : Nat) < 2 ^ 31 := by omega
  unfold K_Mo_need_17
  rw [ec]
  rcases hc with ⟨a, rfl⟩ | ⟨a, rfl⟩ | ⟨a, b, c, rfl⟩ | ⟨a, b, c, d, r, e, rfl⟩ | ⟨a, b, e, hh⟩
  · exact ig hk h9 (ip a rfl)
  · exact ig hk h9 (iN (by rw [a]; decide) (ig hk h9 (ip a (ig hk h9 (ig hk h9 (ig hk h9 (ig hk h9 (bv rfl rfl))))))))
  · exact ig hk h9 (iN (by rw [a]; decide) (ig hk h9 (iN (by rw [a]; decide) (iN (by rw [b]; decide) (ip (by rw [c]; rfl) rfl)))))
  · refine ig hk h9 (iN (by rw [a]; decide) (ig hk h9 (iN (by rw [a]; decide) (iN (by rw [b]; decide) (iN (nI_ne (b := 300) (by omega) (by omega) (by omega)) ?_)))))
    unfold K_Mo_need_113
    rw [ec]
    refine ig hk h9 (ig hk h9 (ig hk h9 (ip d (ig hk h9 (bi e (ig hk h9 ?_))))))
    unfold K_Mo_need_164
    rw [ec]
    exact iN (by show ¬ τ.1 14 = 0; rw [b]; decide) (ig hk h9 (bv (Mo_push (τ := wM1 (sv τ 4 (nI y0)) k r) rfl (by omega) _ _ _ _) (ig hk h9 (ig hk h9 (bv rfl rfl)))))
  · refine ig hk h9 (iN (by rw [a]; decide) (ig hk h9 (iN (by rw [a]; decide) (ip b ?_))))
    unfold K_Mo_need_113
    rw [ec]
    rcases hh with ⟨d, rfl⟩ | ⟨d, rfl⟩
    · refine ig hk h9 (ig hk h9 (ig hk h9 (ip d (ig hk h9 (bi e (ig hk h9 ?_))))))
      unfold K_Mo_need_164
      rw [ec]
      exact ip b (ig hk h9 (ig hk h9 (bv rfl rfl)))
    · refine ig hk h9 (ig hk h9 (ig hk h9 (iN d ?_)))
      unfold K_Mo_need_164
      rw [ec]
      exact ip b (ig hk h9 (ig hk h9 (bv rfl rfl)))
theorem need_ok (h : Mid R tm lk th tr pl ln gr gr GP σ τ) (hH : HH tm lk th pl GP σ τ) (hh : σ.1 2 = τ.1 6) (o : σ.1 0 = 1) (o' : τ.1 13 = 1) {k : Nat} (hk : k < th) (hs : σ.2.1 8 k ≠ 3) {q : Int32} (hq : q = 0 ∨ (q = 1 ∧ 0 < ln)) :
    ∃ σ' τ', F_Wa_need σ (nI k) q = some σ' ∧ F_Mo_need τ (nI k) q = some τ' ∧ Post R tm lk gr σ' τ' := by
  obtain ⟨hT, hA, ⟨s1, s2, s3, s4, s5, s6, s7, s8, s9, s10, s11, s12, s13, s14, s15, s16, s17, s18, s19, s20, s21⟩, hP, hK, hE, hL⟩ := id h
  obtain ⟨g1, -⟩ := Th_get s1 s3 hk
  obtain ⟨a1, a2, a3, a4, a5, a6, a7, a8, a9, a10⟩ := hK k hk
  have hk9 : k < 1000 := by omega
  -- the row behind the drop
  have hd : ∃ y0 : Nat, F_Mo_need τ (nI k) q = K_Mo_need_17 τ (nI k) (nI y0) ∧ (q = 0 → y0 = ln) ∧ (q = 1 → y0 + 1 = ln) ∧ ∃ σ1, Mid R tm lk th tr pl y0 gr gr GP σ1 (sv τ 4 (nI y0)) ∧ (σ1.1 0 = 1) ∧ (σ1.1 1 = σ.1 1) ∧ σ1.2.1 = σ.2.1 ∧ (q = 0 → σ1 = σ) ∧ (q = 1 → F_Ro_drop σ = some σ1) := by
    rcases hq with rfl | ⟨rfl, hl⟩
    · refine ⟨ln, ip rfl (by rw [s11]), fun _ => rfl, fun z => absurd z (by decide), σ, by rw [sv_same τ 4 s11]; exact h, o, rfl, rfl, fun _ => rfl, fun z => absurd z (by decide)⟩
    · obtain ⟨m, rfl⟩ : ∃ m, ln = m + 1 := ⟨ln - 1, by omega⟩
      exact ⟨m, iN (by decide) (by rw [s11, nI_pred]), fun z => absurd z (by decide), fun _ => rfl, sv σ 17 (nI m), Mid_drop h, o, rfl, rfl, fun z => absurd z (by decide), fun _ => Ro_drop s10 (by omega)⟩
  obtain ⟨y0, e1, y1, y2, σ1, M1, o1, sh1, r1, z1, z2⟩ := hd
  rw [e1]
  have st0 : σ.2.1 8 k = 0 ∨ σ.2.1 8 k = 1 ∨ σ.2.1 8 k = 2 := by
    rcases a7 with a7 | a7 | ⟨a7, _⟩ | a7
    · exact Or.inl a7
    · exact Or.inr (Or.inl a7)
    · exact Or.inr (Or.inr a7)
    · exact absurd a7 hs
  rcases st0 with st0 | st0 | st0
  · -- waiting
    have st1 : τ.2.1 5 k = 0 := by rw [← a1]; exact st0
    have st2 : σ1.2.1 8 k = 0 := by rw [r1]; exact st0
    rcases s21 with sh | sh
    · have sh' : τ.1 14 = 0 := by rw [← s20]; exact sh
      obtain ⟨σ', f1, f2, f3, f4⟩ := need_wait0 M1 o1 o' (sh1.trans sh) hk st2
      have E : F_Wa_need σ (nI k) q = some σ' := by
        refine bi (by rw [g1, st0]) (ip rfl (bv (ip sh ?_) rfl))
        rcases hq with rfl | ⟨rfl, hl⟩
        · rw [← z1 rfl]; exact ip rfl f1
        · exact iN (by decide) (bv (z2 rfl) f1)
      by_cases w : τ.2.1 13 k = 0
      · exact ⟨σ', _, E, need_mo s11 hk9 (Or.inr (Or.inr (Or.inr (Or.inr ⟨st1, sh', f2, Or.inl ⟨w, rfl⟩⟩)))), f4⟩
      · exact ⟨σ', _, E, need_mo s11 hk9 (Or.inr (Or.inr (Or.inr (Or.inr ⟨st1, sh', f2, Or.inr ⟨w, rfl⟩⟩)))), f3⟩
    · have sh' : τ.1 14 = 1 := by rw [← s20]; exact sh
      have shn : ¬ σ.1 1 = 0 := by rw [sh]; decide
      by_cases hf : y0 = 300
      · have q0 : q = 0 := by
          rcases hq with hq | ⟨hq, _⟩
          · exact hq
          · have := y2 hq; omega
        subst q0
        refine ⟨_, _, bi (by rw [g1, st0]) (ip rfl (bv (iN shn (ip rfl (bi (r := 1) (t := σ) ?_ (iN one_ne0 rfl)))) rfl)), need_mo s11 hk9 (Or.inr (Or.inr (Or.inl ⟨st1, sh', hf, rfl⟩))), th, tr, pl, ln, gr, GP, h, hH, hh, rfl, Or.inr (Or.inr (Or.inr rfl))⟩
        exact iN (by rw [s10]; exact nI_nlt (b := 300) (by have := y1 rfl; omega) (by omega)) rfl
      · have hf' : y0 < 300 := by
          rcases hq with hq | ⟨hq, _⟩
          · have := y1 hq; omega
          · have := y2 hq; omega
        obtain ⟨σ', r, f1, f2, f3⟩ := need_wait1 M1 hf' o1 o' (sh1.trans sh) hk st2
        have E : F_Wa_need σ (nI k) q = some σ' := by
          refine bi (by rw [g1, st0]) (ip rfl (bv (iN shn ?_) rfl))
          rcases hq with rfl | ⟨rfl, hl⟩
          · refine ip rfl (bi (r := 0) (t := σ) (ip (by rw [s10]; exact nI_lt (b := 300) (by have := y1 rfl; omega) (by omega)) rfl) (ip rfl (ip rfl ?_)))
            rw [← z1 rfl]; exact f1
          · exact iN (by decide) (iN (by decide) (bv (z2 rfl) f1))
        exact ⟨σ', _, E, need_mo s11 hk9 (Or.inr (Or.inr (Or.inr (Or.inl ⟨st1, sh', hf', a9 sh st0, r, f2, rfl⟩)))), f3⟩
  · -- in work
    have st1 : τ.2.1 5 k = 1 := by rw [← a1]; exact st0
    exact ⟨_, _, bi (by rw [g1, st0]) (iN (by decide) (ip rfl rfl)), need_mo s11 hk9 (Or.inl ⟨st1, rfl⟩), th, tr, pl, ln, gr, GP, h, hH, hh, rfl, Or.inr (Or.inl ⟨rfl, rfl⟩)⟩
  · have st1 : τ.2.1 5 k = 2 := by rw [← a1]; exact st0
    obtain ⟨σ', f1, f2⟩ := need_done M1 o1 o' hk (by rw [r1]; exact st0)
    have E : F_Wa_need σ (nI k) q = some σ' := by
      refine bi (by rw [g1, st0]) (iN (by decide) (iN (by decide) (ip rfl ?_)))
      rcases hq with rfl | ⟨rfl, hl⟩
      · rw [← z1 rfl]; exact ip rfl f1
      · exact iN (by decide) (bv (z2 rfl) f1)
    exact ⟨σ', _, E, need_mo s11 hk9 (Or.inr (Or.inl ⟨st1, rfl⟩)), f2⟩
end
