/-! PURE, 8: collecting: what is reached -/
def PW (r pl : Nat) (σ : St) (y : Int32) : Prop := y = -1 ∨ ∃ p : Nat, p < pl ∧ y = nI p ∧ σ.2.1 7 p = nI r
def CV (r th pl : Nat) (σ : St) (so x1 x2 : Int32) : Prop := (so = 1 → PW r pl σ x2) ∧ (so = 2 → ∃ k1 k2 : Nat, k1 < th ∧ k2 < th ∧ x1 = nI k1 ∧ x2 = nI k2 ∧ σ.2.1 16 k1 = nI r ∧ σ.2.1 16 k2 = nI r)
def Cl (r th pl : Nat) (σ0 σ : St) (k : Nat) : Prop := (σ0.2.1 8 k = 0 → PW r pl σ (σ0.2.1 10 k)) ∧ (σ0.2.1 8 k = 2 → CV r th pl σ (σ0.2.1 13 k) (σ0.2.1 14 k) (σ0.2.1 15 k))
def Grw (r : Nat) (σ σ' : St) : Prop := (∀ k, σ.2.1 16 k = nI r → σ'.2.1 16 k = nI r) ∧ (∀ p, σ.2.1 7 p = nI r → σ'.2.1 7 p = nI r) ∧ ∀ j, j < (σ.1 16).toNatClampNeg → σ'.2.1 18 j = σ.2.1 18 j ∧ j < (σ'.1 16).toNatClampNeg
theorem Grw_refl (r : Nat) (σ : St) : Grw r σ σ := ⟨fun _ h => h, fun _ h => h, fun _ h => ⟨rfl, h⟩⟩
theorem Grw_trans {r : Nat} {σ σ' σ'' : St} (h : Grw r σ σ') (h' : Grw r σ' σ'') : Grw r σ σ'' := ⟨fun k q => h'.1 k (h.1 k q), fun k q => h'.2.1 k (h.2.1 k q), fun j q => ⟨(h'.2.2 j (h.2.2 j q).2).1.trans (h.2.2 j q).1, (h'.2.2 j (h.2.2 j q).2).2⟩⟩
theorem PW_mono {r pl : Nat} {σ σ' : St} (h : Grw r σ σ') {y : Int32} (q : PW r pl σ y) : PW r pl σ' y := by
  rcases q with q | ⟨p, q1, q2, q3⟩
  · exact Or.inl q
  · exact Or.inr ⟨p, q1, q2, h.2.1 p q3⟩
theorem CV_mono {r th pl : Nat} {σ σ' : St} (h : Grw r σ σ') {so x1 x2 : Int32} (q : CV r th pl σ so x1 x2) : CV r th pl σ' so x1 x2 := by
  refine ⟨fun z => PW_mono h (q.1 z), fun z => ?_⟩
  obtain ⟨k1, k2, a1, a2, a3, a4, a5, a6⟩ := q.2 z
  exact ⟨k1, k2, a1, a2, a3, a4, h.1 _ a5, h.1 _ a6⟩
theorem Cl_mono {r th pl : Nat} {σ0 σ σ' : St} (h : Grw r σ σ') {k : Nat} (q : Cl r th pl σ0 σ k) : Cl r th pl σ0 σ' k := ⟨fun z => PW_mono h (q.1 z), fun z => CV_mono h (q.2 z)⟩
def SF (σ0 σ : St) : Prop := (∀ j, j ≠ 16 → σ.1 j = σ0.1 j) ∧ (∀ j, j ≠ 7 → j ≠ 16 → j ≠ 18 → σ.2.1 j = σ0.2.1 j) ∧ σ.2.2 = σ0.2.2
def SM (τ0 τ : St) : Prop := (∀ j, j ≠ 21 → τ.1 j = τ0.1 j) ∧ (∀ j, j ≠ 19 → j ≠ 20 → j ≠ 21 → τ.2.1 j = τ0.2.1 j) ∧ τ.2.2 = τ0.2.2
/-- what stays -/
def BS (r th pl : Nat) (GP : Nat → Prop) (σ0 τ0 : St) : Prop := σ0.1 14 = nI th ∧ th ≤ 1000 ∧ σ0.1 13 = nI pl ∧ pl ≤ 1000 ∧ σ0.1 11 = nI r ∧ r < 2 ^ 31 ∧ cn (fun k => decide (σ0.2.1 8 k ≠ 3)) th ≤ 300 ∧ RP th pl GP (σ0.2.1 8) (σ0.2.1 5) (σ0.2.1 6) (τ0.2.1 14) (τ0.2.1 15)
/-- what is reached so far: x a place yet to be gone to, kp a thing yet to be reached, those from i on are yet to be gone through -/
def Wk (r th pl : Nat) (GP : Nat → Prop) (σ0 τ0 : St) (x : Int32) (kp i : Nat) (σ τ : St) : Prop := SF σ0 σ ∧ SM τ0 τ ∧ ∃ rc : Nat, i ≤ rc ∧ σ.1 16 = nI rc ∧ τ.1 21 = nI rc ∧ rc = cn (fun k => decide (σ.2.1 16 k = nI r)) th ∧
  (∀ k, k < th → τ.2.1 19 k = if σ.2.1 16 k = nI r then 1 else 0) ∧
  (∀ p, p < pl → τ.2.1 20 p = if σ.2.1 7 p = nI r then 1 else 0) ∧
  (∀ j, j < rc → ∃ k : Nat, k < th ∧ σ.2.1 18 j = nI k ∧ τ.2.1 21 j = nI k ∧ σ.2.1 16 k = nI r) ∧
  (∀ k, k < th → σ.2.1 16 k = nI r → σ0.2.1 8 k ≠ 3 ∧ (Cl r th pl σ0 σ k ∨ ∃ j, i ≤ j ∧ j < rc ∧ σ.2.1 18 j = nI k)) ∧
  (∀ p, p < pl → σ.2.1 7 p = nI r → GP p ∧ (∃ k : Nat, k < th ∧ σ0.2.1 5 p = nI k ∧ (σ.2.1 16 k = nI r ∨ k = kp)) ∧ (PW r pl σ (σ0.2.1 6 p) ∨ σ0.2.1 6 p = x)) ∧
  (∀ k, k < 1000 → ∃ j : Nat, j ≤ r ∧ σ.2.1 16 k = nI j) ∧ (∀ p, p < 1000 → ∃ j : Nat, j ≤ r ∧ σ.2.1 7 p = nI j)
theorem upd_keep {f : Nat → Int32} {k j : Nat} {v : Int32} (h : f j = v) : upd f k v j = v := by
  by_cases e : j = k
  · subst e; exact pk_us
  · rw [pk_un e]; exact h
section
variable {r th pl : Nat} {GP : Nat → Prop} {σ0 τ0 : St} {x : Int32} {k kp i : Nat} {σ τ : St}
theorem W_kp (h : Wk r th pl GP σ0 τ0 x kp i σ τ) (hk : kp < th → σ.2.1 16 kp = nI r) (y : Nat) : Wk r th pl GP σ0 τ0 x y i σ τ := by
  obtain ⟨f, m, rc, w0, w1, w2, w3, w4, w5, w6, w7, w8, w9⟩ := h
  refine ⟨f, m, rc, w0, w1, w2, w3, w4, w5, w6, w7, fun p hp hw => ?_, w9⟩
  obtain ⟨a1, ⟨k', a2, a3, a4⟩, a5⟩ := w8 p hp hw
  refine ⟨a1, ⟨k', a2, a3, Or.inl ?_⟩, a5⟩
  rcases a4 with a4 | rfl
  · exact a4
  · exact hk a2
theorem W_any (h : Wk r th pl GP σ0 τ0 x th i σ τ) (y : Nat) : Wk r th pl GP σ0 τ0 x y i σ τ := W_kp h (fun q => absurd q (Nat.lt_irrefl _)) y
theorem W_x (h : Wk r th pl GP σ0 τ0 x kp i σ τ) (hx : PW r pl σ x) (y : Int32) : Wk r th pl GP σ0 τ0 y kp i σ τ := by
  obtain ⟨f, m, rc, w0, w1, w2, w3, w4, w5, w6, w7, w8, w9⟩ := h
  refine ⟨f, m, rc, w0, w1, w2, w3, w4, w5, w6, w7, fun p hp hw => ?_, w9⟩
  obtain ⟨a1, a2, a3⟩ := w8 p hp hw
  refine ⟨a1, a2, Or.inl ?_⟩
  rcases a3 with a3 | a3
  · exact a3
  · rw [a3]; exact hx
theorem W_reach (hB : BS r th pl GP σ0 τ0) (h : Wk r th pl GP σ0 τ0 x k i σ τ) (hk : k < th) (hs : σ0.2.1 8 k ≠ 3) :
    ∃ σ' τ', F_Th_reach σ (nI k) (nI r) = some σ' ∧ F_Mo_reach τ (nI k) = some τ' ∧ (∀ y, Wk r th pl GP σ0 τ0 x y i σ' τ') ∧ σ'.2.1 16 k = nI r ∧ Grw r σ σ' := by
  obtain ⟨b1, b2, b3, b4, b5, b6, b7, hP⟩ := hB
  obtain ⟨⟨f1, f2, f3⟩, ⟨m1, m2, m3⟩, rc, w0, w1, w2, w3, w4, w5, w6, w7, w8, w9, w10⟩ := id h
  have ec : (nI k).toNatClampNeg = k := nI_clamp (by omega)
  have i4 : k < 1000 := by omega
  have j4 : (1000 : Nat) < 2 ^ 31 := by omega
  have hrc : rc ≤ th := by rw [w3]; exact cn_le _ _
  by_cases hm : σ.2.1 16 k = nI r
  · refine ⟨σ, τ, iN (nI_pos (by omega)) (iN (nI_ge (b := 1000) i4 (by omega)) (iN (by rw [w1]; exact nI_pos (by omega)) ?_)), ?_, fun y => W_kp h (fun _ => hm) y, hm, Grw_refl r σ⟩
    · by_cases h3 : (300 : Int32) ≤ σ.1 16
      · exact ip h3 rfl
      · exact iN h3 (ig i4 j4 (ip (by rw [ec]; exact hm) rfl))
    · exact ig i4 j4 (iN (by rw [ec, w4 k hk, if_pos hm]; decide) rfl)
  · have hlt : rc < 300 := by
      have : rc < cn (fun k => decide (σ0.2.1 8 k ≠ 3)) th := by
        rw [w3]
        exact cn_lt k hk (fun j hj q => decide_eq_true ((w7 j hj (of_decide_eq_true q)).1)) (decide_eq_false hm) (decide_eq_true hs)
      omega
    have ecr : (nI rc).toNatClampNeg = rc := nI_clamp (by omega)
    have G : Grw r σ (sv (sa (sa σ 16 k (nI r)) 18 rc (nI k)) 16 (nI (rc + 1))) := ⟨fun j q => upd_keep q, fun _ q => q, fun j q => by
      rw [w1, ecr] at q
      refine ⟨pk_un (by omega), ?_⟩
      show j < (nI (rc + 1)).toNatClampNeg
      rw [nI_clamp (by omega)]; omega⟩
    refine ⟨sv (sa (sa σ 16 k (nI r)) 18 rc (nI k)) 16 (nI (rc + 1)), sv (sa (sa τ 19 k 1) 21 rc (nI k)) 21 (nI (rc + 1)), ?_, ?_, fun y => W_kp (kp := k) ?_ (fun _ => pk_us) y, pk_us, G⟩
    · unfold F_Th_reach
      rw [w1, ec, ecr, nI_1]
      exact iN (nI_pos (by omega)) (iN (nI_ge (b := 1000) i4 (by omega)) (iN (nI_pos (by omega)) (iN (nI_ge (b := 300) hlt (by omega)) (ig i4 j4 (iN hm (ig i4 j4 (ig hlt (by omega) rfl)))))))
    · unfold F_Mo_reach
      rw [w2, ec, ecr, nI_1]
      exact ig i4 j4 (ip (by rw [w4 k hk, if_neg hm]) (ig i4 j4 (ig (show rc < 1000 by omega) (by omega) rfl)))
    · refine ⟨⟨fun j hj => ?_, fun j h7 h16 h18 => ?_, f3⟩, ⟨fun j hj => ?_, fun j h19 h20 h21 => ?_, m3⟩, rc + 1, by omega, rfl, rfl, ?_, fun j hj => ?_, w5, fun j hj => ?_, fun j hj hq => ?_, fun p hp hq => ?_, fun j hj => ?_, w10⟩
      · exact (up_ne _ _ hj).trans (f1 j hj)
      · show up (up σ.2.1 16 _) 18 _ j = _
        rw [up_ne _ _ h18, up_ne _ _ h16]; exact f2 j h7 h16 h18
      · exact (up_ne _ _ hj).trans (m1 j hj)
      · show up (up τ.2.1 19 _) 21 _ j = _
        rw [up_ne _ _ h21, up_ne _ _ h19]; exact m2 j h19 h20 h21
      · rw [w3]
        exact (cn_set k hk (decide_eq_false hm) (decide_eq_true (show upd (σ.2.1 16) k (nI r) k = nI r from pk_us)) (fun j hj => by show decide (upd (σ.2.1 16) k (nI r) j = nI r) = _; rw [pk_un hj])).symm
      · show upd (τ.2.1 19) k 1 j = if upd (σ.2.1 16) k (nI r) j = nI r then 1 else 0
        by_cases e : j = k
        · subst e; rw [pk_us, pk_us, if_pos rfl]
        · rw [pk_un e, pk_un e]; exact w4 j hj
      · show ∃ k' : Nat, k' < th ∧ upd (σ.2.1 18) rc (nI k) j = nI k' ∧ upd (τ.2.1 21) rc (nI k) j = nI k' ∧ upd (σ.2.1 16) k (nI r) k' = nI r
        by_cases e : j = rc
        · subst e; exact ⟨k, hk, pk_us, pk_us, pk_us⟩
        · obtain ⟨k', a1, a2, a3, a4⟩ := w6 j (by omega)
          exact ⟨k', a1, by rw [pk_un e]; exact a2, by rw [pk_un e]; exact a3, upd_keep a4⟩
      · by_cases e : j = k
        · subst e; exact ⟨hs, Or.inr ⟨rc, w0, by omega, pk_us⟩⟩
        · have hq' : σ.2.1 16 j = nI r := by
            have : upd (σ.2.1 16) k (nI r) j = nI r := hq
            rw [pk_un e] at this; exact this
          obtain ⟨a1, a2⟩ := w7 j hj hq'
          refine ⟨a1, ?_⟩
          rcases a2 with a2 | ⟨jj, a2, a3, a4⟩
          · exact Or.inl (Cl_mono G a2)
          · exact Or.inr ⟨jj, a2, by omega, by show upd (σ.2.1 18) rc (nI k) jj = _; rw [pk_un (by omega)]; exact a4⟩
      · obtain ⟨a1, ⟨k', a2, a3, a4⟩, a5⟩ := w8 p hp hq
        exact ⟨a1, ⟨k', a2, a3, a4.imp (G.1 k') id⟩, a5.imp (PW_mono G) id⟩
      · show ∃ jj : Nat, jj ≤ r ∧ upd (σ.2.1 16) k (nI r) j = nI jj
        by_cases e : j = k
        · subst e; exact ⟨r, Nat.le_refl _, pk_us⟩
        · rw [pk_un e]; exact w9 j hj
theorem W_mark (h : Wk r th pl GP σ0 τ0 (nI kp) th i σ τ) (hp : kp < pl) (hg : GP kp) (hk : k < th) (hd : σ0.2.1 5 kp = nI k) :
    Wk r th pl GP σ0 τ0 (σ0.2.1 6 kp) k i (sa σ 7 kp (nI r)) (sa τ 20 kp 1) ∧ Grw r σ (sa σ 7 kp (nI r)) := by
  have G : Grw r σ (sa σ 7 kp (nI r)) := ⟨fun _ q => q, fun j q => upd_keep q, fun _ q => ⟨rfl, q⟩⟩
  refine ⟨?_, G⟩
  obtain ⟨⟨f1, f2, f3⟩, ⟨m1, m2, m3⟩, rc, w0, w1, w2, w3, w4, w5, w6, w7, w8, w9, w10⟩ := h
  refine ⟨⟨f1, fun j h7 h16 h18 => ?_, f3⟩, ⟨m1, fun j h19 h20 h21 => ?_, m3⟩, rc, w0, w1, w2, w3, w4, fun p hpp => ?_, w6, fun j hj hq => ?_, fun p hpp hq => ?_, w9, fun j hj => ?_⟩
  · exact (up_ne _ _ h7).trans (f2 j h7 h16 h18)
  · exact (up_ne _ _ h20).trans (m2 j h19 h20 h21)
  · show upd (τ.2.1 20) kp 1 p = if upd (σ.2.1 7) kp (nI r) p = nI r then 1 else 0
    by_cases e : p = kp
    · subst e; rw [pk_us, pk_us, if_pos rfl]
    · rw [pk_un e, pk_un e]; exact w5 p hpp
  · obtain ⟨a1, a2⟩ := w7 j hj hq
    exact ⟨a1, a2.imp (Cl_mono G) id⟩
  · by_cases e : p = kp
    · subst e; exact ⟨hg, ⟨k, hk, hd, Or.inr rfl⟩, Or.inr rfl⟩
    · have hq' : σ.2.1 7 p = nI r := by
        have : upd (σ.2.1 7) kp (nI r) p = nI r := hq
        rw [pk_un e] at this; exact this
      obtain ⟨a1, ⟨k', a2, a3, a4⟩, a5⟩ := w8 p hpp hq'
      refine ⟨a1, ⟨k', a2, a3, Or.inl ?_⟩, Or.inl ?_⟩
      · rcases a4 with a4 | a4
        · exact a4
        · omega
      · rcases a5 with a5 | a5
        · exact PW_mono G a5
        · exact Or.inr ⟨kp, hp, a5, pk_us⟩
  · show ∃ jj : Nat, jj ≤ r ∧ upd (σ.2.1 7) kp (nI r) j = nI jj
    by_cases e : j = kp
    · subst e; exact ⟨r, Nat.le_refl _, pk_us⟩
    · rw [pk_un e]; exact w10 j hj
theorem places_loop (hB : BS r th pl GP σ0 τ0) : ∀ (b : Nat) (x : Int32) (c f g : Nat) (σ τ : St), (x = -1 ∨ ∃ p : Nat, p < b ∧ x = nI p ∧ GP p) → c + b ≤ 1000 → b < f → b < g → Wk r th pl GP σ0 τ0 x th i σ τ →
    ∃ σ' τ', K_Wa_reachPlaces_4 f σ x (nI c) = some σ' ∧ K_Mo_reachPlaces_2 g τ x = some τ' ∧ (∀ y, Wk r th pl GP σ0 τ0 y th i σ' τ') ∧ PW r pl σ' x ∧ Grw r σ σ' := by
  obtain ⟨b1, b2, b3, b4, b5, b6, b7, hP⟩ := id hB
  have j4 : (1000 : Nat) < 2 ^ 31 := by omega
  intro b
  induction b with
  | zero =>
    intro x c f g σ τ hx hc hf hg h
    rcases hx with rfl | ⟨p, hp, _⟩
    · cases f with
      | zero => omega
      | succ f => cases g with
        | zero => omega
        | succ g =>
          refine ⟨σ, τ, ?_, ip (by decide) rfl, fun y => W_x h (Or.inl rfl) y, Or.inl rfl, Grw_refl r σ⟩
          by_cases q : (1000 : Int32) ≤ nI c
          · exact ip q rfl
          · exact iN q (bi (r := 0) (t := σ) (ip (by decide) rfl) (ip rfl rfl))
    · omega
  | succ b ih =>
    intro x c f g σ τ hx hc hf hg h
    cases f with
    | zero => omega
    | succ f => cases g with
      | zero => omega
      | succ g =>
        rcases hx with rfl | ⟨p, hp, rfl, hgp⟩
        · refine ⟨σ, τ, ?_, ip (by decide) rfl, fun y => W_x h (Or.inl rfl) y, Or.inl rfl, Grw_refl r σ⟩
          by_cases q : (1000 : Int32) ≤ nI c
          · exact ip q rfl
          · exact iN q (bi (r := 0) (t := σ) (ip (by decide) rfl) (ip rfl rfl))
        · obtain ⟨⟨f1, f2, f3⟩, ⟨m1, m2, m3⟩, rc, w0, w1, w2, w3, w4, w5, w6, w7, w8, w9, w10⟩ := id h
          obtain ⟨hpl, ⟨k, k1, k2, k3⟩, hv⟩ := hP.2 p hgp
          obtain ⟨q1, q2, -, q4⟩ := hP.1 p hpl
          have ec : (nI p).toNatClampNeg = p := nI_clamp (by omega)
          have i4 : p < 1000 := by omega
          have nc : ¬ (1000 : Int32) ≤ nI c := nI_ge (b := 1000) (by omega) (by omega)
          have np : ¬ nI p < 0 := nI_pos (by omega)
          have np2 : ¬ (1000 : Int32) ≤ nI p := nI_ge (b := 1000) i4 (by omega)
          have e11 : σ.1 11 = nI r := (f1 11 (by decide)).trans b5
          by_cases hw : σ.2.1 7 p = nI r
          · exact ⟨σ, τ, iN nc (bi (r := 0) (t := σ) (iN np (iN np2 (ig i4 j4 (ip (by rw [ec, hw, e11]) rfl)))) (ip rfl rfl)), iN np (ig i4 j4 (iN (by rw [ec, w5 p hpl, if_pos hw]; decide) rfl)), fun y => W_x h (Or.inr ⟨p, hpl, rfl, hw⟩) y, Or.inr ⟨p, hpl, rfl, hw⟩, Grw_refl r σ⟩
          · obtain ⟨W1, G1⟩ := W_mark h hpl hgp k1 k2
            obtain ⟨σ2, τ2, r1, r2, r3, r4, r5⟩ := W_reach hB W1 k1 k3
            have hx2 : σ0.2.1 6 p = -1 ∨ ∃ j : Nat, j < b ∧ σ0.2.1 6 p = nI j ∧ GP j := by
              rcases hv with hv | ⟨j, e, hj⟩
              · exact Or.inl hv
              · rcases q4 with q4 | ⟨j', a1, a2⟩
                · exact Or.inl q4
                · have := (hP.2 j hj).1
                  have := (nI_eq (by omega) (by omega)).mp (e.symm.trans a2)
                  subst this
                  exact Or.inr ⟨j, by omega, e, hj⟩
            obtain ⟨σ3, τ3, t1, t2, t3, t4, t5⟩ := ih (σ0.2.1 6 p) (c + 1) f g σ2 τ2 hx2 (by omega) (by omega) (by omega) (r3 th)
            obtain ⟨⟨g1, g2, -⟩, ⟨n1, n2, -⟩, -⟩ := r3 th
            have p13 : σ2.1 13 = nI pl := (g1 13 (by decide)).trans b3
            obtain ⟨-, e6⟩ := Pl_get p13 b4 hpl
            rw [g2 6 (by decide) (by decide) (by decide)] at e6
            obtain ⟨e5, -⟩ := Pl_get (σ := sa σ 7 p (nI r)) ((f1 13 (by decide)).trans b3) b4 hpl
            have e5' : (sa σ 7 p (nI r)).2.1 5 p = nI k := by
              show σ.2.1 5 p = nI k
              rw [f2 5 (by decide) (by decide) (by decide)]; exact k2
            refine ⟨σ3, τ3, iN nc (bi (r := 1) (t := sa σ 7 p (nI r)) (iN np (iN np2 (ig i4 j4 (iN (by rw [ec, e11]; exact hw) (ig i4 j4 (by rw [ec, e11])))))) (iN one_ne0 (bi e5 (bv (by rw [e5']; show F_Th_reach _ _ (σ.1 11) = _; rw [e11]; exact r1) (bi e6 (by rw [nI_1]; exact t1)))))), ?_, t3, ?_, Grw_trans G1 (Grw_trans r5 t5)⟩
            · refine iN np (ig i4 j4 (ip (by rw [ec, w5 p hpl, if_neg hw]) (ig i4 j4 (ig i4 j4 (bv (t := τ2) ?_ (ig i4 j4 ?_))))))
              · rw [ec, m2 14 (by decide) (by decide) (by decide), q1, k2]; exact r2
              · rw [ec, n2 15 (by decide) (by decide) (by decide), q2]; exact t2
            · exact PW_mono (Grw_trans r5 t5) (Or.inr ⟨p, hpl, rfl, pk_us⟩)
theorem W_places (hB : BS r th pl GP σ0 τ0) (h : Wk r th pl GP σ0 τ0 (-1) th i σ τ) {y : Int32} (hy : Pv GP y) :
    ∃ σ' τ', F_Wa_reachPlaces σ y = some σ' ∧ F_Mo_reachPlaces τ y = some τ' ∧ Wk r th pl GP σ0 τ0 (-1) th i σ' τ' ∧ PW r pl σ' y ∧ Grw r σ σ' := by
  obtain ⟨b1, b2, b3, b4, b5, b6, b7, hP⟩ := id hB
  obtain ⟨σ', τ', a1, a2, a3, a4, a5⟩ := places_loop (i := i) hB 1000 y 0 gw_N gw_N σ τ (by
    rcases hy with hy | ⟨p, e, hp⟩
    · exact Or.inl hy
    · exact Or.inr ⟨p, by have := (hP.2 p hp).1; omega, e, hp⟩) (by omega) (by unfold gw_N; omega) (by unfold gw_N; omega) (W_x h (Or.inl rfl) y)
  exact ⟨σ', τ', a1, a2, a3 _, a4, a5⟩
theorem W_reach1 (hB : BS r th pl GP σ0 τ0) (h : Wk r th pl GP σ0 τ0 (-1) th i σ τ) (hk : k < th) (hs : σ0.2.1 8 k ≠ 3) :
    ∃ σ' τ', F_Th_reach σ (nI k) (σ.1 11) = some σ' ∧ F_Mo_reach τ (nI k) = some τ' ∧ Wk r th pl GP σ0 τ0 (-1) th i σ' τ' ∧ σ'.2.1 16 k = nI r ∧ Grw r σ σ' := by
  obtain ⟨σ', τ', a1, a2, a3, a4, a5⟩ := W_reach hB (W_any h k) hk hs
  have e11 : σ.1 11 = nI r := (h.1.1 11 (by decide)).trans hB.2.2.2.2.1
  exact ⟨σ', τ', by rw [e11]; exact a1, a2, a3 _, a4, a5⟩
/-- a value: what it holds -/
def VG (th : Nat) (GP : Nat → Prop) (st : Nat → Int32) (so x1 x2 y1 y2 : Int32) : Prop := so = 0 ∨ (so = 1 ∧ x2 = y2 ∧ Pv GP x2) ∨ (so = 2 ∧ ∃ k1 k2 : Nat, k1 < th ∧ k2 < th ∧ x1 = nI k1 ∧ y1 = nI k1 ∧ x2 = nI k2 ∧ y2 = nI k2 ∧ st k1 ≠ 3 ∧ st k2 ≠ 3)
theorem VO_VG {LD : Nat → Nat → Nat → Prop} {th : Nat} {st nx : Nat → Int32} {pl : Nat} {GP : Nat → Prop} {so : Int32} {xn : Int64} {x1 x2 : Int32} {yn : Int64} {y1 y2 : Int32} (h : VO LD th st nx pl GP so xn x1 x2 yn y1 y2) : VG th GP st so x1 x2 y1 y2 := by
  rcases h with ⟨h, _⟩ | ⟨h1, h2, h3, _⟩ | h
  · exact Or.inl h
  · exact Or.inr (Or.inl ⟨h1, h2, h3⟩)
  · exact Or.inr (Or.inr h)
theorem W_value (hB : BS r th pl GP σ0 τ0) (h : Wk r th pl GP σ0 τ0 (-1) th i σ τ) {so x1 x2 y1 y2 : Int32} (hv : VG th GP (σ0.2.1 8) so x1 x2 y1 y2) :
    ∃ σ' τ', F_Wa_reachOfValue σ so x1 x2 = some σ' ∧ F_Mo_reachValue τ so y1 y2 = some τ' ∧ Wk r th pl GP σ0 τ0 (-1) th i σ' τ' ∧ CV r th pl σ' so x1 x2 ∧ Grw r σ σ' := by
  rcases hv with rfl | ⟨rfl, rfl, hx⟩ | ⟨rfl, k1, k2, l1, l2, rfl, rfl, rfl, rfl, n1, n2⟩
  · exact ⟨σ, τ, iN (by decide) (iN (by decide) rfl), iN (by decide) (iN (by decide) rfl), h, ⟨fun q => absurd q (by decide), fun q => absurd q (by decide)⟩, Grw_refl r σ⟩
  · obtain ⟨σ', τ', a1, a2, a3, a4, a5⟩ := W_places hB h hx
    exact ⟨σ', τ', ip rfl (bv a1 rfl), ip rfl (bv a2 rfl), a3, ⟨fun _ => a4, fun q => absurd q (by decide)⟩, a5⟩
  · obtain ⟨σ1, τ1, a1, a2, a3, a4, a5⟩ := W_reach1 hB h l1 n1
    obtain ⟨σ2, τ2, c1, c2, c3, c4, c5⟩ := W_reach1 hB a3 l2 n2
    exact ⟨σ2, τ2, iN (by decide) (ip rfl (bv a1 (bv c1 rfl))), iN (by decide) (ip rfl (bv a2 (bv c2 rfl))), c3, ⟨fun q => absurd q (by decide), fun _ => ⟨k1, k2, l1, l2, rfl, rfl, c5.1 _ a4, c4⟩⟩, Grw_trans a5 c5⟩
/-- what is at hand: what it holds -/
def HG (th : Nat) (GP : Nat → Prop) (σ τ : St) : Prop := (σ.1 2 = 0 ∧ τ.1 6 = 0 ∧ σ.1 4 = τ.1 8 ∧ Pv GP (σ.1 4)) ∨ (σ.1 2 = 1 ∧ τ.1 6 = 1 ∧ σ.1 19 = τ.1 10 ∧ VG th GP (σ.2.1 8) (σ.1 19) (σ.1 20) (σ.1 21) (τ.1 11) (τ.1 12)) ∨ (σ.1 2 = 2 ∧ τ.1 6 = 2 ∧ σ.1 5 = τ.1 9 ∧ ∃ k : Nat, k < th ∧ σ.1 5 = nI k ∧ σ.2.1 8 k ≠ 3)
def HC (r th pl : Nat) (σ0 σ : St) : Prop := (σ0.1 2 = 0 → PW r pl σ (σ0.1 4)) ∧ (σ0.1 2 = 1 → CV r th pl σ (σ0.1 19) (σ0.1 20) (σ0.1 21)) ∧ (σ0.1 2 = 2 → ∃ k : Nat, k < th ∧ σ0.1 5 = nI k ∧ σ.2.1 16 k = nI r)
theorem HC_mono {σ σ' : St} (h : Grw r σ σ') (q : HC r th pl σ0 σ) : HC r th pl σ0 σ' := by
  refine ⟨fun z => PW_mono h (q.1 z), fun z => CV_mono h (q.2.1 z), fun z => ?_⟩
  obtain ⟨k, a1, a2, a3⟩ := q.2.2 z
  exact ⟨k, a1, a2, h.1 _ a3⟩
theorem W_hand (hB : BS r th pl GP σ0 τ0) (hH : HG th GP σ0 τ0) (h : Wk r th pl GP σ0 τ0 (-1) th i σ τ) :
    ∃ σ' τ', F_Wa_reachFromHand σ = some σ' ∧ (∀ z, K_Mo_reachHand_53 τ' = z → F_Mo_reachHand τ = z) ∧ Wk r th pl GP σ0 τ0 (-1) th i σ' τ' ∧ HC r th pl σ0 σ' ∧ Grw r σ σ' := by
  obtain ⟨⟨f1, -⟩, ⟨m1, -⟩, -⟩ := id h
  have e2 := f1 2 (by decide)
  have e6 := m1 6 (by decide)
  rcases hH with ⟨q1, q2, q3, q4⟩ | ⟨q1, q2, q3, q4⟩ | ⟨q1, q2, q3, k, q4, q5, q6⟩
  · obtain ⟨σ', τ', a1, a2, a3, a4, a5⟩ := W_places hB h q4
    exact ⟨σ', τ', ip (e2.trans q1) (bv (by rw [f1 4 (by decide)]; exact a1) rfl), fun z hz => ip (e6.trans q2) (bv (by rw [m1 8 (by decide), ← q3]; exact a2) hz), a3, ⟨fun _ => a4, fun q => absurd (q1.symm.trans q) (by decide), fun q => absurd (q1.symm.trans q) (by decide)⟩, a5⟩
  · obtain ⟨σ', τ', a1, a2, a3, a4, a5⟩ := W_value hB h q4
    exact ⟨σ', τ', iN (by rw [e2, q1]; decide) (ip (e2.trans q1) (bv (by rw [f1 19 (by decide), f1 20 (by decide), f1 21 (by decide)]; exact a1) rfl)), fun z hz => iN (by rw [e6, q2]; decide) (ip (e6.trans q2) (bv (by rw [m1 10 (by decide), m1 11 (by decide), m1 12 (by decide), ← q3]; exact a2) hz)), a3, ⟨fun q => absurd (q1.symm.trans q) (by decide), fun _ => a4, fun q => absurd (q1.symm.trans q) (by decide)⟩, a5⟩
  · obtain ⟨σ', τ', a1, a2, a3, a4, a5⟩ := W_reach1 hB h q4 q6
    exact ⟨σ', τ', iN (by rw [e2, q1]; decide) (iN (by rw [e2, q1]; decide) (bv (by rw [f1 5 (by decide), q5]; exact a1) rfl)), fun z hz => iN (by rw [e6, q2]; decide) (iN (by rw [e6, q2]; decide) (bv (by rw [m1 9 (by decide), ← q3, q5]; exact a2) hz)), a3, ⟨fun q => absurd (q1.symm.trans q) (by decide), fun q => absurd (q1.symm.trans q) (by decide), fun _ => ⟨k, q4, q5, a4⟩⟩, a5⟩
/-- an entry: what it holds -/
def EG (th : Nat) (GP : Nat → Prop) (st : Nat → Int32) (x0 x1 x2 y0 y1 y2 : Int32) : Prop := x0 = y0 ∧ (((x0 = 0 ∨ x0 = 1) ∧ x1 = y1 ∧ ∃ k : Nat, k < th ∧ x1 = nI k ∧ st k ≠ 3) ∨ ((x0 = 2 ∨ x0 = 4) ∧ x2 = y2 ∧ Pv GP x2) ∨ x0 = 3 ∨ x0 = 5 ∨ x0 = 6)
def EC (r th pl : Nat) (σ : St) (x0 x1 x2 : Int32) : Prop := ((x0 = 0 ∨ x0 = 1) → ∃ k : Nat, k < th ∧ x1 = nI k ∧ σ.2.1 16 k = nI r) ∧ ((x0 = 2 ∨ x0 = 4) → PW r pl σ x2)
theorem EC_mono {σ σ' : St} (h : Grw r σ σ') {x0 x1 x2 : Int32} (q : EC r th pl σ x0 x1 x2) : EC r th pl σ' x0 x1 x2 := by
  refine ⟨fun z => ?_, fun z => PW_mono h (q.2 z)⟩
  obtain ⟨k, a1, a2, a3⟩ := q.1 z
  exact ⟨k, a1, a2, h.1 _ a3⟩
theorem row_loop (hB : BS r th pl GP σ0 τ0) {ln : Nat} (s10 : σ0.1 17 = nI ln) (s11 : τ0.1 4 = nI ln) (s12 : ln ≤ 300) (hE : ∀ j, j < ln → EG th GP (σ0.2.1 8) (σ0.2.1 19 j) (σ0.2.1 20 j) (σ0.2.1 21 j) (τ0.2.1 16 j) (τ0.2.1 17 j) (τ0.2.1 18 j)) :
    ∀ (m c f g : Nat) (σ τ : St), c + m = ln → m < f → m < g → Wk r th pl GP σ0 τ0 (-1) th i σ τ → (∀ j, j < c → EC r th pl σ (σ0.2.1 19 j) (σ0.2.1 20 j) (σ0.2.1 21 j)) →
      ∃ σ' τ', K_Wa_reachFromRow_2 f σ (nI c) = some σ' ∧ K_Mo_reachHand_55 g τ (nI c) = some τ' ∧ Wk r th pl GP σ0 τ0 (-1) th i σ' τ' ∧ (∀ j, j < ln → EC r th pl σ' (σ0.2.1 19 j) (σ0.2.1 20 j) (σ0.2.1 21 j)) ∧ Grw r σ σ' := by
  have j3 : (300 : Nat) < 2 ^ 31 := by omega
  intro m
  induction m with
  | zero =>
    intro c f g σ τ hc hf hg h hC
    cases f with
    | zero => omega
    | succ f => cases g with
      | zero => omega
      | succ g => exact ⟨σ, τ, ip (by rw [h.1.1 17 (by decide), s10]; exact nI_le (by omega) (by omega)) rfl, ip (by rw [h.2.1.1 4 (by decide), s11]; exact nI_le (by omega) (by omega)) rfl, h, fun j hj => hC j (by omega), Grw_refl r σ⟩
  | succ m ih =>
    intro c f g σ τ hc hf hg h hC
    cases f with
    | zero => omega
    | succ f => cases g with
      | zero => omega
      | succ g =>
        obtain ⟨⟨f1, f2, -⟩, ⟨m1, m2, -⟩, -⟩ := id h
        have cl : c < ln := by omega
        have i3 : c < 300 := by omega
        have ec : (nI c).toNatClampNeg = c := nI_clamp (by omega)
        have n1 : ¬ σ.1 17 ≤ nI c := by rw [f1 17 (by decide), s10]; exact nI_ge cl (by omega)
        have n2 : ¬ τ.1 4 ≤ nI c := by rw [m1 4 (by decide), s11]; exact nI_ge cl (by omega)
        obtain ⟨g1, g2, g3, -⟩ := Ro_get (σ := σ) ((f1 17 (by decide)).trans s10) s12 cl
        rw [f2 19 (by decide) (by decide) (by decide)] at g1
        rw [f2 20 (by decide) (by decide) (by decide)] at g2
        rw [f2 21 (by decide) (by decide) (by decide)] at g3
        have e1 : nI c + 1 = nI (c + 1) := nI_1 c
        have k16 : τ.2.1 16 (nI c).toNatClampNeg = τ0.2.1 16 c := by rw [ec, m2 16 (by decide) (by decide) (by decide)]
        have k17 : τ.2.1 17 (nI c).toNatClampNeg = τ0.2.1 17 c := by rw [ec, m2 17 (by decide) (by decide) (by decide)]
        have k18 : τ.2.1 18 (nI c).toNatClampNeg = τ0.2.1 18 c := by rw [ec, m2 18 (by decide) (by decide) (by decide)]
        obtain ⟨q0, q⟩ := hE c cl
        rcases q with ⟨q1, q2, k, q3, q4, q5⟩ | ⟨q1, q2, q3⟩ | q1
        · obtain ⟨σ1, τ1, a1, a2, a3, a4, a5⟩ := W_reach1 hB h q3 q5
          obtain ⟨σ2, τ2, c1, c2, c3, c4, c5⟩ := ih (c + 1) f g σ1 τ1 (by omega) (by omega) (by omega) a3 (fun j hj => by
            by_cases e : j = c
            · subst e
              refine ⟨fun _ => ⟨k, q3, q4, a4⟩, fun z => ?_⟩
              rcases q1 with q1 | q1 <;> rcases z with z | z <;> exact absurd (q1.symm.trans z) (by decide)
            · exact EC_mono a5 (hC j (by omega)))
          refine ⟨σ2, τ2, ?_, iN n2 (ig i3 j3 (iN (by rw [k16, ← q0]; rcases q1 with q1 | q1 <;> rw [q1] <;> decide) (ig i3 j3 (bv (by rw [k17, ← q2, q4]; exact a2) (by rw [e1]; exact c2))))), c3, c4, Grw_trans a5 c5⟩
          rcases q1 with q1 | q1
          · exact iN n1 (bi (by rw [g1, q1]) (ip rfl (bi (by rw [g2, q4]) (bv a1 (by rw [e1]; exact c1)))))
          · exact iN n1 (bi (by rw [g1, q1]) (iN (by decide) (ip rfl (bi (by rw [g2, q4]) (bv a1 (by rw [e1]; exact c1))))))
        · obtain ⟨σ1, τ1, a1, a2, a3, a4, a5⟩ := W_places hB h q3
          obtain ⟨σ2, τ2, c1, c2, c3, c4, c5⟩ := ih (c + 1) f g σ1 τ1 (by omega) (by omega) (by omega) a3 (fun j hj => by
            by_cases e : j = c
            · subst e
              refine ⟨fun z => ?_, fun _ => a4⟩
              rcases q1 with q1 | q1 <;> rcases z with z | z <;> exact absurd (q1.symm.trans z) (by decide)
            · exact EC_mono a5 (hC j (by omega)))
          refine ⟨σ2, τ2, ?_, ?_, c3, c4, Grw_trans a5 c5⟩
          · rcases q1 with q1 | q1
            · exact iN n1 (bi (by rw [g1, q1]) (iN (by decide) (iN (by decide) (ip rfl (bi g3 (bv a1 (by rw [e1]; exact c1)))))))
            · exact iN n1 (bi (by rw [g1, q1]) (iN (by decide) (iN (by decide) (iN (by decide) (iN (by decide) (ip rfl (bi g3 (bv a1 (by rw [e1]; exact c1)))))))))
          · rcases q1 with q1 | q1
            · exact iN n2 (ig i3 j3 (ip (by rw [k16, ← q0, q1]; decide) (ig i3 j3 (ip (by rw [k16, ← q0, q1]) (ig i3 j3 (bv (by rw [k18, ← q2]; exact a2) (by rw [e1]; exact c2)))))))
            · exact iN n2 (ig i3 j3 (ip (by rw [k16, ← q0, q1]; decide) (ig i3 j3 (iN (by rw [k16, ← q0, q1]; decide) (ig i3 j3 (ip (by rw [k16, ← q0, q1]) (ig i3 j3 (bv (by rw [k18, ← q2]; exact a2) (by rw [e1]; exact c2)))))))))
        · obtain ⟨σ2, τ2, c1, c2, c3, c4, c5⟩ := ih (c + 1) f g σ τ (by omega) (by omega) (by omega) h (fun j hj => by
            by_cases e : j = c
            · subst e
              refine ⟨fun z => ?_, fun z => ?_⟩ <;> rcases q1 with q1 | q1 | q1 <;> rcases z with z | z <;> exact absurd (q1.symm.trans z) (by decide)
            · exact hC j (by omega))
          refine ⟨σ2, τ2, ?_, ?_, c3, c4, c5⟩
          · rcases q1 with q1 | q1 | q1
            · exact iN n1 (bi (by rw [g1, q1]) (iN (by decide) (iN (by decide) (iN (by decide) (ip rfl (by rw [e1]; exact c1))))))
            · exact iN n1 (bi (by rw [g1, q1]) (iN (by decide) (iN (by decide) (iN (by decide) (iN (by decide) (iN (by decide) (by rw [e1]; exact c1)))))))
            · exact iN n1 (bi (by rw [g1, q1]) (iN (by decide) (iN (by decide) (iN (by decide) (iN (by decide) (iN (by decide) (by rw [e1]; exact c1)))))))
          · have a2' : (2 : Int32) ≤ τ.2.1 16 (nI c).toNatClampNeg ∧ ¬ τ.2.1 16 (nI c).toNatClampNeg = 2 ∧ ¬ τ.2.1 16 (nI c).toNatClampNeg = 4 := by
              rw [k16, ← q0]
              rcases q1 with q1 | q1 | q1 <;> rw [q1] <;> decide
            exact iN n2 (ig i3 j3 (ip a2'.1 (ig i3 j3 (iN a2'.2.1 (ig i3 j3 (iN a2'.2.2 (by rw [e1]; exact c2)))))))
end
