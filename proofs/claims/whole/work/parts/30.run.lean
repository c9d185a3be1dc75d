/-! PURE, 10: collecting, run -/
theorem sweep_ok {R tm : Nat} {lk : Nat → Nat} {σ τ : St} (h : RR R tm lk σ τ) (hR : R + 1 < 2 ^ 31) :
    ∃ (n : Int32) (σ' τ' : St), F_Wa_sweepUnreached σ = some (n, σ') ∧ F_Mo_sweep τ = some (n, τ') ∧ RR (R + 1) tm lk σ' τ' ∧ σ'.1 0 = σ.1 0 ∧ τ'.1 20 = τ.1 20 := by
  obtain ⟨th, tr, pl, ln, gr, GP, ⟨⟨tt1, tt2, tt3⟩, ⟨ra1, ra2, rd, ra3, ra4, ra5, ra6⟩, ⟨s1, s2, s3, s4, s5, s6, s7, s8, s9, s10, s11, s12, s13, s14, s15, s16, s17, s18, s19, s20, s21⟩, hP, hK, hE, hL⟩, hH, hh, ho, hO⟩ := h
  -- the base
  have hr : rd + 1 < 2 ^ 31 := by omega
  have hcn : cn (fun k => decide (σ.2.1 8 k ≠ 3)) th = tr := by rw [cn_len]; exact hL.1.symm
  have hB : BS (rd + 1) th pl GP (sv σ 11 (nI (rd + 1))) τ := ⟨s1, s3, s7, s9, rfl, hr, by show cn (fun k => decide (σ.2.1 8 k ≠ 3)) th ≤ 300; rw [hcn]; exact s6, hP⟩
  -- the reference's flags
  obtain ⟨τ1, a1, a2, a3, a4, a5, -⟩ := init2 s3 th 0 gw_N τ (by omega) (by unfold gw_N; omega) s2
  obtain ⟨τ2, c1, c2, c3, c4, c5, -⟩ := init25 s9 pl 0 gw_N τ1 (by omega) (by unfold gw_N; omega) (by rw [a2]; exact s8)
  have nm : ∀ k, k < 1000 → ¬ σ.2.1 16 k = nI (rd + 1) := fun k hk q => by
    obtain ⟨j, h1, h2⟩ := ra5 k hk
    have := (nI_eq (by omega) (by omega)).mp (h2.symm.trans q)
    omega
  have np : ∀ k, k < 1000 → ¬ σ.2.1 7 k = nI (rd + 1) := fun k hk q => by
    obtain ⟨j, h1, h2⟩ := ra6 k hk
    have := (nI_eq (by omega) (by omega)).mp (h2.symm.trans q)
    omega
  have W0 : Wk (rd + 1) th pl GP (sv σ 11 (nI (rd + 1))) τ (-1) th 0 (sv (sv σ 11 (nI (rd + 1))) 16 0) (sv τ2 21 0) := by
    refine ⟨⟨fun j hj => up_ne _ _ hj, fun _ _ _ _ => rfl, rfl⟩, ⟨fun j hj => ?_, fun j h19 h20 h21 => ?_, ?_⟩, 0, by omega, rfl, rfl, ?_, fun k hk => ?_, fun p hp => ?_, fun j hj => by omega, fun k hk hq => absurd hq (nm k (by omega)), fun p hp hq => absurd hq (np p (by omega)), fun k hk => ?_, fun k hk => ?_⟩
    · show up τ2.1 21 0 j = _
      rw [up_ne _ _ hj, c2, a2]
    · show τ2.2.1 j = _
      rw [c3 j h20, a3 j h19]
    · show τ2.2.2 = _
      rw [c4, a4]
    · exact (cn_zero (fun k hk => decide_eq_false (nm k (by omega)))).symm
    · show τ2.2.1 19 k = if σ.2.1 16 k = nI (rd + 1) then 1 else 0
      rw [if_neg (nm k (by omega)), c3 19 (by decide)]
      exact a5 k (by omega) hk
    · show τ2.2.1 20 p = if σ.2.1 7 p = nI (rd + 1) then 1 else 0
      rw [if_neg (np p (by omega))]
      exact c5 p (by omega) hp
    · obtain ⟨j, h1, h2⟩ := ra5 k hk
      exact ⟨j, by omega, h2⟩
    · obtain ⟨j, h1, h2⟩ := ra6 k hk
      exact ⟨j, by omega, h2⟩
  -- the hand
  have hHG : HG th GP (sv σ 11 (nI (rd + 1))) τ := by
    rcases hH with ⟨q0, q1, q2, q3, -⟩ | ⟨q0, q1, q2⟩ | ⟨q0, q1, q2⟩
    · exact Or.inl ⟨q0, hh.symm.trans q0, q2, q3⟩
    · exact Or.inr (Or.inl ⟨q0, hh.symm.trans q0, q1, VO_VG q2⟩)
    · exact Or.inr (Or.inr ⟨q0, hh.symm.trans q0, q1, q2⟩)
  obtain ⟨σ3, τ3, d1, d2, d3, d4, d5⟩ := W_hand hB hHG W0
  -- the row
  have hEG : ∀ j, j < ln → EG th GP (σ.2.1 8) (σ.2.1 19 j) (σ.2.1 20 j) (σ.2.1 21 j) (τ.2.1 16 j) (τ.2.1 17 j) (τ.2.1 18 j) := by
    intro j hj
    obtain ⟨e0, e⟩ := hE j hj
    refine ⟨e0, ?_⟩
    rcases e with ⟨e, _, q1, q2⟩ | ⟨e, q1, q2⟩ | ⟨e, _, q1, q2, _⟩ | ⟨e, _⟩ | ⟨e, _, q1, q2, _⟩ | e | e
    · exact Or.inl ⟨Or.inl e, q1, q2⟩
    · exact Or.inl ⟨Or.inr e, q1, q2⟩
    · exact Or.inr (Or.inl ⟨Or.inl e, q1, q2⟩)
    · exact Or.inr (Or.inr (Or.inl e))
    · exact Or.inr (Or.inl ⟨Or.inr e, q1, q2⟩)
    · exact Or.inr (Or.inr (Or.inr (Or.inl e)))
    · exact Or.inr (Or.inr (Or.inr (Or.inr e)))
  obtain ⟨σ4, τ4, e1, e2, e3, e4, e5⟩ := row_loop hB s10 s11 s12 hEG ln 0 gw_N gw_N σ3 τ3 (by omega) (by unfold gw_N; omega) (by unfold gw_N; omega) d3 (fun j hj => by omega)
  -- the things
  have hKG : ∀ k, k < th → KG th GP (sv σ 11 (nI (rd + 1))) τ k := by
    intro k hk
    obtain ⟨k1, k2, k3, k4, k5, ⟨t, d, k6, k7, k8⟩, k9, -⟩ := hK k hk
    refine ⟨k1, k3, ?_, fun z => (k8 z).2, fun z => ?_⟩
    · rcases k9 with k9 | k9 | ⟨k9, _⟩ | k9
      · exact Or.inl k9
      · exact Or.inr (Or.inl k9)
      · exact Or.inr (Or.inr (Or.inl k9))
      · exact Or.inr (Or.inr (Or.inr k9))
    · have z' : σ.2.1 8 k = 2 := z
      rcases k9 with k9 | k9 | ⟨_, k9, k10⟩ | k9
      · exact absurd (k9.symm.trans z') (by decide)
      · exact absurd (k9.symm.trans z') (by decide)
      · exact ⟨k9, VO_VG k10⟩
      · exact absurd (k9.symm.trans z') (by decide)
  obtain ⟨σ5, τ5, f1, f2, ⟨i5, f3⟩, f4, f5⟩ := things_loop hB hKG 300 0 gw_N gw_N σ4 τ4 (by omega) (by unfold gw_N; omega) (by unfold gw_N; omega) e3
  obtain ⟨⟨g1, g2, g3⟩, ⟨m1, m2, m3⟩, rc, w0, w1, w2, w3, w4, w5, w6, w7, w8, w9, w10⟩ := f3
  have hC4 := HC_mono (Grw_trans e5 f5) d4
  have hE4 : ∀ j, j < ln → EC (rd + 1) th pl σ5 (σ.2.1 19 j) (σ.2.1 20 j) (σ.2.1 21 j) := fun j hj => EC_mono f5 (e4 j hj)
  -- what is kept
  have b1 : σ5.1 14 = nI th := (g1 14 (by decide)).trans s1
  have hlen : ((List.range th).filter (fun k => decide (σ.2.1 8 k ≠ 3))).length = tr := hL.1.symm
  have h17 : σ5.2.1 17 = σ.2.1 17 := g2 17 (by decide) (by decide) (by decide)
  have h8 : σ5.2.1 8 = σ.2.1 8 := g2 8 (by decide) (by decide) (by decide)
  obtain ⟨σ6, p1, p2, p3, p4, p5, p6⟩ := keep_loop (r := rd + 1) b1 s3 s6 (fun k => decide (σ5.2.1 16 k = nI (rd + 1))) (fun _ => rfl) ((List.range th).filter (fun k => decide (σ.2.1 8 k ≠ 3))) [] gw_N σ5 (by rw [hlen]; simp) (by rw [hlen]; unfold gw_N; omega) (fun a ha => List.mem_range.mp (List.mem_filter.mp ha).1) rfl (fun _ _ _ => rfl) rfl (fun j hj => by simp at hj) (fun j hj => by
    rw [h17]
    show σ.2.1 17 (0 + j) = _
    rw [Nat.zero_add]
    exact hL.2 j hj) (fun k => by simp)
  rw [List.nil_append] at p1 p5 p6
  have t1 : τ5.1 1 = nI th := (m1 1 (by decide)).trans s2
  have h5' : τ5.2.1 5 = τ.2.1 5 := m2 5 (by decide) (by decide) (by decide)
  obtain ⟨τ6, q1, q2, q3, q4, q5⟩ := sweep_loop t1 s3 (fun k => decide (σ5.2.1 16 k = nI (rd + 1))) (fun k hk => by
    rw [w4 k hk]
    by_cases z : σ5.2.1 16 k = nI (rd + 1) <;> simp [z]) th 0 gw_N τ5 (by omega) (by unfold gw_N; omega) rfl (fun _ _ => rfl) rfl (fun k hk => by simp)
  -- how many
  have hkp : (((List.range th).filter (fun k => decide (σ.2.1 8 k ≠ 3))).filter (fun k => decide (σ5.2.1 16 k = nI (rd + 1)))).length = cn (fun k => decide (σ.2.1 8 k ≠ 3) && decide (σ5.2.1 16 k = nI (rd + 1))) th := by
    rw [List.filter_filter, ← cn_len]
    exact cn_congr (fun k _ => Bool.and_comm _ _)
  have hgo : cn (fun k => decide (τ5.2.1 5 k ≠ 3) && !(decide (σ5.2.1 16 k = nI (rd + 1)))) th = cn (fun k => decide (σ.2.1 8 k ≠ 3) && !(decide (σ5.2.1 16 k = nI (rd + 1)))) th := cn_congr (fun k hk => by rw [h5', ← (hK k hk).1])
  have hsum := cn_split (fun k => decide (σ.2.1 8 k ≠ 3)) (fun k => decide (σ5.2.1 16 k = nI (rd + 1))) th
  rw [hcn] at hsum
  generalize hA : cn (fun k => decide (σ.2.1 8 k ≠ 3) && decide (σ5.2.1 16 k = nI (rd + 1))) th = A at hkp hsum
  generalize hD : cn (fun k => decide (σ.2.1 8 k ≠ 3) && !(decide (σ5.2.1 16 k = nI (rd + 1)))) th = D at hgo hsum
  rw [hkp] at p1
  rw [hgo] at q1
  have ed1 : nI tr - nI A = nI D := by rw [hsum]; exact nI_subl A D
  have ed2 : τ5.1 2 - nI D = nI A := by rw [m1 2 (by decide), s5, hsum, Nat.add_comm]; exact nI_subl D A
  rw [ed1] at p1
  rw [ed2] at q1
  -- the new states
  have st' : ∀ k, k < th → σ6.2.1 8 k = if σ.2.1 8 k ≠ 3 ∧ ¬ σ5.2.1 16 k = nI (rd + 1) then 3 else σ.2.1 8 k := by
    intro k hk
    rw [p6 k, h8]
    by_cases z1 : σ.2.1 8 k = 3 <;> by_cases z2 : σ5.2.1 16 k = nI (rd + 1) <;> simp [z1, z2, hk]
  have stM : ∀ k, k < th → τ6.2.1 5 k = σ6.2.1 8 k := by
    intro k hk
    rw [q5 k hk, st' k hk, h5', ← (hK k hk).1]
    by_cases z1 : σ.2.1 8 k = 3 <;> by_cases z2 : σ5.2.1 16 k = nI (rd + 1) <;> simp [z1, z2]
  have mkd : ∀ k, k < th → σ5.2.1 16 k = nI (rd + 1) → σ6.2.1 8 k = σ.2.1 8 k ∧ σ6.2.1 8 k ≠ 3 := by
    intro k hk z
    have e : σ6.2.1 8 k = σ.2.1 8 k := by rw [st' k hk, if_neg (fun q => q.2 z)]
    exact ⟨e, by rw [e]; exact (w7 k hk z).1⟩
  -- the frames
  have I : ∀ j, j ≠ 11 → j ≠ 15 → j ≠ 16 → (sv σ6 15 (nI A)).1 j = σ.1 j := fun j h11 h15 h16 => by
    show up σ6.1 15 _ j = _
    rw [up_ne _ _ h15, p2, g1 j h16]; exact up_ne _ _ h11
  have Rw : ∀ j, j ≠ 7 → j ≠ 8 → j ≠ 16 → j ≠ 17 → j ≠ 18 → (sv σ6 15 (nI A)).2.1 j = σ.2.1 j := fun j h7 h8 h16 h17 h18 => by
    show σ6.2.1 j = _
    rw [p3 j h8 h17]; exact g2 j h7 h16 h18
  have Lg : (sv σ6 15 (nI A)).2.2 = σ.2.2 := by show σ6.2.2 = _; rw [p4, g3]; rfl
  have IM : ∀ j, j ≠ 2 → j ≠ 21 → (sv τ6 2 (nI A)).1 j = τ.1 j := fun j h2 h21 => by
    show up τ6.1 2 _ j = _
    rw [up_ne _ _ h2, q2, m1 j h21]
  have RM : ∀ j, j ≠ 5 → j ≠ 19 → j ≠ 20 → j ≠ 21 → (sv τ6 2 (nI A)).2.1 j = τ.2.1 j := fun j h5 h19 h20 h21 => by
    show τ6.2.1 j = _
    rw [q3 j h5]; exact m2 j h19 h20 h21
  have LM : (sv τ6 2 (nI A)).2.2 = τ.2.2 := by show τ6.2.2 = _; rw [q4, m3]
  have S8 : (sv σ6 15 (nI A)).2.1 8 = σ6.2.1 8 := rfl
  have M5 : (sv τ6 2 (nI A)).2.1 5 = τ6.2.1 5 := rfl
  have PWv : ∀ y, PW (rd + 1) pl σ5 y → Pv (fun p => p < pl ∧ σ5.2.1 7 p = nI (rd + 1)) y := by
    intro y z
    rcases z with z | ⟨p, z1, z2, z3⟩
    · exact Or.inl z
    · exact Or.inr ⟨p, z2, z1, z3⟩
  -- a value kept
  have VOk : ∀ {so : Int32} {xn : Int64} {x1 x2 : Int32} {yn : Int64} {y1 y2 : Int32}, VO (LD tm lk (σ.2.1 1)) th (σ.2.1 8) (σ.2.1 6) pl GP so xn x1 x2 yn y1 y2 → CV (rd + 1) th pl σ5 so x1 x2 → VO (LD tm lk (σ.2.1 1)) th (σ6.2.1 8) (σ.2.1 6) pl (fun p => p < pl ∧ σ5.2.1 7 p = nI (rd + 1)) so xn x1 x2 yn y1 y2 := by
    intro so xn x1 x2 yn y1 y2 v c
    rcases v with v | ⟨v1, v2, v3, v4⟩ | ⟨v1, k1, k2, v2, v3, v4, v5, v6, v7, v8, v9⟩
    · exact Or.inl v
    · exact Or.inr (Or.inl ⟨v1, v2, PWv _ (c.1 v1), v4⟩)
    · obtain ⟨k1', k2', u1, u2, u3, u4, u5, u6⟩ := c.2 v1
      have z1 := (nI_eq (by omega) (by omega)).mp (v4.symm.trans u3)
      have z2 := (nI_eq (by omega) (by omega)).mp (v6.symm.trans u4)
      subst z1 z2
      exact Or.inr (Or.inr ⟨v1, k1, k2, v2, v3, v4, v5, v6, v7, (mkd k1 v2 u5).2, (mkd k2 v3 u6).2⟩)
  refine ⟨nI D, sv σ6 15 (nI A), sv τ6 2 (nI A), ?_, ?_, ?_, I 0 (by decide) (by decide) (by decide), IM 20 (by decide) (by decide)⟩
  · -- the class
    refine bv (t := sv (sv σ 11 (nI (rd + 1))) 16 0) (by rw [ra4, nI_1]; rfl) (bv d1 (bv e1 (f1 _ (bi (r := nI D) (t := sv σ6 15 (nI A)) ?_ rfl))))
    rw [g1 11 (by decide)]
    show K_Th_keepReached_10 gw_N σ5 (nI (rd + 1)) 0 (σ5.1 15) 0 = _
    rw [g1 15 (by decide), show (sv σ 11 (nI (rd + 1))).1 15 = σ.1 15 from rfl, s4]
    exact p1
  · -- the reference
    exact a1 _ (c1 _ (bv (d2 _ e2) (f2 _ q1)))
  · refine ⟨th, A, pl, ln, gr, fun p => p < pl ∧ σ5.2.1 7 p = nI (rd + 1), ⟨⟨?_, ?_, ?_⟩, ⟨?_, ?_, rd + 1, by omega, ?_, ?_, ?_⟩, ⟨?_, ?_, s3, rfl, rfl, by omega, ?_, ?_, s9, ?_, ?_, s12, ?_, ?_, s15, s16, ?_, ?_, ?_, ?_, ?_⟩, ⟨fun p hp => ?_, fun p hp => ?_⟩, fun k hk => ?_, fun i hi => ?_, ?_, ?_⟩, ?_, ?_, ?_, ?_⟩
    · rw [I 12 (by decide) (by decide) (by decide)]; exact tt1
    · rw [IM 0 (by decide) (by decide)]; exact tt2
    · rw [Rw 0 (by decide) (by decide) (by decide) (by decide) (by decide), Rw 1 (by decide) (by decide) (by decide) (by decide) (by decide), Rw 2 (by decide) (by decide) (by decide) (by decide) (by decide), Rw 3 (by decide) (by decide) (by decide) (by decide) (by decide), Rw 4 (by decide) (by decide) (by decide) (by decide) (by decide), Lg, RM 0 (by decide) (by decide) (by decide) (by decide), RM 1 (by decide) (by decide) (by decide) (by decide), RM 2 (by decide) (by decide) (by decide) (by decide), RM 3 (by decide) (by decide) (by decide) (by decide), RM 4 (by decide) (by decide) (by decide) (by decide), LM]; exact tt3
    · rw [I 10 (by decide) (by decide) (by decide), IM 19 (by decide) (by decide)]; exact ra1
    · rw [I 10 (by decide) (by decide) (by decide)]; exact ra2
    · show σ6.1 11 = nI (rd + 1)
      rw [p2, g1 11 (by decide)]; rfl
    · intro k hk
      show ∃ j : Nat, j ≤ rd + 1 ∧ σ6.2.1 16 k = nI j
      rw [p3 16 (by decide) (by decide)]; exact w9 k hk
    · intro k hk
      show ∃ j : Nat, j ≤ rd + 1 ∧ σ6.2.1 7 k = nI j
      rw [p3 7 (by decide) (by decide)]; exact w10 k hk
    · rw [I 14 (by decide) (by decide) (by decide)]; exact s1
    · rw [IM 1 (by decide) (by decide)]; exact s2
    · rw [I 13 (by decide) (by decide) (by decide)]; exact s7
    · rw [IM 3 (by decide) (by decide)]; exact s8
    · rw [I 17 (by decide) (by decide) (by decide)]; exact s10
    · rw [IM 4 (by decide) (by decide)]; exact s11
    · rw [I 18 (by decide) (by decide) (by decide)]; exact s13
    · rw [IM 5 (by decide) (by decide)]; exact s14
    · rw [I 6 (by decide) (by decide) (by decide), IM 15 (by decide) (by decide)]; exact s17
    · rw [I 7 (by decide) (by decide) (by decide), IM 16 (by decide) (by decide)]; exact s18
    · rw [I 8 (by decide) (by decide) (by decide), IM 17 (by decide) (by decide)]; exact s19
    · rw [I 1 (by decide) (by decide) (by decide), IM 14 (by decide) (by decide)]; exact s20
    · rw [I 1 (by decide) (by decide) (by decide)]; exact s21
    · rw [Rw 5 (by decide) (by decide) (by decide) (by decide) (by decide), Rw 6 (by decide) (by decide) (by decide) (by decide) (by decide), RM 14 (by decide) (by decide) (by decide) (by decide), RM 15 (by decide) (by decide) (by decide) (by decide)]
      exact hP.1 p hp
    · rw [Rw 5 (by decide) (by decide) (by decide) (by decide) (by decide), Rw 6 (by decide) (by decide) (by decide) (by decide) (by decide)]
      obtain ⟨z1, ⟨k, z2, z3, z4⟩, z5⟩ := w8 p hp.1 hp.2
      refine ⟨hp.1, ⟨k, z2, z3, ?_⟩, ?_⟩
      · rcases z4 with z4 | z4
        · exact (mkd k z2 z4).2
        · omega
      · rcases z5 with z5 | z5
        · exact PWv _ z5
        · exact Or.inl z5
    · -- a thing
      rw [Rw 1 (by decide) (by decide) (by decide) (by decide) (by decide), I 1 (by decide) (by decide) (by decide), Rw 6 (by decide) (by decide) (by decide) (by decide) (by decide), Rw 9 (by decide) (by decide) (by decide) (by decide) (by decide), Rw 10 (by decide) (by decide) (by decide) (by decide) (by decide), Rw 11 (by decide) (by decide) (by decide) (by decide) (by decide), Rw 12 (by decide) (by decide) (by decide) (by decide) (by decide), Rw 13 (by decide) (by decide) (by decide) (by decide) (by decide), Lg, Rw 14 (by decide) (by decide) (by decide) (by decide) (by decide), Rw 15 (by decide) (by decide) (by decide) (by decide) (by decide), RM 6 (by decide) (by decide) (by decide) (by decide), RM 7 (by decide) (by decide) (by decide) (by decide), RM 11 (by decide) (by decide) (by decide) (by decide), RM 12 (by decide) (by decide) (by decide) (by decide), RM 13 (by decide) (by decide) (by decide) (by decide), RM 8 (by decide) (by decide) (by decide) (by decide), LM, RM 9 (by decide) (by decide) (by decide) (by decide), RM 10 (by decide) (by decide) (by decide) (by decide), S8, M5]
      obtain ⟨k1, k2, k3, k4, k5, ⟨t, d, k6, k7, k8⟩, k9, k10, k11, k12⟩ := hK k hk
      by_cases z : σ5.2.1 16 k = nI (rd + 1)
      · obtain ⟨y1, y2⟩ := mkd k hk z
        obtain ⟨cl1, cl2⟩ := f4 k hk z
        rw [stM k hk, y1]
        refine ⟨rfl, k2, k3, k4, k5, ⟨t, d, k6, k7, fun q => ⟨(k8 q).1, PWv _ (cl1 q)⟩⟩, ?_, k10, k11, k12⟩
        rcases k9 with k9 | k9 | ⟨k9, k13, k14⟩ | k9
        · exact Or.inl k9
        · exact Or.inr (Or.inl k9)
        · exact Or.inr (Or.inr (Or.inl ⟨k9, k13, VOk k14 (cl2 k9)⟩))
        · exact Or.inr (Or.inr (Or.inr k9))
      · have y1 : σ6.2.1 8 k = 3 := by
          rw [st' k hk]
          by_cases y : σ.2.1 8 k = 3
          · rw [if_neg (fun q => q.1 y)]; exact y
          · rw [if_pos ⟨y, z⟩]
        rw [stM k hk, y1]
        exact ⟨rfl, k2, k3, k4, k5, ⟨t, d, k6, k7, fun q => absurd q (by decide)⟩, Or.inr (Or.inr (Or.inr rfl)), k10, fun _ q => absurd q (by decide), k12⟩
    · -- an entry
      rw [Rw 0 (by decide) (by decide) (by decide) (by decide) (by decide), I 1 (by decide) (by decide) (by decide), Rw 6 (by decide) (by decide) (by decide) (by decide) (by decide), Rw 19 (by decide) (by decide) (by decide) (by decide) (by decide), Rw 20 (by decide) (by decide) (by decide) (by decide) (by decide), Rw 21 (by decide) (by decide) (by decide) (by decide) (by decide), Lg, RM 16 (by decide) (by decide) (by decide) (by decide), RM 17 (by decide) (by decide) (by decide) (by decide), RM 18 (by decide) (by decide) (by decide) (by decide), LM, S8]
      obtain ⟨e0, e⟩ := hE i hi
      obtain ⟨ec1, ec2⟩ := hE4 i hi
      refine ⟨e0, ?_⟩
      rcases e with ⟨e, u1, u2, k, u3, u4, u5⟩ | ⟨e, u2, k, u3, u4, u5⟩ | ⟨e, u1, u2, u3, u4⟩ | e | ⟨e, u1, u2, u3, u4⟩ | e | e
      · obtain ⟨k', v1, v2, v3⟩ := ec1 (Or.inl e)
        have := (nI_eq (by omega) (by omega)).mp (u4.symm.trans v2)
        subst this
        exact Or.inl ⟨e, u1, u2, k, u3, u4, (mkd k u3 v3).2⟩
      · obtain ⟨k', v1, v2, v3⟩ := ec1 (Or.inr e)
        have := (nI_eq (by omega) (by omega)).mp (u4.symm.trans v2)
        subst this
        exact Or.inr (Or.inl ⟨e, u2, k, u3, u4, (mkd k u3 v3).2⟩)
      · exact Or.inr (Or.inr (Or.inl ⟨e, u1, u2, PWv _ (ec2 (Or.inl e)), u4⟩))
      · exact Or.inr (Or.inr (Or.inr (Or.inl e)))
      · exact Or.inr (Or.inr (Or.inr (Or.inr (Or.inl ⟨e, u1, u2, PWv _ (ec2 (Or.inr e)), u4⟩))))
      · exact Or.inr (Or.inr (Or.inr (Or.inr (Or.inr (Or.inl e)))))
      · exact Or.inr (Or.inr (Or.inr (Or.inr (Or.inr (Or.inr e)))))
    · -- the list: how long
      have el : (List.range th).filter (fun k => decide (σ6.2.1 8 k ≠ 3)) = ((List.range th).filter (fun k => decide (σ.2.1 8 k ≠ 3))).filter (fun k => decide (σ5.2.1 16 k = nI (rd + 1))) := by
        rw [List.filter_filter]
        apply List.filter_congr
        intro k hk
        rw [st' k (List.mem_range.mp hk)]
        by_cases z1 : σ.2.1 8 k = 3 <;> by_cases z2 : σ5.2.1 16 k = nI (rd + 1) <;> simp [z1, z2]
      show A = ((List.range th).filter (fun k => decide (σ6.2.1 8 k ≠ 3))).length
      rw [el, hkp]
    · have el : (List.range th).filter (fun k => decide (σ6.2.1 8 k ≠ 3)) = ((List.range th).filter (fun k => decide (σ.2.1 8 k ≠ 3))).filter (fun k => decide (σ5.2.1 16 k = nI (rd + 1))) := by
        rw [List.filter_filter]
        apply List.filter_congr
        intro k hk
        rw [st' k (List.mem_range.mp hk)]
        by_cases z1 : σ.2.1 8 k = 3 <;> by_cases z2 : σ5.2.1 16 k = nI (rd + 1) <;> simp [z1, z2]
      show ∀ i (h : i < ((List.range th).filter (fun k => decide (σ6.2.1 8 k ≠ 3))).length), σ6.2.1 17 i = nI (((List.range th).filter (fun k => decide (σ6.2.1 8 k ≠ 3)))[i])
      rw [el]
      exact p5
    · -- the hand
      show RH _ _ _ _ _ _ _ _ _
      unfold RH
      rw [Rw 1 (by decide) (by decide) (by decide) (by decide) (by decide), Rw 6 (by decide) (by decide) (by decide) (by decide) (by decide), I 2 (by decide) (by decide) (by decide), I 3 (by decide) (by decide) (by decide), I 4 (by decide) (by decide) (by decide), I 5 (by decide) (by decide) (by decide), I 19 (by decide) (by decide) (by decide), I 20 (by decide) (by decide) (by decide), I 21 (by decide) (by decide) (by decide), Lg, IM 7 (by decide) (by decide), IM 8 (by decide) (by decide), IM 9 (by decide) (by decide), IM 10 (by decide) (by decide), IM 11 (by decide) (by decide), IM 12 (by decide) (by decide), LM, S8]
      obtain ⟨hc0, hc1, hc2⟩ := hC4
      rcases hH with ⟨u0, u1, u2, u3, u4⟩ | ⟨u0, u1, u2⟩ | ⟨u0, u1, k, u2, u3, u4⟩
      · exact Or.inl ⟨u0, u1, u2, PWv _ (hc0 u0), u4⟩
      · exact Or.inr (Or.inl ⟨u0, u1, VOk u2 (hc1 u0)⟩)
      · obtain ⟨k', v1, v2, v3⟩ := hc2 u0
        have := (nI_eq (by omega) (by omega)).mp (u3.symm.trans v2)
        subst this
        exact Or.inr (Or.inr ⟨u0, u1, k, u2, u3, (mkd k u2 v3).2⟩)
    · rw [I 2 (by decide) (by decide) (by decide), IM 6 (by decide) (by decide)]; exact hh
    · rw [I 0 (by decide) (by decide) (by decide), IM 13 (by decide) (by decide)]; exact ho
    · unfold RO
      rw [I 0 (by decide) (by decide) (by decide), I 2 (by decide) (by decide) (by decide), I 9 (by decide) (by decide) (by decide), IM 18 (by decide) (by decide)]; exact hO
theorem Rel_RR {n : Nat} {σ τ : St} (h : Rel n σ τ) (hn : ¬ σ.1 0 = 0) : ∃ tm lk, RR (6000 * n) tm lk σ τ := by
  obtain ⟨tm, lk, c1, c2, hT, hA, hR⟩ := h
  rcases hR with ⟨a1, _⟩ | ⟨th, tr, pl, ln, gr, GP, ⟨s1, s2, s3, s4, s5, s6, s7, s8, s9, s10, s11, s12, s13, s14, s15, s16, s17, s18, s19, s20, s21, s22, s23⟩, hO, hP, hK, hH, hE, hL⟩
  · exact absurd a1 hn
  · exact ⟨tm, lk, th, tr, pl, ln, gr, GP, ⟨⟨c1, c2, hT⟩, hA, ⟨s1, s2, s3, s4, s5, s6, s7, s8, s9, s10, s11, s12, s13, s14, by omega, s16, s17, s18, s19, s20, s21⟩, hP, hK, hE, hL⟩, hH, s22, s23, hO⟩
theorem RR_Rel {n R tm : Nat} {lk : Nat → Nat} {σ τ : St} (h : RR R tm lk σ τ) (hR : R ≤ 6000 * n) : Rel n σ τ := by
  obtain ⟨th, tr, pl, ln, gr, GP, ⟨⟨c1, c2, hT⟩, ⟨A1, A2, rd, A3, A4⟩, ⟨s1, s2, s3, s4, s5, s6, s7, s8, s9, s10, s11, s12, s13, s14, s15, s16, s17, s18, s19, s20, s21⟩, hP, hK, hE, hL⟩, hH, s22, s23, hO⟩ := h
  exact ⟨tm, lk, c1, c2, hT, ⟨A1, A2, rd, by omega, A4⟩, Or.inr ⟨th, tr, pl, ln, gr, GP, ⟨s1, s2, s3, s4, s5, s6, s7, s8, s9, s10, s11, s12, s13, s14, by omega, s16, s17, s18, s19, s20, s21, s22, s23⟩, hO, hP, hK, hH, hE, hL⟩⟩
theorem RR_thr {R tm : Nat} {lk : Nat → Nat} {σ τ : St} (h : RR R tm lk σ τ) (x : Int32) : RR R tm lk σ (sv τ 20 x) := by
  obtain ⟨th, tr, pl, ln, gr, GP, h⟩ := h
  exact ⟨th, tr, pl, ln, gr, GP, h⟩
theorem RR_le {R R' tm : Nat} {lk : Nat → Nat} {σ τ : St} (h : RR R tm lk σ τ) (hR : R ≤ R') : RR R' tm lk σ τ := by
  obtain ⟨th, tr, pl, ln, gr, GP, ⟨hT, ⟨A1, A2, rd, A3, A4⟩, hM⟩, h⟩ := h
  exact ⟨th, tr, pl, ln, gr, GP, ⟨hT, ⟨A1, A2, rd, by omega, A4⟩, hM⟩, h⟩
theorem sim_collect : Sim_collect Rel := by
  intro n σ τ hn h
  obtain ⟨h1, -⟩ := Rel_done h
  by_cases q : σ.1 0 = 0
  · exact ⟨_, _, _, _, _, _, bT (ip q rfl) (iN (by decide) rfl), ip (by rw [← h1]; exact q) rfl, rfl, Rel_thr h 1, Or.inr ⟨rfl, rfl⟩⟩
  · obtain ⟨tm, lk, hr⟩ := Rel_RR h q
    obtain ⟨v, σ', τ', a1, a2, a3, a4, a5⟩ := sweep_ok (RR_thr hr 0) (by omega)
    exact ⟨0, v, σ', v, τ', 0, bT (iN q rfl) (ip rfl (bi a1 rfl)), iN (by rw [← h1]; exact q) (bi a2 rfl), by unfold F_Mo_thrown; rw [a5]; rfl, RR_Rel a3 (by omega), Or.inl ⟨rfl, rfl, rfl⟩⟩
/-- steps leave the reference's code alone: what a step does, with the code kept -/
theorem run_loop {tm : Nat} {lk : Nat → Nat} {a : Nat} (ha : a ≤ 5000) (hkeep : ∀ τ τ' : St, F_Mo_step τ = some τ' → τ'.1 20 = τ.1 20) : ∀ (m c f g R : Nat) (σ τ : St), c + m = a → m < f → m < g → R + m < 2 ^ 31 → RR R tm lk σ τ →
    ∃ (v : Int32) (σ' τ' : St), K_Gw_run_27 f σ (nI a) (nI c) = some ((0, v), σ') ∧ K_Mo_run_37 g τ (nI a) (nI c) = some (v, τ') ∧ RR (R + m) tm lk σ' τ' ∧ τ'.1 20 = τ.1 20 := by
  intro m
  induction m with
  | zero =>
    intro c f g R σ τ hc hf hg hR h
    obtain ⟨f, rfl⟩ : ∃ f', f = f' + 1 := ⟨f - 1, by omega⟩
    obtain ⟨g, rfl⟩ : ∃ g', g = g' + 1 := ⟨g - 1, by omega⟩
    exact ⟨nI c, σ, τ, ip (nI_le (by omega) (by omega)) rfl, ip (nI_le (by omega) (by omega)) rfl, h, rfl⟩
  | succ m ih =>
    intro c f g R σ τ hc hf hg hR h
    obtain ⟨f, rfl⟩ : ∃ f', f = f' + 1 := ⟨f - 1, by omega⟩
    obtain ⟨g, rfl⟩ : ∃ g', g = g' + 1 := ⟨g - 1, by omega⟩
    have n1 : ¬ nI a ≤ nI c := nI_ge (by omega) (by omega)
    have e1 : nI c + 1 = nI (c + 1) := nI_1 c
    obtain ⟨th, tr, pl, ln, gr, GP, ⟨hT, ⟨A1, ⟨pc, A2, A5⟩, rd, A3, A4⟩, hN, hM⟩, hH, hh, ho, hO⟩ := id h
    have s17 : σ.1 6 = τ.1 15 := hN.2.2.2.2.2.2.2.2.2.2.2.2.2.2.2.2.1
    by_cases o : σ.1 0 = 1
    · have o' : τ.1 13 = 1 := ho.symm.trans o
      by_cases p0 : σ.1 10 ≤ 0
      · have p0' : τ.1 19 ≤ 0 := by rw [← A1]; exact p0
        obtain ⟨σ1, τ1, b1, b2, b3⟩ := step_ok h o
        obtain ⟨v, σ2, τ2, c1, c2, c3, c4⟩ := ih (c + 1) f g R σ1 τ1 (by omega) (by omega) (by omega) (by omega) b3
        exact ⟨v, σ2, τ2, iN n1 (ip o (bv (ip p0 b1) (by rw [e1]; exact c1))), iN n1 (ip o' (ip p0' (bv b2 (by rw [e1]; exact c2)))), RR_le c3 (by omega), c4.trans (hkeep _ _ b2)⟩
      · have p0' : ¬ τ.1 19 ≤ 0 := by rw [← A1]; exact p0
        have pz : ¬ σ.1 10 = 0 := fun q => p0 (by rw [q]; decide)
        have pz' : ¬ τ.1 19 = 0 := by rw [← A1]; exact pz
        by_cases d : σ.1 6 - σ.1 6 / σ.1 10 * σ.1 10 = 0
        · have d' : τ.1 15 - τ.1 15 / τ.1 19 * τ.1 19 = 0 := by rw [← A1, ← s17]; exact d
          obtain ⟨v0, σ0, τ0, a1, a2, a3, a4, a5⟩ := sweep_ok h (by omega)
          obtain ⟨σ1, τ1, b1, b2, b3⟩ := step_ok a3 (a4.trans o)
          obtain ⟨v, σ2, τ2, c1, c2, c3, c4⟩ := ih (c + 1) f g (R + 1) σ1 τ1 (by omega) (by omega) (by omega) (by omega) b3
          exact ⟨v, σ2, τ2, iN n1 (ip o (bv (iN p0 (ip pz (ip d (bi a1 b1)))) (by rw [e1]; exact c1))), iN n1 (ip o' (iN p0' (ip pz' (ip d' (bi a2 (bv b2 (by rw [e1]; exact c2))))))), RR_le c3 (by omega), (c4.trans (hkeep _ _ b2)).trans a5⟩
        · have d' : ¬ τ.1 15 - τ.1 15 / τ.1 19 * τ.1 19 = 0 := by rw [← A1, ← s17]; exact d
          obtain ⟨σ1, τ1, b1, b2, b3⟩ := step_ok h o
          obtain ⟨v, σ2, τ2, c1, c2, c3, c4⟩ := ih (c + 1) f g R σ1 τ1 (by omega) (by omega) (by omega) (by omega) b3
          exact ⟨v, σ2, τ2, iN n1 (ip o (bv (iN p0 (ip pz (iN d b1))) (by rw [e1]; exact c1))), iN n1 (ip o' (iN p0' (ip pz' (iN d' (bv b2 (by rw [e1]; exact c2)))))), RR_le c3 (by omega), c4.trans (hkeep _ _ b2)⟩
    · exact ⟨nI c, σ, τ, iN n1 (iN o rfl), iN n1 (iN (by rw [← ho]; exact o) rfl), RR_le h (by omega), rfl⟩
