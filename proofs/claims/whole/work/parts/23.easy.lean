/-! PURE, 3: the calls that ask, begin, into, every -/
theorem Rel_done {n : Nat} {σ τ : St} (h : Rel n σ τ) : σ.1 0 = τ.1 13 ∧ (σ.1 0 = 2 → σ.1 19 = τ.1 10 ∧ (σ.1 19 = 0 → σ.2.2.1 0 = τ.2.2.1 0)) := by
  obtain ⟨tm, lk, h1, h2, h3, h4, hR⟩ := h
  rcases hR with ⟨a1, a2, a3⟩ | ⟨th, tr, pl, ln, gr, GP, hS, hO, hP, hK, hH, hE, hL⟩
  · exact ⟨by rw [a1, a2], fun q => absurd (a1.symm.trans q) (by decide)⟩
  · obtain ⟨-, -, -, -, -, -, -, -, -, -, -, -, -, -, -, -, -, -, -, -, -, s1, s2⟩ := hS
    refine ⟨s2, fun q => ?_⟩
    have hh : σ.1 2 = 1 := by
      rcases hO with ⟨o, _⟩ | ⟨_, o, _⟩ | ⟨o, _⟩ | o | o
      · exact absurd (o.symm.trans q) (by decide)
      · exact o
      · exact absurd (o.symm.trans q) (by decide)
      · exact absurd (o.symm.trans q) (by decide)
      · exact absurd (o.symm.trans q) (by decide)
    rcases hH with ⟨o, _⟩ | ⟨_, o, v⟩ | ⟨o, _⟩
    · exact absurd (o.symm.trans hh) (by decide)
    · refine ⟨o, fun z => ?_⟩
      rcases v with ⟨_, v⟩ | ⟨v, _⟩ | ⟨v, _⟩
      · exact v
      · exact absurd (v.symm.trans z) (by decide)
      · exact absurd (v.symm.trans z) (by decide)
    · exact absurd (o.symm.trans hh) (by decide)
theorem sim_outcome : Sim_outcome Rel := by
  intro n σ τ hn h
  exact ⟨_, _, _, rfl, by rw [(Rel_done h).1]; rfl, Rel_thr h 0⟩
theorem sim_sort : Sim_sort Rel := by
  intro n σ τ hn h
  obtain ⟨h1, h2⟩ := Rel_done h
  by_cases q : σ.1 0 = 2
  · exact ⟨_, _, _, ip q rfl, ip (by rw [← h1]; exact q) (by rw [(h2 q).1]), Rel_thr h 0⟩
  · exact ⟨_, _, _, iN q rfl, iN (by rw [← h1]; exact q) rfl, Rel_thr h 0⟩
theorem sim_value : Sim_value Rel := by
  intro n σ τ hn h
  obtain ⟨h1, h2⟩ := Rel_done h
  by_cases q : σ.1 0 = 2
  · obtain ⟨h3, h4⟩ := h2 q
    by_cases p : σ.1 19 = 0
    · exact ⟨_, _, _, ip q (ip p rfl), ip (by rw [← h1]; exact q) (ip (by rw [← h3]; exact p) (by rw [h4 p])), Rel_thr h 0⟩
    · exact ⟨_, _, _, ip q (iN p rfl), ip (by rw [← h1]; exact q) (iN (by rw [← h3]; exact p) rfl), Rel_thr h 0⟩
  · exact ⟨_, _, _, iN q rfl, iN (by rw [← h1]; exact q) rfl, Rel_thr h 0⟩
theorem run_ne0 {ln : Nat} {σ τ : St} (h : RO ln σ τ) : ¬ σ.1 0 = 0 := by
  intro q
  rcases h with ⟨o, _⟩ | ⟨o, _, _⟩ | ⟨o, _⟩ | o | o <;> exact absurd (o.symm.trans q) (by decide)
theorem sim_told : Sim_told Rel := by
  intro n σ τ a0 hn h
  obtain ⟨h1, -⟩ := Rel_done h
  by_cases h0 : a0 < 0
  · exact ⟨_, _, _, _, _, _, ip h0 rfl, ip h0 rfl, rfl, Rel_thr h 1, Or.inr ⟨rfl, rfl⟩⟩
  by_cases h7 : a0 ≤ 7
  · obtain ⟨tm, lk, -, -, -, -, hR⟩ := id h
    rcases hR with ⟨a1, a2, a3⟩ | ⟨th, tr, pl, ln, gr, GP, hS, hO, hP, hK, hH, hE, hL⟩
    · exact ⟨_, _, _, _, _, _, iN h0 (ip h7 (ip a1 rfl)), iN h0 (ip h7 (ip a2 rfl)), rfl, Rel_thr h 0, Or.inl ⟨rfl, rfl, rfl⟩⟩
    · have b1 : ¬ σ.1 0 = 0 := run_ne0 hO
      have b2 : ¬ τ.1 13 = 0 := by rw [← h1]; exact b1
      obtain ⟨s1, s2, -, s3, s4, -, s5, s6, -, s7, s8, -, s9, s10, -, -, s11, s12, s13, -, -, -, -⟩ := hS
      obtain ⟨i, hi, rfl⟩ := nI_of2 (n := 7) rfl h0 h7
      rcases (show i = 0 ∨ i = 1 ∨ i = 2 ∨ i = 3 ∨ i = 4 ∨ i = 5 ∨ i = 6 ∨ i = 7 by omega) with rfl | rfl | rfl | rfl | rfl | rfl | rfl | rfl
      · exact ⟨_, _, _, _, _, _, iN h0 (ip h7 (iN b1 (bi (ip rfl rfl) rfl))), iN h0 (ip h7 (iN b2 (ip rfl rfl))), rfl, Rel_thr h 0, Or.inl ⟨rfl, rfl, s11⟩⟩
      · exact ⟨_, _, _, _, _, _, iN h0 (ip h7 (iN b1 (bi (iN (by decide) (ip rfl rfl)) rfl))), iN h0 (ip h7 (iN b2 (iN (by decide) (ip rfl rfl)))), rfl, Rel_thr h 0, Or.inl ⟨rfl, rfl, s1.trans s2.symm⟩⟩
      · exact ⟨_, _, _, _, _, _, iN h0 (ip h7 (iN b1 (bi (iN (by decide) (iN (by decide) (ip rfl rfl))) rfl))), iN h0 (ip h7 (iN b2 (iN (by decide) (iN (by decide) (ip rfl rfl))))), rfl, Rel_thr h 0, Or.inl ⟨rfl, rfl, s3.trans s4.symm⟩⟩
      · exact ⟨_, _, _, _, _, _, iN h0 (ip h7 (iN b1 (bi (iN (by decide) (iN (by decide) (iN (by decide) (ip rfl rfl)))) rfl))), iN h0 (ip h7 (iN b2 (iN (by decide) (iN (by decide) (iN (by decide) (ip rfl rfl)))))), rfl, Rel_thr h 0, Or.inl ⟨rfl, rfl, s7.trans s8.symm⟩⟩
      · exact ⟨_, _, _, _, _, _, iN h0 (ip h7 (iN b1 (bi (iN (by decide) (iN (by decide) (iN (by decide) (iN (by decide) (ip rfl rfl))))) rfl))), iN h0 (ip h7 (iN b2 (iN (by decide) (iN (by decide) (iN (by decide) (iN (by decide) (ip rfl rfl))))))), rfl, Rel_thr h 0, Or.inl ⟨rfl, rfl, s9.trans s10.symm⟩⟩
      · exact ⟨_, _, _, _, _, _, iN h0 (ip h7 (iN b1 (bi (iN (by decide) (iN (by decide) (iN (by decide) (iN (by decide) (iN (by decide) (ip rfl rfl)))))) rfl))), iN h0 (ip h7 (iN b2 (iN (by decide) (iN (by decide) (iN (by decide) (iN (by decide) (iN (by decide) (ip rfl rfl)))))))), rfl, Rel_thr h 0, Or.inl ⟨rfl, rfl, s12⟩⟩
      · exact ⟨_, _, _, _, _, _, iN h0 (ip h7 (iN b1 (bi (iN (by decide) (iN (by decide) (iN (by decide) (iN (by decide) (iN (by decide) (iN (by decide) (ip rfl rfl))))))) rfl))), iN h0 (ip h7 (iN b2 (iN (by decide) (iN (by decide) (iN (by decide) (iN (by decide) (iN (by decide) (iN (by decide) (ip rfl rfl))))))))), rfl, Rel_thr h 0, Or.inl ⟨rfl, rfl, s13⟩⟩
      · exact ⟨_, _, _, _, _, _, iN h0 (ip h7 (iN b1 (bi (iN (by decide) (iN (by decide) (iN (by decide) (iN (by decide) (iN (by decide) (iN (by decide) (iN (by decide) rfl))))))) rfl))), iN h0 (ip h7 (iN b2 (iN (by decide) (iN (by decide) (iN (by decide) (iN (by decide) (iN (by decide) (iN (by decide) (iN (by decide) rfl))))))))), rfl, Rel_thr h 0, Or.inl ⟨rfl, rfl, s5.trans s6.symm⟩⟩
  · exact ⟨_, _, _, _, _, _, iN h0 (iN h7 rfl), iN h0 (iN h7 rfl), rfl, Rel_thr h 1, Or.inr ⟨rfl, rfl⟩⟩
theorem Th_has {σ : St} {th k : Nat} (c1 : σ.1 14 = nI th) (ht : th ≤ 1000) (h : k < th) : F_Th_has σ (nI k) = some (1, σ) := by
  unfold F_Th_has
  rw [if_neg (nI_pos (by omega)), c1, if_neg (nI_ge h (by omega)), if_neg (show ¬ (1000 : Int32) ≤ nI k from nI_ge (b := 1000) (by omega) (by omega))]
theorem Ro_has {σ : St} {ln i : Nat} (c1 : σ.1 17 = nI ln) (ht : ln ≤ 300) (h : i < ln) : F_Ro_has σ (nI i) = some (1, σ) := by
  unfold F_Ro_has
  rw [if_neg (nI_pos (by omega)), c1, if_neg (nI_ge h (by omega)), if_neg (show ¬ (300 : Int32) ≤ nI i from nI_ge (b := 300) (by omega) (by omega))]
theorem Pl_has {σ : St} {pl p : Nat} (c1 : σ.1 13 = nI pl) (ht : pl ≤ 1000) (h : p < pl) : F_Pl_has σ (nI p) = some (1, σ) := by
  unfold F_Pl_has
  rw [if_neg (nI_pos (by omega)), c1, if_neg (nI_ge h (by omega)), if_neg (show ¬ (1000 : Int32) ≤ nI p from nI_ge (b := 1000) (by omega) (by omega))]
theorem Th_get {σ : St} {th k : Nat} (c1 : σ.1 14 = nI th) (ht : th ≤ 1000) (h : k < th) :
    F_Th_stateOf σ (nI k) = some (σ.2.1 8 k, σ) ∧ F_Th_termOf σ (nI k) = some (σ.2.1 9 k, σ) ∧ F_Th_placesOf σ (nI k) = some (σ.2.1 10 k, σ) ∧ F_Th_timesOf σ (nI k) = some (σ.2.1 11 k, σ) ∧ F_Th_neederOf σ (nI k) = some (σ.2.1 12 k, σ) ∧
    F_Th_valueSortOf σ (nI k) = some (σ.2.1 13 k, σ) ∧ F_Th_valueFirstOf σ (nI k) = some (σ.2.1 14 k, σ) ∧ F_Th_valueSecondOf σ (nI k) = some (σ.2.1 15 k, σ) := by
  have e := Th_has c1 ht h
  have ec : (nI k).toNatClampNeg = k := nI_clamp (by omega)
  exact ⟨bi e (iN one_ne0 (ig (by omega) (by omega) (by rw [ec]))), bi e (iN one_ne0 (ig (by omega) (by omega) (by rw [ec]))), bi e (iN one_ne0 (ig (by omega) (by omega) (by rw [ec]))), bi e (iN one_ne0 (ig (by omega) (by omega) (by rw [ec]))), bi e (iN one_ne0 (ig (by omega) (by omega) (by rw [ec]))), bi e (iN one_ne0 (ig (by omega) (by omega) (by rw [ec]))), bi e (iN one_ne0 (ig (by omega) (by omega) (by rw [ec]))), bi e (iN one_ne0 (ig (by omega) (by omega) (by rw [ec])))⟩
theorem Ro_get {σ : St} {ln k : Nat} (c1 : σ.1 17 = nI ln) (ht : ln ≤ 300) (h : k < ln) :
    F_Ro_kindOf σ (nI k) = some (σ.2.1 19 k, σ) ∧ F_Ro_firstOf σ (nI k) = some (σ.2.1 20 k, σ) ∧ F_Ro_secondOf σ (nI k) = some (σ.2.1 21 k, σ) ∧ F_Ro_numberOf σ (nI k) = some (σ.2.2.2 2 k, σ) := by
  have e := Ro_has c1 ht h
  have ec : (nI k).toNatClampNeg = k := nI_clamp (by omega)
  exact ⟨bi e (iN one_ne0 (ig (by omega) (by omega) (by rw [ec]))), bi e (iN one_ne0 (ig (by omega) (by omega) (by rw [ec]))), bi e (iN one_ne0 (ig (by omega) (by omega) (by rw [ec]))), bi e (iN one_ne0 (ig (by omega) (by omega) (by rw [ec])))⟩
theorem Pl_get {σ : St} {pl p : Nat} (c1 : σ.1 13 = nI pl) (ht : pl ≤ 1000) (h : p < pl) :
    F_Pl_heldBy σ (nI p) = some (σ.2.1 5 p, σ) ∧ F_Pl_outerOf σ (nI p) = some (σ.2.1 6 p, σ) := by
  have e := Pl_has c1 ht h
  have ec : (nI p).toNatClampNeg = p := nI_clamp (by omega)
  exact ⟨bi e (iN one_ne0 (ig (by omega) (by omega) (by rw [ec]))), bi e (iN one_ne0 (ig (by omega) (by omega) (by rw [ec])))⟩
theorem has_k {n : Nat} {σ τ : St} (h : Rel n σ τ) (x : Int32) :
    (∃ th k : Nat, σ.1 14 = nI th ∧ th ≤ 1000 ∧ k < th ∧ x = nI k ∧ F_Th_has σ x = some (1, σ) ∧ F_Mo_isThing τ x = some (1, τ) ∧ σ.2.1 8 k = τ.2.1 5 k ∧ σ.2.1 9 k = τ.2.1 6 k ∧ σ.2.1 11 k = τ.2.1 11 k ∧ σ.2.1 12 k = τ.2.1 12 k) ∨ (F_Th_has σ x = some (0, σ) ∧ F_Mo_isThing τ x = some (0, τ)) := by
  obtain ⟨h1, -⟩ := Rel_done h
  obtain ⟨tm, lk, -, -, -, -, hR⟩ := h
  rcases hR with ⟨a1, a2, a3, a4⟩ | ⟨th, tr, pl, ln, gr, GP, hS, hO, hP, hK, hH, hE, hL⟩
  · right
    refine ⟨?_, ip a2 rfl⟩
    by_cases h0 : x < 0
    · exact ip h0 rfl
    · obtain ⟨j, hj, rfl⟩ := nI_of h0
      exact iN h0 (ip (by rw [a3]; exact nI_pos' hj) rfl)
  · have b2 : ¬ τ.1 13 = 0 := by rw [← h1]; exact run_ne0 hO
    obtain ⟨s1, s2, s3, -⟩ := hS
    by_cases h0 : x < 0
    · exact Or.inr ⟨ip h0 rfl, iN b2 (ip h0 rfl)⟩
    · obtain ⟨j, hj, rfl⟩ := nI_of h0
      by_cases hl : j < th
      · left
        obtain ⟨k1, k2, k3, k4, k5, -⟩ := hK j hl
        exact ⟨th, j, s1, s3, hl, rfl, Th_has s1 s3 hl, iN b2 (iN h0 (iN (by rw [s2]; exact nI_ge hl (by omega)) rfl)), k1, k2, k4, k5⟩
      · right
        exact ⟨iN h0 (ip (by rw [s1]; exact nI_le (by omega) hj) rfl), iN b2 (iN h0 (ip (by rw [s2]; exact nI_le (by omega) hj) rfl))⟩
theorem sim_thing : Sim_thing Rel := by
  intro n σ τ a0 hn h
  rcases has_k h a0 with ⟨th, k, c1, ht, hk, rfl, e1, e2, q1, q2, q3, q4⟩ | ⟨e1, e2⟩
  · obtain ⟨g1, g2, g3, g4, g5, -⟩ := Th_get c1 ht hk
    exact ⟨_, _, _, _, _, _, bT (bi e1 (iN one_ne0 rfl)) (ip rfl (bi g1 rfl)), bi e2 (iN one_ne0 (ig (by omega) (by omega) rfl)), rfl, Rel_thr h 0, Or.inl ⟨rfl, rfl, by rw [nI_clamp (by omega)]; exact q1⟩⟩
  · exact ⟨_, _, _, _, _, _, bT (bi e1 (ip rfl rfl)) (iN (by decide) rfl), bi e2 (ip rfl rfl), rfl, Rel_thr h 1, Or.inr ⟨rfl, rfl⟩⟩
theorem sim_worked : Sim_worked Rel := by
  intro n σ τ a0 a1 hn h
  rcases has_k h a0 with ⟨th, k, c1, ht, hk, rfl, e1, e2, q1, q2, q3, q4⟩ | ⟨e1, e2⟩
  · obtain ⟨g1, g2, g3, g4, g5, -⟩ := Th_get c1 ht hk
    have ec : (nI k).toNatClampNeg = k := nI_clamp (by omega)
    by_cases h0 : a1 < 0
    · exact ⟨_, _, _, _, _, _, bT (bi e1 (iN one_ne0 rfl)) (ip rfl (ip h0 rfl)), bi e2 (iN one_ne0 (ip h0 rfl)), rfl, Rel_thr h 2, Or.inr (Or.inr ⟨rfl, rfl⟩)⟩
    by_cases h2 : a1 ≤ 2
    · obtain ⟨i, hi, rfl⟩ := nI_of2 (n := 2) rfl h0 h2
      rcases (show i = 0 ∨ i = 1 ∨ i = 2 by omega) with rfl | rfl | rfl
      · exact ⟨_, _, _, _, _, _, bT (bi e1 (iN one_ne0 rfl)) (ip rfl (iN h0 (ip h2 (ip rfl (bi g4 rfl))))), bi e2 (iN one_ne0 (iN h0 (ip h2 (ip rfl (ig (by omega) (by omega) rfl))))), rfl, Rel_thr h 0, Or.inl ⟨rfl, rfl, by rw [ec]; exact q3⟩⟩
      · exact ⟨_, _, _, _, _, _, bT (bi e1 (iN one_ne0 rfl)) (ip rfl (iN h0 (ip h2 (iN (by decide) (ip rfl (bi g5 rfl)))))), bi e2 (iN one_ne0 (iN h0 (ip h2 (iN (by decide) (ip rfl (ig (by omega) (by omega) rfl)))))), rfl, Rel_thr h 0, Or.inl ⟨rfl, rfl, by rw [ec]; exact q4⟩⟩
      · exact ⟨_, _, _, _, _, _, bT (bi e1 (iN one_ne0 rfl)) (ip rfl (iN h0 (ip h2 (iN (by decide) (iN (by decide) (bi g2 rfl)))))), bi e2 (iN one_ne0 (iN h0 (ip h2 (iN (by decide) (iN (by decide) (ig (by omega) (by omega) rfl)))))), rfl, Rel_thr h 0, Or.inl ⟨rfl, rfl, by rw [ec]; exact q2⟩⟩
    · exact ⟨_, _, _, _, _, _, bT (bi e1 (iN one_ne0 rfl)) (ip rfl (iN h0 (iN h2 rfl))), bi e2 (iN one_ne0 (iN h0 (iN h2 rfl))), rfl, Rel_thr h 2, Or.inr (Or.inr ⟨rfl, rfl⟩)⟩
  · exact ⟨_, _, _, _, _, _, bT (bi e1 (ip rfl rfl)) (iN (by decide) rfl), bi e2 (ip rfl rfl), rfl, Rel_thr h 1, Or.inr (Or.inl ⟨rfl, rfl⟩)⟩
theorem sim_entry : Sim_entry Rel := by
  intro n σ τ x hn h
  obtain ⟨h1, -⟩ := Rel_done h
  obtain ⟨tm, lk, -, -, -, -, hR⟩ := id h
  rcases hR with ⟨a1, a2, a3, a4⟩ | ⟨th, tr, pl, ln, gr, GP, hS, hO, hP, hK, hH, hE, hL⟩
  · refine ⟨_, _, _, _, _, _, bi (r := 0) (t := σ) ?_ (ip rfl rfl), ip a2 rfl, rfl, Rel_thr h 1, Or.inr ⟨rfl, rfl⟩⟩
    by_cases h0 : x < 0
    · exact ip h0 rfl
    · obtain ⟨j, hj, rfl⟩ := nI_of h0
      exact iN h0 (ip (by rw [a4]; exact nI_pos' hj) rfl)
  · have b2 : ¬ τ.1 13 = 0 := by rw [← h1]; exact run_ne0 hO
    obtain ⟨-, -, -, -, -, -, -, -, -, s1, s2, s3, -⟩ := hS
    by_cases h0 : x < 0
    · exact ⟨_, _, _, _, _, _, bi (r := 0) (t := σ) (ip h0 rfl) (ip rfl rfl), iN b2 (ip h0 rfl), rfl, Rel_thr h 1, Or.inr ⟨rfl, rfl⟩⟩
    · obtain ⟨j, hj, rfl⟩ := nI_of h0
      by_cases hl : j < ln
      · obtain ⟨g1, -⟩ := Ro_get s1 s3 hl
        exact ⟨_, _, _, _, _, _, bi (Ro_has s1 s3 hl) (iN one_ne0 (bi g1 rfl)), iN b2 (iN h0 (ip (by rw [s2]; exact nI_lt hl (by omega)) (ig (by omega) (by omega) rfl))), rfl, Rel_thr h 0, Or.inl ⟨rfl, rfl, by rw [nI_clamp hj]; exact (hE j hl).1⟩⟩
      · exact ⟨_, _, _, _, _, _, bi (r := 0) (t := σ) (iN h0 (ip (by rw [s1]; exact nI_le (by omega) hj) rfl)) (ip rfl rfl), iN b2 (iN h0 (iN (by rw [s2]; exact nI_nlt (by omega) hj) rfl)), rfl, Rel_thr h 1, Or.inr ⟨rfl, rfl⟩⟩
theorem sim_every : Sim_every Rel := by
  intro n σ τ a0 hn h
  by_cases h0 : a0 < 0
  · exact ⟨_, _, _, _, _, _, ip h0 rfl, ip h0 rfl, rfl, Rel_thr h 1, Or.inr ⟨rfl, rfl⟩⟩
  by_cases h7 : a0 ≤ 5000
  · obtain ⟨i, hi, rfl⟩ := nI_of2 (n := 5000) rfl h0 h7
    obtain ⟨tm, lk, c1, c2, hT, hA, hR⟩ := h
    obtain ⟨A1, A2, rd, A3, A4⟩ := hA
    exact ⟨_, _, _, _, _, _, iN h0 (ip h7 rfl), iN h0 (ip h7 rfl), rfl, ⟨tm, lk, c1, c2, hT, ⟨rfl, ⟨i, hi, rfl⟩, rd, by omega, A4⟩, hR⟩, Or.inl ⟨rfl, rfl, A1⟩⟩
  · exact ⟨_, _, _, _, _, _, iN h0 (iN h7 rfl), iN h0 (iN h7 rfl), rfl, Rel_thr h 1, Or.inr ⟨rfl, rfl⟩⟩
theorem sim_begin : Sim_begin Rel := by
  intro n σ τ a0 a1 hn h hb
  obtain ⟨tm, lk, c1, c2, hT, hA, hR⟩ := id h
  rcases has_t c1 c2 hT.1 a0 with ⟨t, hlt, rfl, e1, e2⟩ | ⟨e1, e2⟩
  · obtain ⟨q1, q2, q3, q4⟩ := hT.2 t hlt
    obtain ⟨-, -, -, -, g4, -⟩ := Te_get c1 hT.1 hlt
    have ht2 := hT.1
    have ec : (nI t).toNatClampNeg = t := nI_clamp (by omega)
    by_cases hz : lk t = 0
    · refine ⟨_, _, _, _, _, bT (Gw_mt1 e1) (ip rfl (bi g4 (ip (by rw [q1, hz]; rfl) (bv (bv rfl (bv rfl (bv rfl (bv rfl (ip hb (bv rfl rfl)))))) rfl)))), bi e2 (iN one_ne0 (ig (by omega) (by omega) (ip (by rw [ec, q2, hz]; decide) (ip hb (bv rfl rfl))))), rfl, ?_, Or.inl ⟨rfl, rfl⟩⟩
      refine ⟨tm, lk, c1, c2, hT, RA_succ hA, Or.inr ⟨0, 0, 0, 0, 0, fun _ => False, ⟨rfl, rfl, by omega, rfl, rfl, by omega, rfl, rfl, by omega, rfl, rfl, by omega, rfl, rfl, by omega, by omega, rfl, rfl, rfl, rfl, hb, rfl, rfl⟩, Or.inl ⟨rfl, fun q => absurd (show (0 : Int32) = 1 from q) (by decide)⟩, ⟨fun p hp => absurd hp (Nat.not_lt_zero _), fun p hp => hp.elim⟩, fun k hk => absurd hk (Nat.not_lt_zero _), Or.inl ⟨rfl, rfl, rfl, Or.inl rfl, t, 0, rfl, ⟨hlt, by omega⟩, trivial⟩, fun k hk => absurd hk (Nat.not_lt_zero _), rfl, fun i hi => absurd hi (Nat.not_lt_zero _)⟩⟩
    · exact ⟨_, _, _, _, _, bT (Gw_mt1 e1) (ip rfl (bi g4 (iN (by rw [q1]; exact nI_ne0 (by omega) (by omega)) rfl))), bi e2 (iN one_ne0 (ig (by omega) (by omega) (iN (by rw [ec, q2]; exact nI_nle (by omega) (by omega)) rfl))), rfl, Rel_thr h 2, Or.inr (Or.inr ⟨rfl, rfl⟩)⟩
  · exact ⟨_, _, _, _, _, bT (Gw_mt0 e1) (iN (by decide) rfl), bi e2 (ip rfl rfl), rfl, Rel_thr h 1, Or.inr (Or.inl ⟨rfl, rfl⟩)⟩
theorem sim_into : Sim_into Rel := by
  intro n σ τ a0 hn h
  obtain ⟨h1, h2⟩ := Rel_done h
  by_cases q : σ.1 0 = 2
  · have q' : τ.1 13 = 2 := by rw [← h1]; exact q
    obtain ⟨h3, h4⟩ := h2 q
    by_cases p : σ.1 19 = 2
    · have p' : τ.1 10 = 2 := by rw [← h3]; exact p
      by_cases h0 : a0 < 0
      · exact ⟨_, _, _, _, _, ip q (ip p (ip h0 rfl)), ip q' (ip p' (ip h0 rfl)), rfl, Rel_thr h 2, Or.inr (Or.inr ⟨rfl, rfl⟩)⟩
      by_cases h7 : a0 ≤ 1
      · obtain ⟨tm, lk, c1, c2, hT, hA, hR⟩ := id h
        rcases hR with ⟨a1, a2, a3⟩ | ⟨th, tr, pl, ln, gr, GP, hS, hO, hP, hK, hH, hE, hL⟩
        · exact absurd (a1.symm.trans q) (by decide)
        have hh : σ.1 2 = 1 := by
          rcases hO with ⟨o, _⟩ | ⟨_, o, _⟩ | ⟨o, _⟩ | o | o
          · exact absurd (o.symm.trans q) (by decide)
          · exact o
          · exact absurd (o.symm.trans q) (by decide)
          · exact absurd (o.symm.trans q) (by decide)
          · exact absurd (o.symm.trans q) (by decide)
        have hv : ∃ k1 k2 : Nat, k1 < th ∧ k2 < th ∧ σ.1 20 = nI k1 ∧ τ.1 11 = nI k1 ∧ σ.1 21 = nI k2 ∧ τ.1 12 = nI k2 ∧ σ.2.1 8 k1 ≠ 3 ∧ σ.2.1 8 k2 ≠ 3 := by
          rcases hH with ⟨o, _⟩ | ⟨_, o, v⟩ | ⟨o, _⟩
          · exact absurd (o.symm.trans hh) (by decide)
          · rcases v with ⟨v, _⟩ | ⟨v, _⟩ | ⟨_, v⟩
            · exact absurd (v.symm.trans p) (by decide)
            · exact absurd (v.symm.trans p) (by decide)
            · exact v
          · exact absurd (o.symm.trans hh) (by decide)
        obtain ⟨k1, k2, l1, l2, m1, m2, m3, m4, n1, n2⟩ := hv
        obtain ⟨s1, s2, s3, s4, s5, s6, s7, s8, s9, s10, s11, s12, s13, s14, s15, s16, s17, s18, s19, s20, s21, -, -⟩ := hS
        obtain ⟨i, hi, rfl⟩ := nI_of2 (n := 1) rfl h0 h7
        rcases (show i = 0 ∨ i = 1 by omega) with rfl | rfl
        · refine ⟨_, _, _, _, _, ip q (ip p (iN h0 (ip h7 (ip rfl (bv rfl rfl))))), ip q' (ip p' (iN h0 (ip h7 (ip rfl rfl)))), rfl, ?_, Or.inl ⟨rfl, rfl⟩⟩
          exact ⟨tm, lk, c1, c2, hT, RA_succ hA, Or.inr ⟨th, tr, pl, ln, gr, GP, ⟨s1, s2, s3, s4, s5, s6, s7, s8, s9, s10, s11, s12, s13, s14, s15, s16, s17, s18, s19, s20, s21, rfl, rfl⟩, Or.inl ⟨rfl, fun q => absurd (show (2 : Int32) = 1 from q) (by decide)⟩, hP, hK, Or.inr (Or.inr ⟨rfl, m1.trans m2.symm, k1, l1, m1, n1⟩), hE, hL⟩⟩
        · refine ⟨_, _, _, _, _, ip q (ip p (iN h0 (ip h7 (iN (by decide) (bv rfl rfl))))), ip q' (ip p' (iN h0 (ip h7 (iN (by decide) rfl)))), rfl, ?_, Or.inl ⟨rfl, rfl⟩⟩
          exact ⟨tm, lk, c1, c2, hT, RA_succ hA, Or.inr ⟨th, tr, pl, ln, gr, GP, ⟨s1, s2, s3, s4, s5, s6, s7, s8, s9, s10, s11, s12, s13, s14, s15, s16, s17, s18, s19, s20, s21, rfl, rfl⟩, Or.inl ⟨rfl, fun q => absurd (show (2 : Int32) = 1 from q) (by decide)⟩, hP, hK, Or.inr (Or.inr ⟨rfl, m3.trans m4.symm, k2, l2, m3, n2⟩), hE, hL⟩⟩
      · exact ⟨_, _, _, _, _, ip q (ip p (iN h0 (iN h7 rfl))), ip q' (ip p' (iN h0 (iN h7 rfl))), rfl, Rel_thr h 2, Or.inr (Or.inr ⟨rfl, rfl⟩)⟩
    · exact ⟨_, _, _, _, _, ip q (iN p rfl), ip q' (iN (by rw [← h3]; exact p) rfl), rfl, Rel_thr h 1, Or.inr (Or.inl ⟨rfl, rfl⟩)⟩
  · exact ⟨_, _, _, _, _, iN q rfl, iN (by rw [← h1]; exact q) rfl, rfl, Rel_thr h 1, Or.inr (Or.inl ⟨rfl, rfl⟩)⟩
theorem n1_ne {k : Nat} (h : k < 2 ^ 31) : ¬ (-1 : Int32) = nI k := fun q => nI_pos h (by rw [← q]; decide)
theorem n1_ne' {k : Nat} (h : k < 2 ^ 31) : ¬ nI k = (-1 : Int32) := fun q => n1_ne h q.symm
theorem ring_loop {σ τ : St} {ln kk : Nat} (c1 : σ.1 17 = nI ln) (c2 : τ.1 4 = nI ln) (hl : ln ≤ 300) (hk : kk < 2 ^ 31) (hr : σ.1 9 = τ.1 18)
    (hE : ∀ i, i < ln → σ.2.1 19 i = τ.2.1 16 i ∧ (σ.2.1 19 i = 0 → σ.2.1 20 i = τ.2.1 17 i ∧ ∃ k : Nat, k < 1000 ∧ σ.2.1 20 i = nI k)) :
    ∀ (m i : Nat) (f g : Nat) (x2 y2 y3 : Int32), i + m = ln → m < f → m < g → ((x2 = -1 ∧ y2 = 0 ∧ y3 = 0) ∨ (y3 = 1 ∧ ∃ s : Nat, s ≤ i ∧ x2 = nI s ∧ y2 = nI (s + 1))) →
      (K_Wa_ringThing_18 f σ (nI kk) x2 (nI i) = some (-1, σ) ∧ K_Mo_ring_25 g τ (nI kk) y2 y3 (nI i) = some (0, sv τ 20 1)) ∨
      (∃ r : Int32, ¬ r = -1 ∧ K_Wa_ringThing_18 f σ (nI kk) x2 (nI i) = some (r, σ) ∧ K_Mo_ring_25 g τ (nI kk) y2 y3 (nI i) = some (r, sv τ 20 0)) := by
  intro m
  induction m with
  | zero =>
    intro i f g x2 y2 y3 him hf hg _
    cases f with
    | zero => omega
    | succ f => cases g with
      | zero => omega
      | succ g =>
        left
        exact ⟨ip (by rw [c1]; exact nI_le (by omega) (by omega)) rfl, ip (by rw [c2]; exact nI_le (by omega) (by omega)) rfl⟩
  | succ m ih =>
    intro i f g x2 y2 y3 him hf hg hx
    cases f with
    | zero => omega
    | succ f => cases g with
      | zero => omega
      | succ g =>
        have hi : i < ln := by omega
        obtain ⟨g1, g2, -⟩ := Ro_get c1 hl hi
        have ec : (nI i).toNatClampNeg = i := nI_clamp (by omega)
        have n1 : ¬ σ.1 17 ≤ nI i := by rw [c1]; exact nI_ge hi (by omega)
        have n2 : ¬ τ.1 4 ≤ nI i := by rw [c2]; exact nI_ge hi (by omega)
        have e1 : nI i + 1 = nI (i + 1) := nI_1 i
        obtain ⟨q1, q2⟩ := hE i hi
        by_cases k0 : σ.2.1 19 i = 0
        · have k0' : τ.2.1 16 (nI i).toNatClampNeg = 0 := by rw [ec, ← q1]; exact k0
          obtain ⟨q3, k, q4, q5⟩ := q2 k0
          have nr : ¬ σ.2.1 20 i = -1 := by rw [q5]; exact n1_ne' (by omega)
          have q3' : τ.2.1 17 (nI i).toNatClampNeg = σ.2.1 20 i := by rw [ec, q3]
          rcases hx with ⟨rfl, rfl, rfl⟩ | ⟨rfl, s, hs, rfl, rfl⟩
          · by_cases hrr : σ.2.1 20 i = σ.1 9
            · by_cases hz : (0 : Int32) = nI kk
              · right
                exact ⟨_, nr, iN n1 (bi g1 (ip k0 (bi g2 (ip rfl (ip hrr (ip hz rfl)))))), iN n2 (ig (by omega) (by omega) (ip k0' (ip rfl (ig (by omega) (by omega) (ip (by rw [q3', hrr, hr]) (ip hz (ig (by omega) (by omega) (by rw [q3']))))))))⟩
              · have := ih (i + 1) f g (nI 0) (nI 1) 1 (by omega) (by omega) (by omega) (Or.inr ⟨rfl, 0, by omega, rfl, rfl⟩)
                rcases this with ⟨t1, t2⟩ | ⟨r, t0, t1, t2⟩
                · left
                  exact ⟨iN n1 (bi g1 (ip k0 (bi g2 (ip rfl (ip hrr (iN hz (by rw [e1]; exact t1))))))), iN n2 (ig (by omega) (by omega) (ip k0' (ip rfl (ig (by omega) (by omega) (ip (by rw [q3', hrr, hr]) (iN hz (by rw [e1]; exact t2)))))))⟩
                · right
                  exact ⟨r, t0, iN n1 (bi g1 (ip k0 (bi g2 (ip rfl (ip hrr (iN hz (by rw [e1]; exact t1))))))), iN n2 (ig (by omega) (by omega) (ip k0' (ip rfl (ig (by omega) (by omega) (ip (by rw [q3', hrr, hr]) (iN hz (by rw [e1]; exact t2)))))))⟩
            · have := ih (i + 1) f g (-1) 0 0 (by omega) (by omega) (by omega) (Or.inl ⟨rfl, rfl, rfl⟩)
              rcases this with ⟨t1, t2⟩ | ⟨r, t0, t1, t2⟩
              · left
                exact ⟨iN n1 (bi g1 (ip k0 (bi g2 (ip rfl (iN hrr (iN (n1_ne hk) (by rw [e1]; exact t1))))))), iN n2 (ig (by omega) (by omega) (ip k0' (ip rfl (ig (by omega) (by omega) (iN (by rw [q3', ← hr]; exact hrr) (by rw [e1]; exact t2))))))⟩
              · right
                exact ⟨r, t0, iN n1 (bi g1 (ip k0 (bi g2 (ip rfl (iN hrr (iN (n1_ne hk) (by rw [e1]; exact t1))))))), iN n2 (ig (by omega) (by omega) (ip k0' (ip rfl (ig (by omega) (by omega) (iN (by rw [q3', ← hr]; exact hrr) (by rw [e1]; exact t2))))))⟩
          · have ns : ¬ nI s = (-1 : Int32) := n1_ne' (by omega)
            have es : nI s + 1 = nI (s + 1) := nI_1 s
            have es2 : nI (s + 1) + 1 = nI (s + 1 + 1) := nI_1 (s + 1)
            by_cases hz : nI (s + 1) = nI kk
            · right
              exact ⟨_, nr, iN n1 (bi g1 (ip k0 (bi g2 (iN ns (ip (by rw [es]; exact hz) rfl))))), iN n2 (ig (by omega) (by omega) (ip k0' (iN one_ne0 (ip hz (ig (by omega) (by omega) (by rw [q3']))))))⟩
            · have := ih (i + 1) f g (nI (s + 1)) (nI (s + 1 + 1)) 1 (by omega) (by omega) (by omega) (Or.inr ⟨rfl, s + 1, by omega, rfl, rfl⟩)
              rcases this with ⟨t1, t2⟩ | ⟨r, t0, t1, t2⟩
              · left
                exact ⟨iN n1 (bi g1 (ip k0 (bi g2 (iN ns (iN (by rw [es]; exact hz) (by rw [e1, es]; exact t1)))))), iN n2 (ig (by omega) (by omega) (ip k0' (iN one_ne0 (iN hz (by rw [e1, es2]; exact t2)))))⟩
              · right
                exact ⟨r, t0, iN n1 (bi g1 (ip k0 (bi g2 (iN ns (iN (by rw [es]; exact hz) (by rw [e1, es]; exact t1)))))), iN n2 (ig (by omega) (by omega) (ip k0' (iN one_ne0 (iN hz (by rw [e1, es2]; exact t2)))))⟩
        · have k0' : ¬ τ.2.1 16 (nI i).toNatClampNeg = 0 := by rw [ec, ← q1]; exact k0
          have := ih (i + 1) f g x2 y2 y3 (by omega) (by omega) (by omega) (by
            rcases hx with hx | ⟨h1, s, h2, h3⟩
            · exact Or.inl hx
            · exact Or.inr ⟨h1, s, by omega, h3⟩)
          rcases this with ⟨t1, t2⟩ | ⟨r, t0, t1, t2⟩
          · left
            exact ⟨iN n1 (bi g1 (iN k0 (by rw [e1]; exact t1))), iN n2 (ig (by omega) (by omega) (iN k0' (by rw [e1]; exact t2)))⟩
          · right
            exact ⟨r, t0, iN n1 (bi g1 (iN k0 (by rw [e1]; exact t1))), iN n2 (ig (by omega) (by omega) (iN k0' (by rw [e1]; exact t2)))⟩
theorem sim_ring : Sim_ring Rel := by
  intro n σ τ x hn h
  obtain ⟨h1, -⟩ := Rel_done h
  by_cases q : σ.1 0 = 3
  · have q' : τ.1 13 = 3 := by rw [← h1]; exact q
    by_cases h0 : 0 ≤ x
    · obtain ⟨tm, lk, -, -, -, -, hR⟩ := id h
      rcases hR with ⟨a1, a2, a3⟩ | ⟨th, tr, pl, ln, gr, GP, hS, hO, hP, hK, hH, hE, hL⟩
      · exact absurd (a1.symm.trans q) (by decide)
      have hr : σ.1 9 = τ.1 18 := by
        rcases hO with ⟨o, _⟩ | ⟨o, _⟩ | ⟨_, o⟩ | o | o
        · exact absurd (o.symm.trans q) (by decide)
        · exact absurd (o.symm.trans q) (by decide)
        · exact o
        · exact absurd (o.symm.trans q) (by decide)
        · exact absurd (o.symm.trans q) (by decide)
      obtain ⟨-, -, s0, -, -, -, -, -, -, s1, s2, s3, -⟩ := hS
      obtain ⟨kk, hkk, rfl⟩ := nI_of (Int32.not_lt.mpr h0)
      have := ring_loop s1 s2 s3 hkk hr (fun i hi => by
        obtain ⟨e1, e2⟩ := hE i hi
        refine ⟨e1, fun z => ?_⟩
        rcases e2 with ⟨_, _, e3, k, e4, e5, _⟩ | ⟨e2, _⟩ | ⟨e2, _⟩ | ⟨e2, _⟩ | ⟨e2, _⟩ | e2 | e2
        · exact ⟨e3, k, by omega, e5⟩
        all_goals exact absurd (e2.symm.trans z) (by decide)) ln 0 gw_N gw_N (-1) 0 0 (by omega) (by unfold gw_N; omega) (by unfold gw_N; omega) (Or.inl ⟨rfl, rfl, rfl⟩)
      rcases this with ⟨t1, t2⟩ | ⟨r, t0, t1, t2⟩
      · exact ⟨_, _, _, _, _, _, bi (ip q (ip h0 t1)) (ip rfl rfl), ip q' (ip h0 t2), rfl, Rel_thr h 1, Or.inr ⟨rfl, rfl⟩⟩
      · exact ⟨_, _, _, _, _, _, bi (ip q (ip h0 t1)) (iN t0 rfl), ip q' (ip h0 t2), rfl, Rel_thr h 0, Or.inl ⟨rfl, rfl, rfl⟩⟩
    · exact ⟨_, _, _, _, _, _, bi (ip q (iN h0 rfl)) (ip rfl rfl), ip q' (iN h0 rfl), rfl, Rel_thr h 1, Or.inr ⟨rfl, rfl⟩⟩
  · exact ⟨_, _, _, _, _, _, bi (iN q rfl) (ip rfl rfl), iN (by rw [← h1]; exact q) rfl, rfl, Rel_thr h 1, Or.inr ⟨rfl, rfl⟩⟩
