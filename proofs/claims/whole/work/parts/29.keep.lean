/-! PURE, 9: collecting: what is kept -/
theorem cn_zero {P : Nat → Bool} : ∀ {n : Nat}, (∀ k, k < n → P k = false) → cn P n = 0
  | 0, _ => rfl
  | n + 1, h => by unfold cn; rw [cn_zero (n := n) (fun k hk => h k (by omega)), h n (by omega)]; rfl
theorem cn_len (P : Nat → Bool) : ∀ n : Nat, cn P n = ((List.range n).filter P).length
  | 0 => rfl
  | n + 1 => by
    unfold cn
    rw [List.range_succ, List.filter_append, List.length_append, cn_len P n]
    cases h : P n with
    | true => simp [h]
    | false => simp [h]
theorem cn_split (P Q : Nat → Bool) : ∀ n : Nat, cn P n = cn (fun k => P k && Q k) n + cn (fun k => P k && !Q k) n
  | 0 => rfl
  | n + 1 => by
    unfold cn
    rw [cn_split P Q n]
    cases P n <;> cases Q n <;> simp <;> omega
theorem nI_subl (a b : Nat) : nI (a + b) - nI a = nI b := by
  rw [← nI_add, Int32.add_comm, Int32.add_sub_cancel]
section
variable {r th pl : Nat} {GP : Nat → Prop} {σ0 τ0 : St}
/-- a thing: what it holds -/
def KG (th : Nat) (GP : Nat → Prop) (σ0 τ0 : St) (k : Nat) : Prop := σ0.2.1 8 k = τ0.2.1 5 k ∧ σ0.2.1 10 k = τ0.2.1 7 k ∧ (σ0.2.1 8 k = 0 ∨ σ0.2.1 8 k = 1 ∨ σ0.2.1 8 k = 2 ∨ σ0.2.1 8 k = 3) ∧ (σ0.2.1 8 k = 0 → Pv GP (σ0.2.1 10 k)) ∧ (σ0.2.1 8 k = 2 → σ0.2.1 13 k = τ0.2.1 8 k ∧ VG th GP (σ0.2.1 8) (σ0.2.1 13 k) (σ0.2.1 14 k) (σ0.2.1 15 k) (τ0.2.1 9 k) (τ0.2.1 10 k))
theorem W_next {i : Nat} {σ σ1 τ1 : St} {k rc : Nat} (h1 : Wk r th pl GP σ0 τ0 (-1) th i σ1 τ1) (w1 : σ.1 16 = nI rc) (hrc : rc ≤ 1000) (hi : i < rc) (hk : k < 1000) (h18 : σ.2.1 18 i = nI k) (G : Grw r σ σ1) (hth : th ≤ 1000) (hC : Cl r th pl σ0 σ1 k) : Wk r th pl GP σ0 τ0 (-1) th (i + 1) σ1 τ1 := by
  obtain ⟨f, m, rc1, w0, w1', w2, w3, w4, w5, w6, w7, w8⟩ := h1
  have g := G.2.2 i (by rw [w1, nI_clamp (by omega)]; exact hi)
  have hr1 : rc1 ≤ th := by rw [w3]; exact cn_le _ _
  rw [w1', nI_clamp (by omega)] at g
  refine ⟨f, m, rc1, by omega, w1', w2, w3, w4, w5, w6, fun j hj hq => ?_, w8⟩
  obtain ⟨a1, a2⟩ := w7 j hj hq
  refine ⟨a1, ?_⟩
  rcases a2 with a2 | ⟨jj, a2, a3, a4⟩
  · exact Or.inl a2
  · by_cases e : jj = i
    · subst e
      have := (nI_eq (by omega) (by omega)).mp ((a4.symm.trans g.1).trans h18)
      subst this
      exact Or.inl hC
    · exact Or.inr ⟨jj, by omega, a3, a4⟩
theorem things_loop (hB : BS r th pl GP σ0 τ0) (hK : ∀ k, k < th → KG th GP σ0 τ0 k) :
    ∀ (m i f g : Nat) (σ τ : St), i + m = 300 → m < f → m < g → Wk r th pl GP σ0 τ0 (-1) th i σ τ →
      ∃ σ' τ', (∀ z, gw_bind (F_Th_keepReached σ' (σ'.1 11)) (fun r9 σ10 => some (r9, σ10)) = z → K_Wa_sweepUnreached_27 f σ (nI i) = z) ∧ (∀ z, K_Mo_sweep_136 gw_N τ' 0 0 = z → K_Mo_sweep_57 g τ (nI i) = z) ∧
        (∃ i', Wk r th pl GP σ0 τ0 (-1) th i' σ' τ') ∧ (∀ k, k < th → σ'.2.1 16 k = nI r → Cl r th pl σ0 σ' k) ∧ Grw r σ σ' := by
  obtain ⟨b1, b2, b3, b4, b5, b6, b7, hP⟩ := id hB
  have j4 : (1000 : Nat) < 2 ^ 31 := by omega
  intro m
  have fin : ∀ (i f g : Nat) (σ τ : St), 0 < f → 0 < g → i ≤ 300 → Wk r th pl GP σ0 τ0 (-1) th i σ τ → (∀ rc, σ.1 16 = nI rc → rc ≤ 300 → rc ≤ i) →
      ∃ σ' τ', (∀ z, gw_bind (F_Th_keepReached σ' (σ'.1 11)) (fun r9 σ10 => some (r9, σ10)) = z → K_Wa_sweepUnreached_27 f σ (nI i) = z) ∧ (∀ z, K_Mo_sweep_136 gw_N τ' 0 0 = z → K_Mo_sweep_57 g τ (nI i) = z) ∧
        (∃ i', Wk r th pl GP σ0 τ0 (-1) th i' σ' τ') ∧ (∀ k, k < th → σ'.2.1 16 k = nI r → Cl r th pl σ0 σ' k) ∧ Grw r σ σ' := by
    intro i f g σ τ hf hg hi h hrc
    obtain ⟨⟨f1, f2, f3⟩, ⟨m1, m2, m3⟩, rc, w0, w1, w2, w3, w4, w5, w6, w7, w8⟩ := id h
    have hr3 : rc ≤ 300 := by
      have : rc ≤ cn (fun k => decide (σ0.2.1 8 k ≠ 3)) th := by
        rw [w3]; exact cn_mono (fun j hj q => decide_eq_true ((w7 j hj (of_decide_eq_true q)).1))
      omega
    have := hrc rc w1 hr3
    obtain ⟨f, rfl⟩ : ∃ f', f = f' + 1 := ⟨f - 1, by omega⟩
    obtain ⟨g, rfl⟩ : ∃ g', g = g' + 1 := ⟨g - 1, by omega⟩
    refine ⟨σ, τ, fun z hz => ?_, fun z hz => ip (by rw [w2]; exact nI_le (by omega) (by omega)) hz, ⟨i, h⟩, fun k hk hq => ?_, Grw_refl r σ⟩
    · by_cases q : (300 : Int32) ≤ nI i
      · exact ip q hz
      · exact iN q (ip (by rw [w1]; exact nI_le (by omega) (by omega)) hz)
    · rcases (w7 k hk hq).2 with a | ⟨j, a1, a2, _⟩
      · exact a
      · omega
  induction m with
  | zero =>
    intro i f g σ τ hi hf hg h
    exact fin i f g σ τ (by omega) (by omega) (by omega) h (fun rc _ q => by omega)
  | succ m ih =>
    intro i f g σ τ hi hf hg h
    obtain ⟨⟨f1, f2, f3⟩, ⟨m1, m2, m3⟩, rc, w0, w1, w2, w3, w4, w5, w6, w7, w8⟩ := id h
    by_cases hrc : rc ≤ i
    · exact fin i f g σ τ (by omega) (by omega) (by omega) h (fun rc' e _ => by
        have hr3 : rc ≤ th := by rw [w3]; exact cn_le _ _
        have := (nI_eq (by omega) (by omega)).mp (w1.symm.trans e)
        omega)
    · have hr3 : rc ≤ 300 := by
        have : rc ≤ cn (fun k => decide (σ0.2.1 8 k ≠ 3)) th := by
          rw [w3]; exact cn_mono (fun j hj q => decide_eq_true ((w7 j hj (of_decide_eq_true q)).1))
        omega
      obtain ⟨f, rfl⟩ : ∃ f', f = f' + 1 := ⟨f - 1, by omega⟩
      obtain ⟨g, rfl⟩ : ∃ g', g = g' + 1 := ⟨g - 1, by omega⟩
      have hir : i < rc := by omega
      obtain ⟨k, k1, k2, k3, k4⟩ := w6 i hir
      have ns := (w7 k k1 k4).1
      have eci : (nI i).toNatClampNeg = i := nI_clamp (by omega)
      have eck : (nI k).toNatClampNeg = k := nI_clamp (by omega)
      have i5 : i < 1000 := by omega
      have i4 : k < 1000 := by omega
      have n1 : ¬ (300 : Int32) ≤ nI i := nI_ge (b := 300) (by omega) (by omega)
      have n2 : ¬ σ.1 16 ≤ nI i := by rw [w1]; exact nI_ge hir (by omega)
      have n3 : ¬ τ.1 21 ≤ nI i := by rw [w2]; exact nI_ge hir (by omega)
      have eA : F_Th_reachedAt σ (nI i) = some (nI k, σ) := iN (nI_pos (by omega)) (iN n2 (iN n1 (ig (show i < 300 by omega) (by omega) (by rw [eci, k2]))))
      have e1 : nI i + 1 = nI (i + 1) := nI_1 i
      have t21 : τ.2.1 21 (nI i).toNatClampNeg = nI k := by rw [eci, k3]
      obtain ⟨q1, q2, q3, q4, q5⟩ := hK k k1
      obtain ⟨g1, -, g2, -, -, g3, g4, g5⟩ := Th_get (σ := σ) ((f1 14 (by decide)).trans b1) b2 k1
      rw [f2 8 (by decide) (by decide) (by decide)] at g1
      rw [f2 10 (by decide) (by decide) (by decide)] at g2
      rw [f2 13 (by decide) (by decide) (by decide)] at g3
      rw [f2 14 (by decide) (by decide) (by decide)] at g4
      rw [f2 15 (by decide) (by decide) (by decide)] at g5
      have t5 : τ.2.1 5 k = σ0.2.1 8 k := by rw [m2 5 (by decide) (by decide) (by decide), q1]
      rcases q3 with q3 | q3 | q3 | q3
      · obtain ⟨σ1, τ1, a1, a2, a3, a4, a5⟩ := W_places hB h (q4 q3)
        have hC : Cl r th pl σ0 σ1 k := ⟨fun _ => a4, fun z => absurd (q3.symm.trans z) (by decide)⟩
        obtain ⟨σ2, τ2, c1, c2, c3, c4, c5⟩ := ih (i + 1) f g σ1 τ1 (by omega) (by omega) (by omega) (W_next a3 w1 (by omega) hir i4 k2 a5 b2 hC)
        refine ⟨σ2, τ2, fun z hz => iN n1 (iN n2 (bi eA (bv (bi g1 (ip q3 (bi g2 (bv a1 rfl)))) (by rw [e1]; exact c1 z hz)))), fun z hz => ?_, c3, c4, Grw_trans a5 c5⟩
        refine iN n3 (ig i5 j4 ?_)
        rw [t21, eck]
        exact ig i4 j4 (ip (t5.trans q3) (ig i4 j4 (bv (by rw [m2 7 (by decide) (by decide) (by decide), ← q2]; exact a2) (by rw [e1]; exact c2 z hz))))
      · have hC : Cl r th pl σ0 σ k := ⟨fun z => absurd (q3.symm.trans z) (by decide), fun z => absurd (q3.symm.trans z) (by decide)⟩
        obtain ⟨σ2, τ2, c1, c2, c3, c4, c5⟩ := ih (i + 1) f g σ τ (by omega) (by omega) (by omega) (W_next h w1 (by omega) hir i4 k2 (Grw_refl r σ) b2 hC)
        refine ⟨σ2, τ2, fun z hz => iN n1 (iN n2 (bi eA (bv (bi g1 (iN (by rw [q3]; decide) (iN (by rw [q3]; decide) rfl))) (by rw [e1]; exact c1 z hz)))), fun z hz => ?_, c3, c4, c5⟩
        refine iN n3 (ig i5 j4 ?_)
        rw [t21, eck]
        exact ig i4 j4 (iN (by rw [t5, q3]; decide) (ig i4 j4 (iN (by rw [t5, q3]; decide) (by rw [e1]; exact c2 z hz))))
      · obtain ⟨q6, q7⟩ := q5 q3
        obtain ⟨σ1, τ1, a1, a2, a3, a4, a5⟩ := W_value hB h q7
        have hC : Cl r th pl σ0 σ1 k := ⟨fun z => absurd (q3.symm.trans z) (by decide), fun _ => a4⟩
        obtain ⟨σ2, τ2, c1, c2, c3, c4, c5⟩ := ih (i + 1) f g σ1 τ1 (by omega) (by omega) (by omega) (W_next a3 w1 (by omega) hir i4 k2 a5 b2 hC)
        refine ⟨σ2, τ2, fun z hz => iN n1 (iN n2 (bi eA (bv (bi g1 (iN (by rw [q3]; decide) (ip q3 (bi g3 (bi g4 (bi g5 (bv a1 rfl))))))) (by rw [e1]; exact c1 z hz)))), fun z hz => ?_, c3, c4, Grw_trans a5 c5⟩
        refine iN n3 (ig i5 j4 ?_)
        rw [t21, eck]
        exact ig i4 j4 (iN (by rw [t5, q3]; decide) (ig i4 j4 (ip (t5.trans q3) (ig i4 j4 (ig i4 j4 (ig i4 j4 (bv (by rw [m2 8 (by decide) (by decide) (by decide), m2 9 (by decide) (by decide) (by decide), m2 10 (by decide) (by decide) (by decide), ← q6]; exact a2) (by rw [e1]; exact c2 z hz))))))))
      · exact absurd q3 ns
end
/-! the reference's flags are cleared -/
theorem init2 {th : Nat} (ht : th ≤ 1000) : ∀ (m c f : Nat) (τ : St), c + m = th → m < f → τ.1 1 = nI th →
    ∃ τ', (∀ z, K_Mo_sweep_25 gw_N τ' 0 = z → K_Mo_sweep_2 f τ (nI c) = z) ∧ τ'.1 = τ.1 ∧ (∀ j, j ≠ 19 → τ'.2.1 j = τ.2.1 j) ∧ τ'.2.2 = τ.2.2 ∧ (∀ k, c ≤ k → k < th → τ'.2.1 19 k = 0) ∧ (∀ k, k < c → τ'.2.1 19 k = τ.2.1 19 k) := by
  intro m
  induction m with
  | zero =>
    intro c f τ hc hf h1
    obtain ⟨f, rfl⟩ : ∃ f', f = f' + 1 := ⟨f - 1, by omega⟩
    exact ⟨τ, fun z hz => ip (by rw [h1]; exact nI_le (by omega) (by omega)) hz, rfl, fun _ _ => rfl, rfl, fun k a b => by omega, fun _ _ => rfl⟩
  | succ m ih =>
    intro c f τ hc hf h1
    obtain ⟨f, rfl⟩ : ∃ f', f = f' + 1 := ⟨f - 1, by omega⟩
    obtain ⟨τ', a1, a2, a3, a4, a5, a6⟩ := ih (c + 1) f (sa τ 19 c 0) (by omega) (by omega) h1
    refine ⟨τ', fun z hz => iN (by rw [h1]; exact nI_ge (by omega) (by omega)) (ig (show c < 1000 by omega) (by omega) (by rw [nI_clamp (by omega), nI_1]; exact a1 z hz)), a2, fun j hj => (a3 j hj).trans (up_ne _ _ hj), a4, fun k h1 h2 => ?_, fun k hk => ?_⟩
    · by_cases e : k = c
      · subst e; rw [a6 k (by omega)]; exact pk_us
      · exact a5 k (by omega) h2
    · rw [a6 k (by omega)]; exact pk_un (by omega)
theorem init25 {pl : Nat} (ht : pl ≤ 1000) : ∀ (m c f : Nat) (τ : St), c + m = pl → m < f → τ.1 3 = nI pl →
    ∃ τ', (∀ z, gw_bindv (F_Mo_reachHand (sv τ' 21 0)) (fun σ4 => K_Mo_sweep_57 gw_N σ4 0) = z → K_Mo_sweep_25 f τ (nI c) = z) ∧ τ'.1 = τ.1 ∧ (∀ j, j ≠ 20 → τ'.2.1 j = τ.2.1 j) ∧ τ'.2.2 = τ.2.2 ∧ (∀ k, c ≤ k → k < pl → τ'.2.1 20 k = 0) ∧ (∀ k, k < c → τ'.2.1 20 k = τ.2.1 20 k) := by
  intro m
  induction m with
  | zero =>
    intro c f τ hc hf h1
    obtain ⟨f, rfl⟩ : ∃ f', f = f' + 1 := ⟨f - 1, by omega⟩
    exact ⟨τ, fun z hz => ip (by rw [h1]; exact nI_le (by omega) (by omega)) hz, rfl, fun _ _ => rfl, rfl, fun k a b => by omega, fun _ _ => rfl⟩
  | succ m ih =>
    intro c f τ hc hf h1
    obtain ⟨f, rfl⟩ : ∃ f', f = f' + 1 := ⟨f - 1, by omega⟩
    obtain ⟨τ', a1, a2, a3, a4, a5, a6⟩ := ih (c + 1) f (sa τ 20 c 0) (by omega) (by omega) h1
    refine ⟨τ', fun z hz => iN (by rw [h1]; exact nI_ge (by omega) (by omega)) (ig (show c < 1000 by omega) (by omega) (by rw [nI_clamp (by omega), nI_1]; exact a1 z hz)), a2, fun j hj => (a3 j hj).trans (up_ne _ _ hj), a4, fun k h1 h2 => ?_, fun k hk => ?_⟩
    · by_cases e : k = c
      · subst e; rw [a6 k (by omega)]; exact pk_us
      · exact a5 k (by omega) h2
    · rw [a6 k (by omega)]; exact pk_un (by omega)
/-! what goes -/
theorem keep_loop {r th n : Nat} {σ : St} (b1 : σ.1 14 = nI th) (b2 : th ≤ 1000) (hn : n ≤ 300) (mk : Nat → Bool) (hmk : ∀ k, mk k = decide (σ.2.1 16 k = nI r)) :
    ∀ (post pre : List Nat) (f : Nat) (σi : St), pre.length + post.length = n → post.length < f → (∀ a, a ∈ post → a < th) → σi.1 = σ.1 → (∀ j, j ≠ 8 → j ≠ 17 → σi.2.1 j = σ.2.1 j) → σi.2.2 = σ.2.2 →
      (∀ j (h : j < (pre.filter mk).length), σi.2.1 17 j = nI ((pre.filter mk)[j])) → (∀ j (h : j < post.length), σi.2.1 17 (pre.length + j) = nI (post[j])) → (∀ k, σi.2.1 8 k = if k ∈ pre ∧ mk k = false then 3 else σ.2.1 8 k) →
      ∃ σ', K_Th_keepReached_10 f σi (nI r) (nI (pre.filter mk).length) (nI n) (nI pre.length) = some (nI n - nI ((pre ++ post).filter mk).length, sv σ' 15 (nI ((pre ++ post).filter mk).length)) ∧ σ'.1 = σ.1 ∧ (∀ j, j ≠ 8 → j ≠ 17 → σ'.2.1 j = σ.2.1 j) ∧ σ'.2.2 = σ.2.2 ∧
        (∀ j (h : j < ((pre ++ post).filter mk).length), σ'.2.1 17 j = nI (((pre ++ post).filter mk)[j])) ∧ (∀ k, σ'.2.1 8 k = if k ∈ pre ++ post ∧ mk k = false then 3 else σ.2.1 8 k) := by
  have j4 : (1000 : Nat) < 2 ^ 31 := by omega
  intro post
  induction post with
  | nil =>
    intro pre f σi hl hf ha e1 e2 e3 hA hB hC
    obtain ⟨f, rfl⟩ : ∃ f', f = f' + 1 := ⟨f - 1, by simp at hf; omega⟩
    rw [List.append_nil]
    exact ⟨σi, ip (nI_le (by simp at hl; omega) (by simp at hl; omega)) rfl, e1, e2, e3, hA, hC⟩
  | cons a post ih =>
    intro pre f σi hl hf ha e1 e2 e3 hA hB hC
    rw [List.length_cons] at hl hf
    obtain ⟨f, rfl⟩ : ∃ f', f = f' + 1 := ⟨f - 1, by omega⟩
    have hat : a < th := ha a List.mem_cons_self
    have hc : (pre.filter mk).length ≤ pre.length := List.length_filter_le _ _
    have ecp : (nI pre.length).toNatClampNeg = pre.length := nI_clamp (by omega)
    have eca : (nI a).toNatClampNeg = a := nI_clamp (by omega)
    have ecc : (nI (pre.filter mk).length).toNatClampNeg = (pre.filter mk).length := nI_clamp (by omega)
    have i3 : pre.length < 300 := by omega
    have i4 : a < 1000 := by omega
    have h17 : σi.2.1 17 (nI pre.length).toNatClampNeg = nI a := by
      rw [ecp]
      have := hB 0 (by rw [List.length_cons]; omega)
      rw [Nat.add_zero] at this
      exact this
    have eas : pre ++ a :: post = (pre ++ [a]) ++ post := by rw [List.append_assoc]; rfl
    have hpl : (pre ++ [a]).length = pre.length + 1 := by rw [List.length_append]; rfl
    have n1 : ¬ nI n ≤ nI pre.length := nI_ge (by omega) (by omega)
    have n2 : ¬ (300 : Int32) ≤ nI pre.length := nI_ge (b := 300) i3 (by omega)
    have hhas : F_Th_has σi (nI a) = some (1, σi) := Th_has (by rw [e1]; exact b1) b2 hat
    rw [eas]
    cases hm : mk a with
    | true =>
      have hm' : σ.2.1 16 a = nI r := by have := hmk a; rw [hm] at this; exact of_decide_eq_true this.symm
      have hf1 : (pre ++ [a]).filter mk = pre.filter mk ++ [a] := by rw [List.filter_append]; simp [hm]
      have hf2 : ((pre ++ [a]).filter mk).length = (pre.filter mk).length + 1 := by rw [hf1, List.length_append]; rfl
      obtain ⟨σ', c1, c2⟩ := ih (pre ++ [a]) f (sa σi 17 (pre.filter mk).length (nI a)) (by omega) (by omega) (fun b hb => ha b (List.mem_cons_of_mem _ hb)) e1 (fun j h8 h17 => (up_ne _ _ h17).trans (e2 j h8 h17)) e3
        (fun j h => by
          show upd (σi.2.1 17) (pre.filter mk).length (nI a) j = _
          by_cases e : j = (pre.filter mk).length
          · subst e
            rw [pk_us]
            congr 1
            simp only [hf1]
            rw [List.getElem_append_right (by omega)]
            simp
          · rw [pk_un e, hA j (by omega)]
            congr 1
            simp only [hf1]
            rw [List.getElem_append_left (by omega)])
        (fun j h => by
          show upd (σi.2.1 17) (pre.filter mk).length (nI a) _ = _
          rw [pk_un (by omega), hpl, show pre.length + 1 + j = pre.length + (j + 1) by omega, hB (j + 1) (by rw [List.length_cons]; omega)]
          rfl)
        (fun k => by
          show σi.2.1 8 k = _
          rw [hC k]
          by_cases e : k = a
          · subst e; simp [hm]
          · simp [e])
      refine ⟨σ', ?_, c2⟩
      rw [hf2, hpl] at c1
      refine iN n1 (iN n2 (ig i3 (by omega) ?_))
      rw [h17]
      refine bi hhas (iN one_ne0 (ig i4 j4 ?_))
      rw [eca, ecc, nI_1, nI_1]
      exact ip (by rw [e2 16 (by decide) (by decide)]; exact hm') (ig (show (pre.filter mk).length < 300 by omega) (by omega) c1)
    | false =>
      have hm' : ¬ σ.2.1 16 a = nI r := by have := hmk a; rw [hm] at this; exact of_decide_eq_false this.symm
      have hf1 : (pre ++ [a]).filter mk = pre.filter mk := by rw [List.filter_append]; simp [hm]
      obtain ⟨σ', c1, c2⟩ := ih (pre ++ [a]) f (sa σi 8 a 3) (by omega) (by omega) (fun b hb => ha b (List.mem_cons_of_mem _ hb)) e1 (fun j h8 h17 => (up_ne _ _ h8).trans (e2 j h8 h17)) e3
        (fun j h => by
          show σi.2.1 17 j = _
          rw [hA j (by rw [← hf1]; exact h)]
          congr 1
          simp only [hf1])
        (fun j h => by
          show σi.2.1 17 _ = _
          rw [hpl, show pre.length + 1 + j = pre.length + (j + 1) by omega, hB (j + 1) (by rw [List.length_cons]; omega)]
          rfl)
        (fun k => by
          show upd (σi.2.1 8) a 3 k = _
          by_cases e : k = a
          · subst e; rw [pk_us]; simp [hm]
          · rw [pk_un e, hC k]; simp [e])
      refine ⟨σ', ?_, c2⟩
      rw [hf1, hpl] at c1
      refine iN n1 (iN n2 (ig i3 (by omega) ?_))
      rw [h17]
      refine bi hhas (iN one_ne0 (ig i4 j4 ?_))
      rw [eca, nI_1, nI_1]
      exact iN (by rw [e2 16 (by decide) (by decide)]; exact hm') (ig i4 j4 c1)
theorem sweep_loop {th : Nat} {τ : St} (b1 : τ.1 1 = nI th) (b2 : th ≤ 1000) (mk : Nat → Bool) (hmk : ∀ k, k < th → τ.2.1 19 k = if mk k = true then 1 else 0) :
    ∀ (m c f : Nat) (τi : St), c + m = th → m < f → τi.1 = τ.1 → (∀ j, j ≠ 5 → τi.2.1 j = τ.2.1 j) → τi.2.2 = τ.2.2 → (∀ k, k < th → τi.2.1 5 k = if k < c ∧ τ.2.1 5 k ≠ 3 ∧ mk k = false then 3 else τ.2.1 5 k) →
      ∃ τ', K_Mo_sweep_136 f τi (nI (cn (fun k => decide (τ.2.1 5 k ≠ 3) && !mk k) c)) (nI c) = some (nI (cn (fun k => decide (τ.2.1 5 k ≠ 3) && !mk k) th), sv τ' 2 (τ.1 2 - nI (cn (fun k => decide (τ.2.1 5 k ≠ 3) && !mk k) th))) ∧ τ'.1 = τ.1 ∧ (∀ j, j ≠ 5 → τ'.2.1 j = τ.2.1 j) ∧ τ'.2.2 = τ.2.2 ∧ (∀ k, k < th → τ'.2.1 5 k = if τ.2.1 5 k ≠ 3 ∧ mk k = false then 3 else τ.2.1 5 k) := by
  have j4 : (1000 : Nat) < 2 ^ 31 := by omega
  intro m
  induction m with
  | zero =>
    intro c f τi hc hf e1 e2 e3 hC
    obtain ⟨f, rfl⟩ : ∃ f', f = f' + 1 := ⟨f - 1, by omega⟩
    have : c = th := by omega
    subst this
    refine ⟨τi, ip (by rw [e1, b1]; exact nI_le (Nat.le_refl _) (by omega)) (by rw [e1]), e1, e2, e3, fun k hk => ?_⟩
    rw [hC k hk]; simp [hk]
  | succ m ih =>
    intro c f τi hc hf e1 e2 e3 hC
    obtain ⟨f, rfl⟩ : ∃ f', f = f' + 1 := ⟨f - 1, by omega⟩
    have ct : c < th := by omega
    have ec : (nI c).toNatClampNeg = c := nI_clamp (by omega)
    have i4 : c < 1000 := by omega
    have n1 : ¬ τi.1 1 ≤ nI c := by rw [e1, b1]; exact nI_ge ct (by omega)
    have h5 : τi.2.1 5 c = τ.2.1 5 c := by rw [hC c ct]; simp
    have h19 : τi.2.1 19 c = if mk c = true then 1 else 0 := by rw [e2 19 (by decide)]; exact hmk c ct
    have eq1 : nI c + 1 = nI (c + 1) := nI_1 c
    cases hm : mk c with
    | true =>
      have hcn : cn (fun k => decide (τ.2.1 5 k ≠ 3) && !mk k) (c + 1) = cn (fun k => decide (τ.2.1 5 k ≠ 3) && !mk k) c := by
        show _ + _ = _
        simp [hm]
      obtain ⟨τ', c1, c2⟩ := ih (c + 1) f τi (by omega) (by omega) e1 e2 e3 (fun k hk => by
        rw [hC k hk]
        by_cases e : k = c
        · subst e; simp [hm]
        · simp [show (k < c + 1) = (k < c) by simp; omega])
      rw [hcn] at c1
      exact ⟨τ', iN n1 (ig i4 j4 (iN (by rw [ec, h19, hm]; decide) (by rw [eq1]; exact c1))), c2⟩
    | false =>
      by_cases h3 : τ.2.1 5 c = 3
      · have hcn : cn (fun k => decide (τ.2.1 5 k ≠ 3) && !mk k) (c + 1) = cn (fun k => decide (τ.2.1 5 k ≠ 3) && !mk k) c := by
          show _ + _ = _
          simp [h3]
        obtain ⟨τ', c1, c2⟩ := ih (c + 1) f τi (by omega) (by omega) e1 e2 e3 (fun k hk => by
          rw [hC k hk]
          by_cases e : k = c
          · subst e; simp [h3]
          · simp [show (k < c + 1) = (k < c) by simp; omega])
        rw [hcn] at c1
        exact ⟨τ', iN n1 (ig i4 j4 (ip (by rw [ec, h19, hm]; decide) (ig i4 j4 (ip (by rw [ec, h5]; exact h3) (by rw [eq1]; exact c1))))), c2⟩
      · have hcn : cn (fun k => decide (τ.2.1 5 k ≠ 3) && !mk k) (c + 1) = cn (fun k => decide (τ.2.1 5 k ≠ 3) && !mk k) c + 1 := by
          show _ + _ = _
          simp [h3, hm]
        obtain ⟨τ', c1, c2⟩ := ih (c + 1) f (sa τi 5 c 3) (by omega) (by omega) e1 (fun j h => (up_ne _ _ h).trans (e2 j h)) e3 (fun k hk => by
          show upd (τi.2.1 5) c 3 k = _
          by_cases e : k = c
          · subst e; rw [pk_us]; simp [h3, hm]
          · rw [pk_un e, hC k hk]
            simp [show (k < c + 1) = (k < c) by simp; omega])
        rw [hcn] at c1
        exact ⟨τ', iN n1 (ig i4 j4 (ip (by rw [ec, h19, hm]; decide) (ig i4 j4 (iN (by rw [ec, h5]; exact h3) (ig i4 j4 (by rw [eq1, nI_1, ec]; exact c1)))))), c2⟩
