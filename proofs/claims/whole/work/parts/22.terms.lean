/-! PURE, 2: going through, and the calls that make terms -/
theorem bi {α β γ : Type} {o : Option (α × β)} {f : α → β → Option γ} {r : α} {t : β} {y : Option γ} (h : o = some (r, t)) (k : f r t = y) : gw_bind o f = y := by rw [h]; exact k
theorem bv {β γ : Type} {o : Option β} {f : β → Option γ} {t : β} {y : Option γ} (h : o = some t) (k : f t = y) : gw_bindv o f = y := by rw [h]; exact k
theorem bT {γ : Type} {o : Option ((Nat × Int32) × St)} {f : Nat → Int32 → St → Option γ} {a : Nat} {r : Int32} {t : St} {y : Option γ} (h : o = some ((a, r), t)) (k : f a r t = y) : gw_bindT o f = y := by rw [h]; exact k
theorem ip {α : Type} {c : Prop} [Decidable c] {a b y : α} (h : c) (k : a = y) : (if c then a else b) = y := by rw [if_pos h]; exact k
theorem iN {α : Type} {c : Prop} [Decidable c] {a b y : α} (h : ¬ c) (k : b = y) : (if c then a else b) = y := by rw [if_neg h]; exact k
/-- a good index -/
theorem ig {α : Type} {k n : Nat} {a b y : α} (h : k < n) (hn : n < 2 ^ 31) (e : a = y) : (if gw_in (nI k) n = true then a else b) = y := by rw [gw_ini h hn]; exact e
theorem ltI {a b : Nat} (h : a < b) (hb : b < 2 ^ 31) : nI a < nI b := nI_lt h hb
theorem one_ne0 : ¬ (1 : Int32) = 0 := by decide
theorem mx (a b : Nat) (ha : a < 2 ^ 31) (hb : b < 2 ^ 31) : (if nI a < nI b then nI b else nI a) = nI (max a b) := by
  by_cases h : a < b
  · rw [if_pos (nI_lt h hb), Nat.max_eq_right (Nat.le_of_lt h)]
  · rw [if_neg (nI_nlt (by omega) ha), Nat.max_eq_left (by omega)]
theorem Mo_more (τ : St) (a b : Nat) (ha : a < 2 ^ 31) (hb : b < 2 ^ 31) : F_Mo_more τ (nI a) (nI b) = some (nI (max a b), τ) := by
  unfold F_Mo_more
  by_cases h : a ≤ b
  · rw [if_pos (nI_le h hb), Nat.max_eq_right h]
  · rw [if_neg (nI_ge (by omega) ha), Nat.max_eq_left (by omega)]
theorem Te_oneLess (σ : St) (a : Nat) (ha : a < 2 ^ 31) : F_Te_oneLess σ (nI a) = some (nI (a - 1), σ) := by
  unfold F_Te_oneLess
  cases a with
  | zero => rfl
  | succ a => rw [nI_pred, if_neg (nI_pos (by omega))]; rfl
theorem Mo_lessOne (τ : St) (a : Nat) (ha : a < 2 ^ 31) : F_Mo_lessOne τ (nI a) = some (nI (a - 1), τ) := by
  unfold F_Mo_lessOne
  cases a with
  | zero => rfl
  | succ a => rw [nI_pred, if_neg (nI_nle (by omega) ha)]; rfl
theorem has_t {σ τ : St} {tm : Nat} (c1 : σ.1 12 = nI tm) (c2 : τ.1 0 = nI tm) (ht : tm ≤ 200) (x : Int32) :
    (∃ t, t < tm ∧ x = nI t ∧ F_Te_has σ x = some (1, σ) ∧ F_Mo_isTerm τ x = some (1, τ)) ∨ (F_Te_has σ x = some (0, σ) ∧ F_Mo_isTerm τ x = some (0, τ)) := by
  unfold F_Te_has F_Mo_isTerm
  by_cases h : x < 0
  · right; rw [if_pos h, if_pos h]; exact ⟨rfl, rfl⟩
  · obtain ⟨j, hj, rfl⟩ := nI_of h
    by_cases h2 : j < tm
    · left
      refine ⟨j, h2, rfl, ?_, ?_⟩
      · rw [if_neg h, c1, if_neg (nI_ge h2 (by omega)), if_neg (show ¬ (200 : Int32) ≤ nI j from nI_ge (b := 200) (by omega) (by omega))]
      · rw [if_neg h, c2, if_neg (nI_ge h2 (by omega))]
    · right
      rw [if_neg h, if_neg h, c1, c2, if_pos (nI_le (by omega) hj), if_pos (nI_le (by omega) hj)]; exact ⟨rfl, rfl⟩
theorem Te_has {σ : St} {tm t : Nat} (c1 : σ.1 12 = nI tm) (ht : tm ≤ 200) (h : t < tm) : F_Te_has σ (nI t) = some (1, σ) := by
  unfold F_Te_has
  rw [if_neg (nI_pos (by omega)), c1, if_neg (nI_ge h (by omega)), if_neg (show ¬ (200 : Int32) ≤ nI t from nI_ge (b := 200) (by omega) (by omega))]
theorem Te_get {σ : St} {tm t : Nat} (c1 : σ.1 12 = nI tm) (ht : tm ≤ 200) (h : t < tm) :
    F_Te_sortOf σ (nI t) = some (σ.2.1 0 t, σ) ∧ F_Te_firstOf σ (nI t) = some (σ.2.1 1 t, σ) ∧ F_Te_secondOf σ (nI t) = some (σ.2.1 2 t, σ) ∧ F_Te_thirdOf σ (nI t) = some (σ.2.1 3 t, σ) ∧ F_Te_lackOf σ (nI t) = some (σ.2.1 4 t, σ) ∧ F_Te_numberOf σ (nI t) = some (σ.2.2.2 0 t, σ) := by
  have e := Te_has c1 ht h
  have ec : (nI t).toNatClampNeg = t := nI_clamp (by omega)
  refine ⟨bi e (iN one_ne0 (ig (by omega) (by omega) (by rw [ec]))), bi e (iN one_ne0 (ig (by omega) (by omega) (by rw [ec]))), bi e (iN one_ne0 (ig (by omega) (by omega) (by rw [ec]))), bi e (iN one_ne0 (ig (by omega) (by omega) (by rw [ec]))), bi e (iN one_ne0 (ig (by omega) (by omega) (by rw [ec]))), bi e (iN one_ne0 (ig (by omega) (by omega) (by rw [ec])))⟩
theorem Te_add {σ : St} {tm : Nat} (c1 : σ.1 12 = nI tm) (ht : tm < 200) (a b c d : Int32) (v : Int64) (l : Int32) : F_Te_add σ a b c d v l = some (nI tm, sv (sa (sg (sa (sa (sa (sa σ 0 tm a) 1 tm b) 2 tm c) 3 tm d) 0 tm v) 4 tm l) 12 (nI (tm + 1))) := by
  unfold F_Te_add
  rw [c1, if_neg (nI_pos (by omega)), if_pos (show nI tm < (200 : Int32) from nI_lt (b := 200) ht (by omega)), gw_ini ht (by omega), gw_ini ht (by omega), gw_ini ht (by omega), gw_ini ht (by omega), gw_ini ht (by omega), gw_ini ht (by omega), nI_clamp (by omega), nI_1]
theorem Mo_term {τ : St} {tm : Nat} (c2 : τ.1 0 = nI tm) (ht : tm < 200) (a b c d : Int32) : F_Mo_term τ a b c d = some (nI tm, sv (sa (sa (sa (sa (sv τ 20 0) 0 tm a) 1 tm b) 2 tm c) 3 tm d) 0 (nI (tm + 1))) := by
  unfold F_Mo_term
  rw [c2, gw_ini ht (by omega), gw_ini ht (by omega), gw_ini ht (by omega), gw_ini ht (by omega), nI_clamp (by omega), nI_1, nI_pred]
theorem Gw_full {σ : St} {tm : Nat} (c1 : σ.1 12 = nI tm) (ht : tm ≤ 200) : (tm < 200 ∧ F_Gw_refuseTermBeyondMost σ = some ((0, 0), σ)) ∨ (tm = 200 ∧ F_Gw_refuseTermBeyondMost σ = some ((2, 0), σ)) := by
  by_cases h : tm < 200
  · left
    exact ⟨h, bi (r := 0) (t := σ) (by unfold F_Te_isFull; rw [c1, if_pos (show nI tm < (200 : Int32) from nI_lt (b := 200) h (by omega))]) (ip rfl rfl)⟩
  · right
    exact ⟨by omega, bi (r := 1) (t := σ) (by unfold F_Te_isFull; rw [c1, if_neg (show ¬ nI tm < (200 : Int32) from nI_nlt (b := 200) (by omega) (by omega))]) (iN one_ne0 rfl)⟩
theorem Gw_mt1 {σ : St} {x : Int32} (h : F_Te_has σ x = some (1, σ)) : F_Gw_refuseMissingTerm σ x = some ((0, 0), σ) := bi h (iN one_ne0 rfl)
theorem Gw_mt0 {σ : St} {x : Int32} (h : F_Te_has σ x = some (0, σ)) : F_Gw_refuseMissingTerm σ x = some ((1, 0), σ) := bi h (ip rfl rfl)
theorem Rel_push {n : Nat} {σ τ σ' τ' : St} {tm : Nat} {lk : Nat → Nat} (hT : RT tm lk (σ.2.1 0) (σ.2.1 1) (σ.2.1 2) (σ.2.1 3) (σ.2.1 4) (σ.2.2.2 0) (τ.2.1 0) (τ.2.1 1) (τ.2.1 2) (τ.2.1 3) (τ.2.1 4) (τ.2.2.2 0)) (ht : tm < 200)
    (hA : RA n σ' τ') (hR : NoRun σ' τ' ∨ Run (TD tm lk) (LD tm lk (σ.2.1 1)) (AT tm (σ.2.1 0)) (CH tm (σ.2.1 0)) σ' τ')
    {x0 x1 x2 x3 : Int32} {xn : Int64} {y0 y1 y2 y3 : Int32} {l : Nat} (hl : l ≤ 61) (k1 : σ'.1 12 = nI (tm + 1)) (k2 : τ'.1 0 = nI (tm + 1))
    (e0 : σ'.2.1 0 = upd (σ.2.1 0) tm x0) (e1 : σ'.2.1 1 = upd (σ.2.1 1) tm x1) (e2 : σ'.2.1 2 = upd (σ.2.1 2) tm x2) (e3 : σ'.2.1 3 = upd (σ.2.1 3) tm x3) (e4 : σ'.2.1 4 = upd (σ.2.1 4) tm (nI l)) (en : σ'.2.2.2 0 = vp_updL (σ.2.2.2 0) tm xn)
    (f0 : τ'.2.1 0 = upd (τ.2.1 0) tm y0) (f1 : τ'.2.1 1 = upd (τ.2.1 1) tm y1) (f2 : τ'.2.1 2 = upd (τ.2.1 2) tm y2) (f3 : τ'.2.1 3 = upd (τ.2.1 3) tm y3) (f4 : τ'.2.1 4 = upd (τ.2.1 4) tm (nI l)) (fn : ∀ t, t ≠ tm → τ'.2.2.2 0 t = τ.2.2.2 0 t)
    (hn : tmo (fun a => if a = tm then l else lk a) tm x0 x1 x2 x3 xn y0 y1 y2 y3 (τ'.2.2.2 0 tm)) : Rel (n + 1) σ' τ' := by
  refine ⟨tm + 1, fun a => if a = tm then l else lk a, k1, k2, RT_push hT ht hl e0 e1 e2 e3 e4 en f0 f1 f2 f3 f4 fn hn, RA_succ hA, hR.imp id (Run_mono ?_ ?_ ?_ ?_)⟩
  · intro t d h
    exact ⟨by have := h.1; omega, by have := h.1; have := h.2; show (if t = tm then l else lk t) ≤ d; rw [if_neg (by omega)]; omega⟩
  · intro t a d h
    obtain ⟨h1, h2, h3, h4⟩ := h
    exact ⟨by omega, by omega, by rw [e1, pk_un (by omega)]; exact h3, by show (if a = tm then l else lk a) ≤ d + 1; rw [if_neg (by omega)]; exact h4⟩
  · intro t h
    obtain ⟨h1, h2⟩ := h
    exact ⟨by omega, by rw [e0, pk_un (by omega)]; exact h2⟩
  · intro t h
    obtain ⟨h1, h2⟩ := h
    exact ⟨by omega, by rw [e0, pk_un (by omega)]; exact h2⟩
theorem Rel_thr {n : Nat} {σ τ : St} (h : Rel n σ τ) (x : Int32) : Rel (n + 1) σ (sv τ 20 x) := by
  obtain ⟨tm, lk, h1, h2, h3, h4, h5⟩ := h
  exact ⟨tm, lk, h1, h2, h3, RA_succ h4, h5⟩
theorem sim_number : Sim_number Rel := by
  intro n σ τ a0 hn h
  obtain ⟨tm, lk, c1, c2, hT, hA, hR⟩ := id h
  rcases Gw_full c1 hT.1 with ⟨ht, e⟩ | ⟨ht, e⟩
  · refine ⟨_, _, _, _, _, _, bT e (ip rfl (bi (bi (Te_add c1 ht _ _ _ _ _ _) rfl) rfl)), iN (by rw [c2]; exact nI_ne (b := 200) (by omega) (by omega) (by omega)) (bi (Mo_term c2 ht _ _ _ _) (ig ht (by omega) (ig ht (by omega) rfl))), rfl, ?_, Or.inl ⟨rfl, rfl, rfl⟩⟩
    rw [nI_clamp (n := tm) (by omega)]
    exact Rel_push (σ := σ) (τ := τ) (l := 0) hT ht hA hR (by omega) rfl rfl rfl rfl rfl rfl rfl rfl rfl rfl rfl rfl rfl (fun t h => pk_uLn h) (Or.inl ⟨rfl, rfl, pk_uLs.symm⟩)
  · refine ⟨_, _, _, _, _, _, bT e (iN (by decide) rfl), ip (by rw [c2, ht]; rfl) rfl, rfl, Rel_thr h 1, Or.inr ⟨rfl, rfl⟩⟩
theorem sim_variable : Sim_variable Rel := by
  intro n σ τ a0 hn h
  obtain ⟨tm, lk, c1, c2, hT, hA, hR⟩ := id h
  rcases Gw_full c1 hT.1 with ⟨ht, e⟩ | ⟨ht, e⟩
  · have hne : ¬ τ.1 0 = 200 := by rw [c2]; exact nI_ne (b := 200) (by omega) (by omega) (by omega)
    by_cases h0 : a0 < 0
    · exact ⟨_, _, _, _, _, _, bT e (ip rfl (ip h0 rfl)), iN hne (ip h0 rfl), rfl, Rel_thr h 2, Or.inr (Or.inr ⟨rfl, rfl⟩)⟩
    · by_cases h1 : a0 ≤ 60
      · obtain ⟨i, hi, rfl⟩ := nI_of2 (n := 60) rfl h0 h1
        refine ⟨_, _, _, _, _, _, bT e (ip rfl (iN h0 (ip h1 (bi (bi (Te_add c1 ht _ _ _ _ _ _) rfl) rfl)))), iN hne (iN h0 (ip h1 (bi (Mo_term c2 ht _ _ _ _) (ig ht (by omega) rfl)))), rfl, ?_, Or.inl ⟨rfl, rfl, rfl⟩⟩
        rw [nI_clamp (n := tm) (by omega), nI_1]
        exact Rel_push (σ := σ) (τ := τ) (l := i + 1) hT ht hA hR (by omega) rfl rfl rfl rfl rfl rfl rfl rfl rfl rfl rfl rfl rfl (fun t _ => rfl) (Or.inr (Or.inl ⟨rfl, rfl, i, hi, rfl, rfl, if_pos rfl⟩))
      · exact ⟨_, _, _, _, _, _, bT e (ip rfl (iN h0 (iN h1 rfl))), iN hne (iN h0 (iN h1 rfl)), rfl, Rel_thr h 2, Or.inr (Or.inr ⟨rfl, rfl⟩)⟩
  · exact ⟨_, _, _, _, _, _, bT e (iN (by decide) rfl), ip (by rw [c2, ht]; rfl) rfl, rfl, Rel_thr h 1, Or.inr (Or.inl ⟨rfl, rfl⟩)⟩
theorem lk_n {tm l : Nat} {lk : Nat → Nat} {a : Nat} (h : a < tm) : (fun a => if a = tm then l else lk a) a = lk a := if_neg (by omega)
theorem lk_s {tm l : Nat} {lk : Nat → Nat} : (fun a => if a = tm then l else lk a) tm = l := if_pos rfl
theorem sim_one : Sim_one Rel := by
  intro n σ τ a0 a1 hn h
  obtain ⟨tm, lk, c1, c2, hT, hA, hR⟩ := id h
  rcases has_t c1 c2 hT.1 a1 with ⟨t, hlt, rfl, e1, e2⟩ | ⟨e1, e2⟩
  · rcases Gw_full c1 hT.1 with ⟨ht, e⟩ | ⟨ht, e⟩
    · have hne : ¬ τ.1 0 = 200 := by rw [c2]; exact nI_ne (b := 200) (by omega) (by omega) (by omega)
      by_cases h0 : a0 < 0
      · exact ⟨_, _, _, _, _, _, bT (Gw_mt1 e1) (ip rfl (bT e (ip rfl (ip h0 rfl)))), bi e2 (iN one_ne0 (iN hne (ip h0 rfl))), rfl, Rel_thr h 3, Or.inr (Or.inr (Or.inr ⟨rfl, rfl⟩))⟩
      by_cases h1 : a0 ≤ 2
      · obtain ⟨i, hi, rfl⟩ := nI_of2 (n := 2) rfl h0 h1
        obtain ⟨q1, q2, q3, q4⟩ := hT.2 t hlt
        obtain ⟨g0, g1, g2, g3, g4, g5⟩ := Te_get c1 hT.1 hlt
        have ec : (nI t).toNatClampNeg = t := nI_clamp (by omega)
        rcases (show i = 0 ∨ i = 1 ∨ i = 2 by omega) with rfl | rfl | rfl
        · refine ⟨_, _, _, _, _, _, bT (Gw_mt1 e1) (ip rfl (bT e (ip rfl (iN h0 (ip h1 (bi (ip rfl (bi (by rw [g4, q1]) (bi (Te_oneLess _ _ (by omega)) (bi (Te_add c1 ht _ _ _ _ _ _) rfl)))) rfl)))))), bi e2 (iN one_ne0 (iN hne (iN h0 (ip h1 (ip rfl (bi (Mo_term c2 ht _ _ _ _) (ip rfl (ig (by omega) (by omega) (bi (r := nI (lk t - 1)) (t := _) (by rw [ec]; show F_Mo_lessOne _ (τ.2.1 4 t) = _; rw [q2]; exact Mo_lessOne _ _ (by omega)) (ig (by omega) (by omega) rfl)))))))))), rfl, ?_, Or.inl ⟨rfl, rfl, rfl⟩⟩
          rw [nI_clamp (n := tm) (by omega)]
          exact Rel_push (σ := σ) (τ := τ) (l := lk t - 1) hT ht hA hR (by omega) rfl rfl rfl rfl rfl rfl rfl rfl rfl rfl rfl rfl rfl (fun t _ => rfl) (Or.inr (Or.inr (Or.inl ⟨rfl, rfl, t, hlt, rfl, rfl, by rw [lk_n hlt, lk_s]; omega⟩)))
        · refine ⟨_, _, _, _, _, _, bT (Gw_mt1 e1) (ip rfl (bT e (ip rfl (iN h0 (ip h1 (bi (iN (by decide) (ip rfl (bi (by rw [g4, q1]) (bi (Te_add c1 ht _ _ _ _ _ _) rfl)))) rfl)))))), bi e2 (iN one_ne0 (iN hne (iN h0 (ip h1 (iN (by decide) (ip rfl (bi (Mo_term c2 ht _ _ _ _) (iN (by decide) (ig (by omega) (by omega) (ig (by omega) (by omega) rfl)))))))))), rfl, ?_, Or.inl ⟨rfl, rfl, rfl⟩⟩
          rw [nI_clamp (n := tm) (by omega), ec]
          exact Rel_push (σ := σ) (τ := τ) (l := lk t) hT ht hA hR (by omega) rfl rfl rfl rfl rfl rfl rfl rfl rfl rfl rfl rfl (by show upd _ tm (τ.2.1 4 t) = _; rw [q2]; rfl) (fun t _ => rfl) (Or.inr (Or.inr (Or.inr (Or.inl ⟨rfl, rfl, t, hlt, rfl, rfl, by rw [lk_n hlt, lk_s]; omega⟩))))
        · refine ⟨_, _, _, _, _, _, bT (Gw_mt1 e1) (ip rfl (bT e (ip rfl (iN h0 (ip h1 (bi (iN (by decide) (iN (by decide) (bi (by rw [g4, q1]) (bi (Te_add c1 ht _ _ _ _ _ _) rfl)))) rfl)))))), bi e2 (iN one_ne0 (iN hne (iN h0 (ip h1 (iN (by decide) (iN (by decide) (bi (Mo_term c2 ht _ _ _ _) (iN (by decide) (ig (by omega) (by omega) (ig (by omega) (by omega) rfl)))))))))), rfl, ?_, Or.inl ⟨rfl, rfl, rfl⟩⟩
          rw [nI_clamp (n := tm) (by omega), ec]
          exact Rel_push (σ := σ) (τ := τ) (l := lk t) hT ht hA hR (by omega) rfl rfl rfl rfl rfl rfl rfl rfl rfl rfl rfl rfl (by show upd _ tm (τ.2.1 4 t) = _; rw [q2]; rfl) (fun t _ => rfl) (Or.inr (Or.inr (Or.inr (Or.inr (Or.inl ⟨rfl, rfl, t, hlt, rfl, rfl, by rw [lk_n hlt, lk_s]; omega⟩)))))
      · exact ⟨_, _, _, _, _, _, bT (Gw_mt1 e1) (ip rfl (bT e (ip rfl (iN h0 (iN h1 rfl))))), bi e2 (iN one_ne0 (iN hne (iN h0 (iN h1 rfl)))), rfl, Rel_thr h 3, Or.inr (Or.inr (Or.inr ⟨rfl, rfl⟩))⟩
    · exact ⟨_, _, _, _, _, _, bT (Gw_mt1 e1) (ip rfl (bT e (iN (by decide) rfl))), bi e2 (iN one_ne0 (ip (by rw [c2, ht]; rfl) rfl)), rfl, Rel_thr h 2, Or.inr (Or.inr (Or.inl ⟨rfl, rfl⟩))⟩
  · exact ⟨_, _, _, _, _, _, bT (Gw_mt0 e1) (iN (by decide) rfl), bi e2 (ip rfl rfl), rfl, Rel_thr h 1, Or.inr (Or.inl ⟨rfl, rfl⟩)⟩
theorem sim_lacks : Sim_lacks Rel := by
  intro n σ τ a0 hn h
  obtain ⟨tm, lk, c1, c2, hT, hA, hR⟩ := id h
  rcases has_t c1 c2 hT.1 a0 with ⟨t, hlt, rfl, e1, e2⟩ | ⟨e1, e2⟩
  · obtain ⟨q1, q2, q3, q4⟩ := hT.2 t hlt
    obtain ⟨g0, g1, g2, g3, g4, g5⟩ := Te_get c1 hT.1 hlt
    have ht2 := hT.1
    exact ⟨_, _, _, _, _, _, bT (Gw_mt1 e1) (ip rfl (bi g4 rfl)), bi e2 (iN one_ne0 (ig (by omega) (by omega) rfl)), rfl, Rel_thr h 0, Or.inl ⟨rfl, rfl, by rw [nI_clamp (by omega), q1, q2]⟩⟩
  · exact ⟨_, _, _, _, _, _, bT (Gw_mt0 e1) (iN (by decide) rfl), bi e2 (ip rfl rfl), rfl, Rel_thr h 1, Or.inr ⟨rfl, rfl⟩⟩
theorem act_a : ∀ o, o < 6 → nI (o + 3) - 3 = nI o ∧ (8 + nI (o + 3)) - 3 = nI (8 + o) ∧ ¬ nI (o + 3) = 0 ∧ ¬ nI (o + 3) = 1 ∧ ¬ nI (o + 3) = 2 := by decide +kernel
theorem Mo_two89 {τ : St} {tm : Nat} {a b la lb l : Nat} {x1 : Int32} (c2 : τ.1 0 = nI tm) (ht : tm < 200) (ha : a < tm) (hb : b < tm) (qa : τ.2.1 4 a = nI la) (qb : τ.2.1 4 b = nI lb) (ba : la ≤ 61) (bb : lb ≤ 61) (hx : (x1 = 1 ∧ l = max la lb - 1) ∨ (¬ x1 = 1 ∧ l = max la lb)) (y0 : Int32) :
    K_Mo_two_89 τ x1 (nI a) (nI b) y0 = some (nI tm, sa (sv (sa (sa (sa (sa (sv τ 20 0) 0 tm y0) 1 tm (nI a)) 2 tm (nI b)) 3 tm (-1)) 0 (nI (tm + 1))) 4 tm (nI l)) := by
  have eca : (nI a).toNatClampNeg = a := nI_clamp (by omega)
  have ecb : (nI b).toNatClampNeg = b := nI_clamp (by omega)
  have ect : (nI tm).toNatClampNeg = tm := nI_clamp (by omega)
  refine bi (Mo_term c2 ht _ _ _ _) (ig (by omega) (by omega) (ig (by omega) (by omega) (bi (r := nI (max la lb)) (by rw [eca, ecb]; show F_Mo_more _ (τ.2.1 4 a) (τ.2.1 4 b) = _; rw [qa, qb]; exact Mo_more _ _ _ (by omega) (by omega)) ?_)))
  rcases hx with ⟨hx, rfl⟩ | ⟨hx, rfl⟩
  · exact ip hx (bi (Mo_lessOne _ _ (by omega)) (ig (by omega) (by omega) (by rw [ect])))
  · exact iN hx (ig (by omega) (by omega) (by rw [ect]))
theorem sim_two : Sim_two Rel := by
  intro n σ τ a0 a1 a2 hn h
  obtain ⟨tm, lk, c1, c2, hT, hA, hR⟩ := id h
  rcases has_t c1 c2 hT.1 a1 with ⟨a, hla, rfl, e1, e2⟩ | ⟨e1, e2⟩
  · rcases has_t c1 c2 hT.1 a2 with ⟨b, hlb, rfl, d1, d2⟩ | ⟨d1, d2⟩
    · rcases Gw_full c1 hT.1 with ⟨ht, e⟩ | ⟨ht, e⟩
      · have hne : ¬ τ.1 0 = 200 := by rw [c2]; exact nI_ne (b := 200) (by omega) (by omega) (by omega)
        by_cases h0 : a0 < 0
        · exact ⟨_, _, _, _, _, _, bT (Gw_mt1 e1) (ip rfl (bT (Gw_mt1 d1) (ip rfl (bT e (ip rfl (ip h0 rfl)))))), bi e2 (iN one_ne0 (bi d2 (iN one_ne0 (iN hne (ip h0 rfl))))), rfl, Rel_thr h 3, Or.inr (Or.inr (Or.inr ⟨rfl, rfl⟩))⟩
        by_cases h1 : a0 ≤ 8
        · obtain ⟨i, hi, rfl⟩ := nI_of2 (n := 8) rfl h0 h1
          obtain ⟨q1, q2, q3, q4⟩ := hT.2 a hla
          obtain ⟨p1, p2, p3, p4⟩ := hT.2 b hlb
          obtain ⟨-, -, -, -, g4, -⟩ := Te_get c1 hT.1 hla
          obtain ⟨-, -, -, -, g5, -⟩ := Te_get c1 hT.1 hlb
          have em : (if nI (lk a) < nI (lk b) then nI (lk b) else nI (lk a)) = nI (max (lk a) (lk b)) := mx _ _ (by omega) (by omega)
          have hm : max (lk a) (lk b) ≤ 61 := by omega
          rcases (show i = 0 ∨ i = 1 ∨ i = 2 ∨ ∃ o, o < 6 ∧ i = o + 3 by rcases (show i = 0 ∨ i = 1 ∨ i = 2 ∨ 3 ≤ i by omega) with h | h | h | h
                                                                         · exact Or.inl h
                                                                         · exact Or.inr (Or.inl h)
                                                                         · exact Or.inr (Or.inr (Or.inl h))
                                                                         · exact Or.inr (Or.inr (Or.inr ⟨i - 3, by omega, by omega⟩))) with rfl | rfl | rfl | ⟨o, ho, rfl⟩
          · refine ⟨_, _, _, _, _, _, bT (Gw_mt1 e1) (ip rfl (bT (Gw_mt1 d1) (ip rfl (bT e (ip rfl (iN h0 (ip h1 (bi (bi (by rw [g4, q1]) (bi (by rw [g5, p1]) (ip rfl (bi (by rw [em]; exact Te_add c1 ht _ _ _ _ _ _) rfl)))) rfl)))))))), bi e2 (iN one_ne0 (bi d2 (iN one_ne0 (iN hne (iN h0 (ip h1 (ip rfl (Mo_two89 c2 ht hla hlb q2 p2 q3 p3 (Or.inr ⟨by decide, rfl⟩) _)))))))), rfl, ?_, Or.inl ⟨rfl, rfl, rfl⟩⟩
            exact Rel_push (σ := σ) (τ := τ) (l := max (lk a) (lk b)) hT ht hA hR (by omega) rfl rfl rfl rfl rfl rfl rfl rfl rfl rfl rfl rfl rfl (fun t _ => rfl) (Or.inr (Or.inr (Or.inr (Or.inr (Or.inr (Or.inl ⟨rfl, rfl, a, b, hla, hlb, rfl, rfl, rfl, rfl, by rw [lk_n hla, lk_s]; omega, by rw [lk_n hlb, lk_s]; omega⟩))))))
          · refine ⟨_, _, _, _, _, _, bT (Gw_mt1 e1) (ip rfl (bT (Gw_mt1 d1) (ip rfl (bT e (ip rfl (iN h0 (ip h1 (bi (bi (by rw [g4, q1]) (bi (by rw [g5, p1]) (iN (by decide) (ip rfl (bi (by rw [em]; exact Te_oneLess _ _ (by omega)) (bi (Te_add c1 ht _ _ _ _ _ _) rfl)))))) rfl)))))))), bi e2 (iN one_ne0 (bi d2 (iN one_ne0 (iN hne (iN h0 (ip h1 (iN (by decide) (ip rfl (Mo_two89 c2 ht hla hlb q2 p2 q3 p3 (Or.inl ⟨rfl, rfl⟩) _))))))))), rfl, ?_, Or.inl ⟨rfl, rfl, rfl⟩⟩
            exact Rel_push (σ := σ) (τ := τ) (l := max (lk a) (lk b) - 1) hT ht hA hR (by omega) rfl rfl rfl rfl rfl rfl rfl rfl rfl rfl rfl rfl rfl (fun t _ => rfl) (Or.inr (Or.inr (Or.inr (Or.inr (Or.inr (Or.inr (Or.inl ⟨rfl, rfl, a, b, hla, hlb, rfl, rfl, rfl, rfl, by rw [lk_n hla, lk_s]; omega, by rw [lk_n hlb, lk_s]; omega⟩)))))))
          · refine ⟨_, _, _, _, _, _, bT (Gw_mt1 e1) (ip rfl (bT (Gw_mt1 d1) (ip rfl (bT e (ip rfl (iN h0 (ip h1 (bi (bi (by rw [g4, q1]) (bi (by rw [g5, p1]) (iN (by decide) (iN (by decide) (ip rfl (bi (by rw [em]; exact Te_add c1 ht _ _ _ _ _ _) rfl)))))) rfl)))))))), bi e2 (iN one_ne0 (bi d2 (iN one_ne0 (iN hne (iN h0 (ip h1 (iN (by decide) (iN (by decide) (ip rfl (Mo_two89 c2 ht hla hlb q2 p2 q3 p3 (Or.inr ⟨by decide, rfl⟩) _)))))))))), rfl, ?_, Or.inl ⟨rfl, rfl, rfl⟩⟩
            exact Rel_push (σ := σ) (τ := τ) (l := max (lk a) (lk b)) hT ht hA hR (by omega) rfl rfl rfl rfl rfl rfl rfl rfl rfl rfl rfl rfl rfl (fun t _ => rfl) (Or.inr (Or.inr (Or.inr (Or.inr (Or.inr (Or.inr (Or.inr (Or.inl ⟨rfl, rfl, a, b, hla, hlb, rfl, rfl, rfl, rfl, by rw [lk_n hla, lk_s]; omega, by rw [lk_n hlb, lk_s]; omega⟩))))))))
          · obtain ⟨w1, w2, w3, w4, w5⟩ := act_a o ho
            refine ⟨_, _, _, _, _, _, bT (Gw_mt1 e1) (ip rfl (bT (Gw_mt1 d1) (ip rfl (bT e (ip rfl (iN h0 (ip h1 (bi (bi (by rw [g4, q1]) (bi (by rw [g5, p1]) (iN w3 (iN w4 (iN w5 (bi (by rw [em, w1]; exact Te_add c1 ht _ _ _ _ _ _) rfl)))))) rfl)))))))), bi e2 (iN one_ne0 (bi d2 (iN one_ne0 (iN hne (iN h0 (ip h1 (iN w3 (iN w4 (iN w5 (by rw [w2]; exact Mo_two89 c2 ht hla hlb q2 p2 q3 p3 (Or.inr ⟨w4, rfl⟩) _)))))))))), rfl, ?_, Or.inl ⟨rfl, rfl, rfl⟩⟩
            exact Rel_push (σ := σ) (τ := τ) (l := max (lk a) (lk b)) hT ht hA hR (by omega) rfl rfl rfl rfl rfl rfl rfl rfl rfl rfl rfl rfl rfl (fun t _ => rfl) (Or.inr (Or.inr (Or.inr (Or.inr (Or.inr (Or.inr (Or.inr (Or.inr (Or.inl ⟨rfl, o, ho, rfl, rfl, a, b, hla, hlb, rfl, rfl, rfl, rfl, by rw [lk_n hla, lk_s]; omega, by rw [lk_n hlb, lk_s]; omega⟩)))))))))
        · exact ⟨_, _, _, _, _, _, bT (Gw_mt1 e1) (ip rfl (bT (Gw_mt1 d1) (ip rfl (bT e (ip rfl (iN h0 (iN h1 rfl))))))), bi e2 (iN one_ne0 (bi d2 (iN one_ne0 (iN hne (iN h0 (iN h1 rfl)))))), rfl, Rel_thr h 3, Or.inr (Or.inr (Or.inr ⟨rfl, rfl⟩))⟩
      · exact ⟨_, _, _, _, _, _, bT (Gw_mt1 e1) (ip rfl (bT (Gw_mt1 d1) (ip rfl (bT e (iN (by decide) rfl))))), bi e2 (iN one_ne0 (bi d2 (iN one_ne0 (ip (by rw [c2, ht]; rfl) rfl)))), rfl, Rel_thr h 2, Or.inr (Or.inr (Or.inl ⟨rfl, rfl⟩))⟩
    · exact ⟨_, _, _, _, _, _, bT (Gw_mt1 e1) (ip rfl (bT (Gw_mt0 d1) (iN (by decide) rfl))), bi e2 (iN one_ne0 (bi d2 (ip rfl rfl))), rfl, Rel_thr h 1, Or.inr (Or.inl ⟨rfl, rfl⟩)⟩
  · exact ⟨_, _, _, _, _, _, bT (Gw_mt0 e1) (iN (by decide) rfl), bi e2 (ip rfl rfl), rfl, Rel_thr h 1, Or.inr (Or.inl ⟨rfl, rfl⟩)⟩
theorem sim_choose : Sim_choose Rel := by
  intro n σ τ a0 a1 a2 hn h
  obtain ⟨tm, lk, c1, c2, hT, hA, hR⟩ := id h
  rcases has_t c1 c2 hT.1 a0 with ⟨c, hlc, rfl, f1, f2⟩ | ⟨f1, f2⟩
  · rcases has_t c1 c2 hT.1 a1 with ⟨a, hla, rfl, e1, e2⟩ | ⟨e1, e2⟩
    · rcases has_t c1 c2 hT.1 a2 with ⟨b, hlb, rfl, d1, d2⟩ | ⟨d1, d2⟩
      · rcases Gw_full c1 hT.1 with ⟨ht, e⟩ | ⟨ht, e⟩
        · have hne : ¬ τ.1 0 = 200 := by rw [c2]; exact nI_ne (b := 200) (by omega) (by omega) (by omega)
          obtain ⟨q1, q2, q3, q4⟩ := hT.2 a hla
          obtain ⟨p1, p2, p3, p4⟩ := hT.2 b hlb
          obtain ⟨r1, r2, r3, r4⟩ := hT.2 c hlc
          obtain ⟨-, -, -, -, g4, -⟩ := Te_get c1 hT.1 hla
          obtain ⟨-, -, -, -, g5, -⟩ := Te_get c1 hT.1 hlb
          obtain ⟨-, -, -, -, g6, -⟩ := Te_get c1 hT.1 hlc
          have em : (if nI (lk a) < nI (lk b) then nI (lk b) else nI (lk a)) = nI (max (lk a) (lk b)) := mx _ _ (by omega) (by omega)
          have em2 : (if nI (lk c) < nI (max (lk a) (lk b)) then nI (max (lk a) (lk b)) else nI (lk c)) = nI (max (lk c) (max (lk a) (lk b))) := mx _ _ (by omega) (by omega)
          have hm : max (lk c) (max (lk a) (lk b)) ≤ 61 := by omega
          have eca : (nI a).toNatClampNeg = a := nI_clamp (by omega)
          have ecb : (nI b).toNatClampNeg = b := nI_clamp (by omega)
          have ecc : (nI c).toNatClampNeg = c := nI_clamp (by omega)
          have ect : (nI tm).toNatClampNeg = tm := nI_clamp (by omega)
          refine ⟨_, _, _, _, _, _, bT (Gw_mt1 f1) (ip rfl (bT (Gw_mt1 e1) (ip rfl (bT (Gw_mt1 d1) (ip rfl (bT e (ip rfl (bi (bi (by rw [g6, r1]) (bi (by rw [g4, q1]) (bi (by rw [g5, p1]) (bi (by rw [em, em2]; exact Te_add c1 ht _ _ _ _ _ _) rfl)))) rfl)))))))), bi f2 (iN one_ne0 (bi e2 (iN one_ne0 (bi d2 (iN one_ne0 (iN hne (bi (Mo_term c2 ht _ _ _ _) (ig (by omega) (by omega) (ig (by omega) (by omega) (ig (by omega) (by omega) (bi (r := nI (max (lk a) (lk b))) (by rw [eca, ecb]; show F_Mo_more _ (τ.2.1 4 a) (τ.2.1 4 b) = _; rw [q2, p2]; exact Mo_more _ _ _ (by omega) (by omega)) (bi (r := nI (max (lk c) (max (lk a) (lk b)))) (by rw [ecc]; show F_Mo_more _ (τ.2.1 4 c) _ = _; rw [r2]; exact Mo_more _ _ _ (by omega) (by omega)) (ig (by omega) (by omega) rfl))))))))))))), rfl, ?_, Or.inl ⟨rfl, rfl, rfl⟩⟩
          rw [ect]
          exact Rel_push (σ := σ) (τ := τ) (l := max (lk c) (max (lk a) (lk b))) hT ht hA hR (by omega) rfl rfl rfl rfl rfl rfl rfl rfl rfl rfl rfl rfl rfl (fun t _ => rfl) (Or.inr (Or.inr (Or.inr (Or.inr (Or.inr (Or.inr (Or.inr (Or.inr (Or.inr ⟨rfl, rfl, c, a, b, hlc, hla, hlb, rfl, rfl, rfl, rfl, rfl, rfl, by rw [lk_n hlc, lk_s]; omega, by rw [lk_n hla, lk_s]; omega, by rw [lk_n hlb, lk_s]; omega⟩)))))))))
        · exact ⟨_, _, _, _, _, _, bT (Gw_mt1 f1) (ip rfl (bT (Gw_mt1 e1) (ip rfl (bT (Gw_mt1 d1) (ip rfl (bT e (iN (by decide) rfl))))))), bi f2 (iN one_ne0 (bi e2 (iN one_ne0 (bi d2 (iN one_ne0 (ip (by rw [c2, ht]; rfl) rfl)))))), rfl, Rel_thr h 2, Or.inr (Or.inr ⟨rfl, rfl⟩)⟩
      · exact ⟨_, _, _, _, _, _, bT (Gw_mt1 f1) (ip rfl (bT (Gw_mt1 e1) (ip rfl (bT (Gw_mt0 d1) (iN (by decide) rfl))))), bi f2 (iN one_ne0 (bi e2 (iN one_ne0 (bi d2 (ip rfl rfl))))), rfl, Rel_thr h 1, Or.inr (Or.inl ⟨rfl, rfl⟩)⟩
    · exact ⟨_, _, _, _, _, _, bT (Gw_mt1 f1) (ip rfl (bT (Gw_mt0 e1) (iN (by decide) rfl))), bi f2 (iN one_ne0 (bi e2 (ip rfl rfl))), rfl, Rel_thr h 1, Or.inr (Or.inl ⟨rfl, rfl⟩)⟩
  · exact ⟨_, _, _, _, _, _, bT (Gw_mt0 f1) (iN (by decide) rfl), bi f2 (ip rfl rfl), rfl, Rel_thr h 1, Or.inr (Or.inl ⟨rfl, rfl⟩)⟩
