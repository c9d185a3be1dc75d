/-! PURE, 0: numbers, indices, counting -/
theorem gw_in_n {k n : Nat} (h : k < n) (hn : n < 2 ^ 31) : gw_in (nI k) n = true := by
  simp only [gw_in, Bool.and_eq_true, decide_eq_true_eq]
  exact ⟨nI_pos' (by omega), by rw [nI_clamp (by omega)]; exact h⟩
theorem gw_ini {k n : Nat} {α : Type} {a b : α} (h : k < n) (hn : n < 2 ^ 31) : (if gw_in (nI k) n = true then a else b) = a := if_pos (gw_in_n h hn)
theorem nI_ne {a b : Nat} (h : a ≠ b) (ha : a < 2 ^ 31) (hb : b < 2 ^ 31) : ¬ nI a = nI b := fun q => h ((nI_eq ha hb).mp q)
theorem nI_lit0 : (0 : Int32) = nI 0 := rfl
/-- the numbers below n for which P, counted -/
def cn (P : Nat → Bool) : Nat → Nat
  | 0 => 0
  | n + 1 => cn P n + (if P n then 1 else 0)
theorem cn_le (P : Nat → Bool) : ∀ n, cn P n ≤ n
  | 0 => Nat.le_refl _
  | n + 1 => by have := cn_le P n; unfold cn; split <;> omega
theorem cn_mono {P Q : Nat → Bool} : ∀ {n : Nat}, (∀ k, k < n → P k = true → Q k = true) → cn P n ≤ cn Q n
  | 0, _ => Nat.le_refl _
  | n + 1, h => by
    have h1 := cn_mono (n := n) (fun k hk => h k (by omega))
    have h2 := h n (by omega)
    unfold cn
    cases hp : P n with
    | true => rw [h2 hp]; simp; exact h1
    | false => simp; omega
theorem cn_lt {P Q : Nat → Bool} : ∀ {n : Nat} (k : Nat), k < n → (∀ k, k < n → P k = true → Q k = true) → P k = false → Q k = true → cn P n < cn Q n
  | 0, k, hk, _, _, _ => absurd hk (Nat.not_lt_zero _)
  | n + 1, k, hk, h, hp, hq => by
    unfold cn
    by_cases he : k = n
    · subst he
      have h1 := cn_mono (P := P) (Q := Q) (n := k) (fun j hj => h j (by omega))
      rw [hp, hq]; simp; omega
    · have h1 := cn_lt (P := P) (Q := Q) (n := n) k (by omega) (fun j hj => h j (by omega)) hp hq
      have h2 := h n (by omega)
      cases hp2 : P n with
      | true => rw [h2 hp2]; simp; exact h1
      | false => simp; omega
theorem cn_congr {P Q : Nat → Bool} : ∀ {n : Nat}, (∀ k, k < n → P k = Q k) → cn P n = cn Q n
  | 0, _ => rfl
  | n + 1, h => by unfold cn; rw [cn_congr (n := n) (fun k hk => h k (by omega)), h n (by omega)]
theorem cn_set {P Q : Nat → Bool} : ∀ {n : Nat} (k : Nat), k < n → P k = false → Q k = true → (∀ j, j ≠ k → Q j = P j) → cn Q n = cn P n + 1
  | 0, k, hk, _, _, _ => absurd hk (Nat.not_lt_zero _)
  | n + 1, k, hk, hp, hq, h => by
    unfold cn
    by_cases he : k = n
    · subst he
      rw [cn_congr (P := Q) (Q := P) (n := k) (fun j hj => h j (by omega)), hp, hq]; simp
    · rw [cn_set (P := P) (Q := Q) (n := n) k (by omega) hp hq h, h n (fun e => he e.symm)]; omega
/-! the terms -/
/-- a term's five words in the class, and its five in the reference: what they say of its parts; lk: how much a term lacks -/
def tmo (lk : Nat → Nat) (t : Nat) (x0 x1 x2 x3 : Int32) (xn : Int64) (y0 y1 y2 y3 : Int32) (yn : Int64) : Prop :=
  (x0 = 0 ∧ y0 = 0 ∧ xn = yn) ∨
  (x0 = 1 ∧ y0 = 1 ∧ ∃ i : Nat, i ≤ 60 ∧ x1 = nI i ∧ y1 = nI i ∧ lk t = i + 1) ∨
  (x0 = 2 ∧ y0 = 2 ∧ ∃ a : Nat, a < t ∧ x1 = nI a ∧ y1 = nI a ∧ lk a ≤ lk t + 1) ∨
  (x0 = 3 ∧ y0 = 3 ∧ ∃ a : Nat, a < t ∧ x1 = nI a ∧ y1 = nI a ∧ lk a ≤ lk t) ∨
  (x0 = 4 ∧ y0 = 4 ∧ ∃ a : Nat, a < t ∧ x1 = nI a ∧ y1 = nI a ∧ lk a ≤ lk t) ∨
  (x0 = 5 ∧ y0 = 5 ∧ ∃ a b : Nat, a < t ∧ b < t ∧ x1 = nI a ∧ y1 = nI a ∧ x2 = nI b ∧ y2 = nI b ∧ lk a ≤ lk t ∧ lk b ≤ lk t) ∨
  (x0 = 6 ∧ y0 = 6 ∧ ∃ a b : Nat, a < t ∧ b < t ∧ x1 = nI a ∧ y1 = nI a ∧ x2 = nI b ∧ y2 = nI b ∧ lk a ≤ lk t + 1 ∧ lk b ≤ lk t + 1) ∨
  (x0 = 7 ∧ y0 = 7 ∧ ∃ a b : Nat, a < t ∧ b < t ∧ x1 = nI a ∧ y1 = nI a ∧ x2 = nI b ∧ y2 = nI b ∧ lk a ≤ lk t ∧ lk b ≤ lk t) ∨
  (x0 = 8 ∧ ∃ o : Nat, o < 6 ∧ y0 = nI (8 + o) ∧ x3 = nI o ∧ ∃ a b : Nat, a < t ∧ b < t ∧ x1 = nI a ∧ y1 = nI a ∧ x2 = nI b ∧ y2 = nI b ∧ lk a ≤ lk t ∧ lk b ≤ lk t) ∨
  (x0 = 9 ∧ y0 = 14 ∧ ∃ c a b : Nat, c < t ∧ a < t ∧ b < t ∧ x1 = nI c ∧ y3 = nI c ∧ x2 = nI a ∧ y1 = nI a ∧ x3 = nI b ∧ y2 = nI b ∧ lk c ≤ lk t ∧ lk a ≤ lk t ∧ lk b ≤ lk t)
theorem tmo_lk {lk lk' : Nat → Nat} {t : Nat} {x0 x1 x2 x3 : Int32} {xn : Int64} {y0 y1 y2 y3 : Int32} {yn : Int64} (hl : ∀ a, a ≤ t → lk' a = lk a) (h : tmo lk t x0 x1 x2 x3 xn y0 y1 y2 y3 yn) : tmo lk' t x0 x1 x2 x3 xn y0 y1 y2 y3 yn := by
  have ht := hl t (Nat.le_refl _)
  unfold tmo at h ⊢
  rcases h with h | ⟨h1, h2, i, h3⟩ | ⟨h1, h2, a, ha, h3⟩ | ⟨h1, h2, a, ha, h3⟩ | ⟨h1, h2, a, ha, h3⟩ | ⟨h1, h2, a, b, ha, hb, h3⟩ | ⟨h1, h2, a, b, ha, hb, h3⟩ | ⟨h1, h2, a, b, ha, hb, h3⟩ | ⟨h1, o, h2, h4, h5, a, b, ha, hb, h3⟩ | ⟨h1, h2, c, a, b, hc, ha, hb, h3⟩
  · exact Or.inl h
  · exact Or.inr (Or.inl ⟨h1, h2, i, by rw [ht]; exact h3⟩)
  · exact Or.inr (Or.inr (Or.inl ⟨h1, h2, a, ha, by rw [ht, hl a (by omega)]; exact h3⟩))
  · exact Or.inr (Or.inr (Or.inr (Or.inl ⟨h1, h2, a, ha, by rw [ht, hl a (by omega)]; exact h3⟩)))
  · exact Or.inr (Or.inr (Or.inr (Or.inr (Or.inl ⟨h1, h2, a, ha, by rw [ht, hl a (by omega)]; exact h3⟩))))
  · exact Or.inr (Or.inr (Or.inr (Or.inr (Or.inr (Or.inl ⟨h1, h2, a, b, ha, hb, by rw [ht, hl a (by omega), hl b (by omega)]; exact h3⟩)))))
  · exact Or.inr (Or.inr (Or.inr (Or.inr (Or.inr (Or.inr (Or.inl ⟨h1, h2, a, b, ha, hb, by rw [ht, hl a (by omega), hl b (by omega)]; exact h3⟩))))))
  · exact Or.inr (Or.inr (Or.inr (Or.inr (Or.inr (Or.inr (Or.inr (Or.inl ⟨h1, h2, a, b, ha, hb, by rw [ht, hl a (by omega), hl b (by omega)]; exact h3⟩)))))))
  · exact Or.inr (Or.inr (Or.inr (Or.inr (Or.inr (Or.inr (Or.inr (Or.inr (Or.inl ⟨h1, o, h2, h4, h5, a, b, ha, hb, by rw [ht, hl a (by omega), hl b (by omega)]; exact h3⟩))))))))
  · exact Or.inr (Or.inr (Or.inr (Or.inr (Or.inr (Or.inr (Or.inr (Or.inr (Or.inr ⟨h1, h2, c, a, b, hc, ha, hb, by rw [ht, hl a (by omega), hl b (by omega), hl c (by omega)]; exact h3⟩))))))))
/-- the terms of both: tm of them -/
def RT (tm : Nat) (lk : Nat → Nat) (s0 s1 s2 s3 s4 : Nat → Int32) (sn : Nat → Int64) (m0 m1 m2 m3 m4 : Nat → Int32) (mn : Nat → Int64) : Prop :=
  tm ≤ 200 ∧ ∀ t, t < tm → s4 t = nI (lk t) ∧ m4 t = nI (lk t) ∧ lk t ≤ 61 ∧ tmo lk t (s0 t) (s1 t) (s2 t) (s3 t) (sn t) (m0 t) (m1 t) (m2 t) (m3 t) (mn t)
/-- one more term -/
theorem RT_push {tm : Nat} {lk : Nat → Nat} {s0 s1 s2 s3 s4 : Nat → Int32} {sn : Nat → Int64} {m0 m1 m2 m3 m4 : Nat → Int32} {mn : Nat → Int64} (h : RT tm lk s0 s1 s2 s3 s4 sn m0 m1 m2 m3 m4 mn) (ht : tm < 200) {x0 x1 x2 x3 : Int32} {xn : Int64} {y0 y1 y2 y3 : Int32} {l : Nat} (hl : l ≤ 61)
    {s0' s1' s2' s3' s4' : Nat → Int32} {sn' : Nat → Int64} {m0' m1' m2' m3' m4' : Nat → Int32} {mn' : Nat → Int64} (e0 : s0' = upd s0 tm x0) (e1 : s1' = upd s1 tm x1) (e2 : s2' = upd s2 tm x2) (e3 : s3' = upd s3 tm x3) (e4 : s4' = upd s4 tm (nI l)) (en : sn' = vp_updL sn tm xn)
    (f0 : m0' = upd m0 tm y0) (f1 : m1' = upd m1 tm y1) (f2 : m2' = upd m2 tm y2) (f3 : m3' = upd m3 tm y3) (f4 : m4' = upd m4 tm (nI l)) (fn : ∀ t, t ≠ tm → mn' t = mn t)
    (hn : tmo (fun a => if a = tm then l else lk a) tm x0 x1 x2 x3 xn y0 y1 y2 y3 (mn' tm)) : RT (tm + 1) (fun a => if a = tm then l else lk a) s0' s1' s2' s3' s4' sn' m0' m1' m2' m3' m4' mn' := by
  subst e0 e1 e2 e3 e4 en f0 f1 f2 f3 f4
  refine ⟨by omega, fun t hlt => ?_⟩
  by_cases he : t = tm
  · subst he
    simp only [pk_us, pk_uLs, if_true]
    exact ⟨trivial, trivial, hl, hn⟩
  · obtain ⟨h1, h2, h3, h4⟩ := h.2 t (by omega)
    simp only [pk_un he, pk_uLn he, if_neg he, fn t he]
    exact ⟨h1, h2, h3, tmo_lk (fun a ha => if_neg (by omega)) h4⟩
