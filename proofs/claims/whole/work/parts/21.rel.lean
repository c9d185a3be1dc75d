/-! PURE, 1: what belongs together. σ: the class's state, τ: the reference's -/
/-- from x at least d places can be gone through -/
def Dp (nx : Nat → Int32) (pl : Nat) : Int32 → Nat → Prop
  | _, 0 => True
  | x, d + 1 => ∃ p : Nat, p < pl ∧ x = nI p ∧ Dp nx pl (nx p) d
/-- a good place or none -/
def Pv (GP : Nat → Prop) (x : Int32) : Prop := x = -1 ∨ ∃ p : Nat, x = nI p ∧ GP p
/-- a value of sort so: class's number, first, second; reference's number, left, right -/
def VO (LD : Nat → Nat → Nat → Prop) (th : Nat) (st : Nat → Int32) (nx : Nat → Int32) (pl : Nat) (GP : Nat → Prop) (so : Int32) (xn : Int64) (x1 x2 : Int32) (yn : Int64) (y1 y2 : Int32) : Prop :=
  (so = 0 ∧ xn = yn) ∨
  (so = 1 ∧ x2 = y2 ∧ Pv GP x2 ∧ ∃ t a d : Nat, x1 = nI t ∧ y1 = nI a ∧ LD t a d ∧ Dp nx pl x2 d) ∨
  (so = 2 ∧ ∃ k1 k2 : Nat, k1 < th ∧ k2 < th ∧ x1 = nI k1 ∧ y1 = nI k1 ∧ x2 = nI k2 ∧ y2 = nI k2 ∧ st k1 ≠ 3 ∧ st k2 ≠ 3)
/-- the numbers -/
def RS (th tr pl ln gr : Nat) (σ τ : St) : Prop := σ.1 14 = nI th ∧ τ.1 1 = nI th ∧ th ≤ 1000 ∧ σ.1 15 = nI tr ∧ τ.1 2 = nI tr ∧ tr ≤ 300 ∧ σ.1 13 = nI pl ∧ τ.1 3 = nI pl ∧ pl ≤ 1000 ∧ σ.1 17 = nI ln ∧ τ.1 4 = nI ln ∧ ln ≤ 300 ∧ σ.1 18 = nI gr ∧ τ.1 5 = nI gr ∧ ln ≤ gr ∧ gr ≤ 300 ∧
  σ.1 6 = τ.1 15 ∧ σ.1 7 = τ.1 16 ∧ σ.1 8 = τ.1 17 ∧ σ.1 1 = τ.1 14 ∧ (σ.1 1 = 0 ∨ σ.1 1 = 1) ∧ σ.1 2 = τ.1 6 ∧ σ.1 0 = τ.1 13
/-- the outcome -/
def RO (ln : Nat) (σ τ : St) : Prop := (σ.1 0 = 1 ∧ (σ.1 2 = 1 → 0 < ln)) ∨ (σ.1 0 = 2 ∧ σ.1 2 = 1 ∧ ln = 0) ∨ (σ.1 0 = 3 ∧ σ.1 9 = τ.1 18) ∨ σ.1 0 = 4 ∨ σ.1 0 = 5
/-- the places -/
def RP (th pl : Nat) (GP : Nat → Prop) (st hd nx hd' nx' : Nat → Int32) : Prop := (∀ p, p < pl → hd' p = hd p ∧ nx' p = nx p ∧ (∃ k : Nat, k < th ∧ hd p = nI k) ∧ (nx p = -1 ∨ ∃ j : Nat, j < p ∧ nx p = nI j)) ∧
  ∀ p, GP p → p < pl ∧ (∃ k : Nat, k < th ∧ hd p = nI k ∧ st k ≠ 3) ∧ Pv GP (nx p)
/-- a thing: its words in the class (state, term, places, times, needer, value's sort, number, first, second), in the reference (state, term, places, works, neededBy, wasNeeded, value's sort, number, left, right) -/
def RK (TD : Nat → Nat → Prop) (LD : Nat → Nat → Nat → Prop) (th : Nat) (sh : Int32) (st nx : Nat → Int32) (pl : Nat) (GP : Nat → Prop) (x1 x2 x3 x4 x5 : Int32) (xn : Int64) (x6 x7 : Int32) (y0 y1 y2 y3 y4 yw y5 : Int32) (yn : Int64) (y6 y7 : Int32) (x0 : Int32) : Prop :=
  x0 = y0 ∧ x1 = y1 ∧ x2 = y2 ∧ x3 = y3 ∧ x4 = y4 ∧ (∃ t d : Nat, x1 = nI t ∧ TD t d ∧ (x0 = 0 → Dp nx pl x2 d ∧ Pv GP x2)) ∧
  (x0 = 0 ∨ x0 = 1 ∨ (x0 = 2 ∧ x5 = y5 ∧ VO LD th st nx pl GP x5 xn x6 x7 yn y6 y7) ∨ x0 = 3) ∧ (sh = 0 → x4 = -1) ∧ (sh = 1 → x0 = 0 → yw = 0) ∧ (yw = 0 ∨ yw = 1)
/-- what is at hand -/
def RH (TD : Nat → Nat → Prop) (LD : Nat → Nat → Nat → Prop) (th : Nat) (st nx : Nat → Int32) (pl : Nat) (GP : Nat → Prop) (σ τ : St) : Prop :=
  (σ.1 2 = 0 ∧ σ.1 3 = τ.1 7 ∧ σ.1 4 = τ.1 8 ∧ Pv GP (σ.1 4) ∧ ∃ t d : Nat, σ.1 3 = nI t ∧ TD t d ∧ Dp nx pl (σ.1 4) d) ∨
  (σ.1 2 = 1 ∧ σ.1 19 = τ.1 10 ∧ VO LD th st nx pl GP (σ.1 19) (σ.2.2.1 0) (σ.1 20) (σ.1 21) (τ.2.2.1 0) (τ.1 11) (τ.1 12)) ∨
  (σ.1 2 = 2 ∧ σ.1 5 = τ.1 9 ∧ ∃ k : Nat, k < th ∧ σ.1 5 = nI k ∧ st k ≠ 3)
/-- an entry of the row: kind, first, second, number in the class and in the reference -/
def RE (TD : Nat → Nat → Prop) (AT CH : Nat → Prop) (th : Nat) (sh : Int32) (st nx : Nat → Int32) (pl : Nat) (GP : Nat → Prop) (x0 x1 x2 : Int32) (xn : Int64) (y0 y1 y2 : Int32) (yn : Int64) : Prop :=
  x0 = y0 ∧ ((x0 = 0 ∧ sh = 1 ∧ x1 = y1 ∧ ∃ k : Nat, k < th ∧ x1 = nI k ∧ st k ≠ 3) ∨ (x0 = 1 ∧ x1 = y1 ∧ ∃ k : Nat, k < th ∧ x1 = nI k ∧ st k ≠ 3) ∨
    (x0 = 2 ∧ x1 = y1 ∧ x2 = y2 ∧ Pv GP x2 ∧ ∃ t d : Nat, x1 = nI t ∧ AT t ∧ TD t d ∧ Dp nx pl x2 d) ∨ (x0 = 3 ∧ x1 = y1 ∧ xn = yn ∧ ∃ t : Nat, x1 = nI t ∧ AT t) ∨
    (x0 = 4 ∧ x1 = y1 ∧ x2 = y2 ∧ Pv GP x2 ∧ ∃ t d : Nat, x1 = nI t ∧ CH t ∧ TD t d ∧ Dp nx pl x2 d) ∨ x0 = 5 ∨ x0 = 6)
/-- the list of the things that are there -/
def RL (th tr : Nat) (st thr : Nat → Int32) : Prop := tr = ((List.range th).filter (fun k => decide (st k ≠ 3))).length ∧ ∀ i (h : i < ((List.range th).filter (fun k => decide (st k ≠ 3))).length), thr i = nI (((List.range th).filter (fun k => decide (st k ≠ 3)))[i])
/-- a run -/
def Run (TD : Nat → Nat → Prop) (LD : Nat → Nat → Nat → Prop) (AT CH : Nat → Prop) (σ τ : St) : Prop := ∃ (th tr pl ln gr : Nat) (GP : Nat → Prop), RS th tr pl ln gr σ τ ∧ RO ln σ τ ∧ RP th pl GP (σ.2.1 8) (σ.2.1 5) (σ.2.1 6) (τ.2.1 14) (τ.2.1 15) ∧
  (∀ k, k < th → RK TD LD th (σ.1 1) (σ.2.1 8) (σ.2.1 6) pl GP (σ.2.1 9 k) (σ.2.1 10 k) (σ.2.1 11 k) (σ.2.1 12 k) (σ.2.1 13 k) (σ.2.2.2 1 k) (σ.2.1 14 k) (σ.2.1 15 k) (τ.2.1 5 k) (τ.2.1 6 k) (τ.2.1 7 k) (τ.2.1 11 k) (τ.2.1 12 k) (τ.2.1 13 k) (τ.2.1 8 k) (τ.2.2.2 1 k) (τ.2.1 9 k) (τ.2.1 10 k) (σ.2.1 8 k)) ∧
  RH TD LD th (σ.2.1 8) (σ.2.1 6) pl GP σ τ ∧
  (∀ i, i < ln → RE TD AT CH th (σ.1 1) (σ.2.1 8) (σ.2.1 6) pl GP (σ.2.1 19 i) (σ.2.1 20 i) (σ.2.1 21 i) (σ.2.2.2 2 i) (τ.2.1 16 i) (τ.2.1 17 i) (τ.2.1 18 i) (τ.2.2.2 2 i)) ∧
  RL th tr (σ.2.1 8) (σ.2.1 17)
/-- no run -/
def NoRun (σ τ : St) : Prop := σ.1 0 = 0 ∧ τ.1 13 = 0 ∧ σ.1 14 = 0 ∧ σ.1 17 = 0
/-- collecting's own: pace and marks, n calls in -/
def RA (n : Nat) (σ τ : St) : Prop := σ.1 10 = τ.1 19 ∧ (∃ c : Nat, c ≤ 5000 ∧ σ.1 10 = nI c) ∧ ∃ rd : Nat, rd ≤ 6000 * n ∧ σ.1 11 = nI rd ∧ (∀ k, k < 1000 → ∃ j : Nat, j ≤ rd ∧ σ.2.1 16 k = nI j) ∧ ∀ k, k < 1000 → ∃ j : Nat, j ≤ rd ∧ σ.2.1 7 k = nI j
/-- a term may stand over d places -/
def TD (tm : Nat) (lk : Nat → Nat) (t d : Nat) : Prop := t < tm ∧ lk t ≤ d
/-- the LAMBDA t of body a may stand over d places -/
def LD (tm : Nat) (lk : Nat → Nat) (s1 : Nat → Int32) (t a d : Nat) : Prop := t < tm ∧ a < tm ∧ s1 t = nI a ∧ lk a ≤ d + 1
def AT (tm : Nat) (s0 : Nat → Int32) (t : Nat) : Prop := t < tm ∧ s0 t = 8
def CH (tm : Nat) (s0 : Nat → Int32) (t : Nat) : Prop := t < tm ∧ s0 t = 9
/-- THE RELATION -/
def Rel (n : Nat) (σ τ : St) : Prop := ∃ (tm : Nat) (lk : Nat → Nat), σ.1 12 = nI tm ∧ τ.1 0 = nI tm ∧ RT tm lk (σ.2.1 0) (σ.2.1 1) (σ.2.1 2) (σ.2.1 3) (σ.2.1 4) (σ.2.2.2 0) (τ.2.1 0) (τ.2.1 1) (τ.2.1 2) (τ.2.1 3) (τ.2.1 4) (τ.2.2.2 0) ∧ RA n σ τ ∧
  (NoRun σ τ ∨ Run (TD tm lk) (LD tm lk (σ.2.1 1)) (AT tm (σ.2.1 0)) (CH tm (σ.2.1 0)) σ τ)
theorem RA_succ {n : Nat} {σ τ : St} (h : RA n σ τ) : RA (n + 1) σ τ := by
  obtain ⟨h1, h2, rd, h3, h4⟩ := h
  exact ⟨h1, h2, rd, by omega, h4⟩
theorem Rel_succ (n : Nat) (σ τ : St) (h : Rel n σ τ) : Rel (n + 1) σ τ := by
  obtain ⟨tm, lk, h1, h2, h3, h4, h5⟩ := h
  exact ⟨tm, lk, h1, h2, h3, RA_succ h4, h5⟩
theorem VO_mono {LD LD' : Nat → Nat → Nat → Prop} (hL : ∀ t a d, LD t a d → LD' t a d) {th : Nat} {st nx : Nat → Int32} {pl : Nat} {GP : Nat → Prop} {so : Int32} {xn : Int64} {x1 x2 : Int32} {yn : Int64} {y1 y2 : Int32} (h : VO LD th st nx pl GP so xn x1 x2 yn y1 y2) : VO LD' th st nx pl GP so xn x1 x2 yn y1 y2 := by
  rcases h with h | ⟨h1, h2, h3, t, a, d, h4, h5, h6, h7⟩ | h
  · exact Or.inl h
  · exact Or.inr (Or.inl ⟨h1, h2, h3, t, a, d, h4, h5, hL _ _ _ h6, h7⟩)
  · exact Or.inr (Or.inr h)
theorem Run_mono {TD TD' : Nat → Nat → Prop} {LD LD' : Nat → Nat → Nat → Prop} {AT AT' CH CH' : Nat → Prop} (hT : ∀ t d, TD t d → TD' t d) (hL : ∀ t a d, LD t a d → LD' t a d) (hA : ∀ t, AT t → AT' t) (hC : ∀ t, CH t → CH' t) {σ τ : St} (h : Run TD LD AT CH σ τ) : Run TD' LD' AT' CH' σ τ := by
  obtain ⟨th, tr, pl, ln, gr, GP, h1, h2, h3, h4, h5, h6, h7⟩ := h
  refine ⟨th, tr, pl, ln, gr, GP, h1, h2, h3, fun k hk => ?_, ?_, fun i hi => ?_, h7⟩
  · obtain ⟨a1, a2, a3, a4, a5, ⟨t, d, b1, b2, b3⟩, a6, a7⟩ := h4 k hk
    refine ⟨a1, a2, a3, a4, a5, ⟨t, d, b1, hT _ _ b2, b3⟩, ?_, a7⟩
    rcases a6 with a6 | a6 | ⟨a6, a8, a9⟩ | a6
    · exact Or.inl a6
    · exact Or.inr (Or.inl a6)
    · exact Or.inr (Or.inr (Or.inl ⟨a6, a8, VO_mono hL a9⟩))
    · exact Or.inr (Or.inr (Or.inr a6))
  · rcases h5 with ⟨a1, a2, a3, a4, t, d, a5, a6, a7⟩ | ⟨a1, a2, a3⟩ | h
    · exact Or.inl ⟨a1, a2, a3, a4, t, d, a5, hT _ _ a6, a7⟩
    · exact Or.inr (Or.inl ⟨a1, a2, VO_mono hL a3⟩)
    · exact Or.inr (Or.inr h)
  · obtain ⟨a0, h⟩ := h6 i hi
    refine ⟨a0, ?_⟩
    rcases h with h | h | ⟨a1, a2, a3, a4, t, d, a5, a6, a7, a8⟩ | ⟨a1, a2, a3, t, a4, a5⟩ | ⟨a1, a2, a3, a4, t, d, a5, a6, a7, a8⟩ | h | h
    · exact Or.inl h
    · exact Or.inr (Or.inl h)
    · exact Or.inr (Or.inr (Or.inl ⟨a1, a2, a3, a4, t, d, a5, hA _ a6, hT _ _ a7, a8⟩))
    · exact Or.inr (Or.inr (Or.inr (Or.inl ⟨a1, a2, a3, t, a4, hA _ a5⟩)))
    · exact Or.inr (Or.inr (Or.inr (Or.inr (Or.inl ⟨a1, a2, a3, a4, t, d, a5, hC _ a6, hT _ _ a7, a8⟩))))
    · exact Or.inr (Or.inr (Or.inr (Or.inr (Or.inr (Or.inl h)))))
    · exact Or.inr (Or.inr (Or.inr (Or.inr (Or.inr (Or.inr h)))))
theorem Rel_start : Rel 0 st_C st_M := by
  refine ⟨0, fun _ => 0, rfl, rfl, ⟨by decide, fun t h => absurd h (Nat.not_lt_zero _)⟩, ⟨rfl, ⟨0, by decide, rfl⟩, 0, by decide, rfl, fun k _ => ⟨0, by decide, rfl⟩, fun k _ => ⟨0, by decide, rfl⟩⟩, Or.inl ⟨rfl, rfl, rfl, rfl⟩⟩
