/-! PURE, 4: within a step: all but the hand and the outcome -/
def RAx (R : Nat) (σ τ : St) : Prop := σ.1 10 = τ.1 19 ∧ (∃ c : Nat, c ≤ 5000 ∧ σ.1 10 = nI c) ∧ ∃ rd : Nat, rd ≤ R ∧ σ.1 11 = nI rd ∧ (∀ k, k < 1000 → ∃ j : Nat, j ≤ rd ∧ σ.2.1 16 k = nI j) ∧ ∀ k, k < 1000 → ∃ j : Nat, j ≤ rd ∧ σ.2.1 7 k = nI j
def TR (tm : Nat) (lk : Nat → Nat) (σ τ : St) : Prop := σ.1 12 = nI tm ∧ τ.1 0 = nI tm ∧ RT tm lk (σ.2.1 0) (σ.2.1 1) (σ.2.1 2) (σ.2.1 3) (σ.2.1 4) (σ.2.2.2 0) (τ.2.1 0) (τ.2.1 1) (τ.2.1 2) (τ.2.1 3) (τ.2.1 4) (τ.2.2.2 0)
def RN (th tr pl ln gr gm : Nat) (σ τ : St) : Prop := σ.1 14 = nI th ∧ τ.1 1 = nI th ∧ th ≤ 1000 ∧ σ.1 15 = nI tr ∧ τ.1 2 = nI tr ∧ tr ≤ 300 ∧ σ.1 13 = nI pl ∧ τ.1 3 = nI pl ∧ pl ≤ 1000 ∧ σ.1 17 = nI ln ∧ τ.1 4 = nI ln ∧ ln ≤ 300 ∧ σ.1 18 = nI gr ∧ τ.1 5 = nI gm ∧ gr = max gm ln ∧ gr ≤ 300 ∧
  σ.1 6 = τ.1 15 ∧ σ.1 7 = τ.1 16 ∧ σ.1 8 = τ.1 17 ∧ σ.1 1 = τ.1 14 ∧ (σ.1 1 = 0 ∨ σ.1 1 = 1)
def KK (tm : Nat) (lk : Nat → Nat) (th pl : Nat) (GP : Nat → Prop) (σ τ : St) : Prop := ∀ k, k < th → RK (TD tm lk) (LD tm lk (σ.2.1 1)) th (σ.1 1) (σ.2.1 8) (σ.2.1 6) pl GP (σ.2.1 9 k) (σ.2.1 10 k) (σ.2.1 11 k) (σ.2.1 12 k) (σ.2.1 13 k) (σ.2.2.2 1 k) (σ.2.1 14 k) (σ.2.1 15 k) (τ.2.1 5 k) (τ.2.1 6 k) (τ.2.1 7 k) (τ.2.1 11 k) (τ.2.1 12 k) (τ.2.1 13 k) (τ.2.1 8 k) (τ.2.2.2 1 k) (τ.2.1 9 k) (τ.2.1 10 k) (σ.2.1 8 k)
def EE (tm : Nat) (lk : Nat → Nat) (th pl ln : Nat) (GP : Nat → Prop) (σ τ : St) : Prop := ∀ i, i < ln → RE (TD tm lk) (AT tm (σ.2.1 0)) (CH tm (σ.2.1 0)) th (σ.1 1) (σ.2.1 8) (σ.2.1 6) pl GP (σ.2.1 19 i) (σ.2.1 20 i) (σ.2.1 21 i) (σ.2.2.2 2 i) (τ.2.1 16 i) (τ.2.1 17 i) (τ.2.1 18 i) (τ.2.2.2 2 i)
def Mid (R tm : Nat) (lk : Nat → Nat) (th tr pl ln gr gm : Nat) (GP : Nat → Prop) (σ τ : St) : Prop := TR tm lk σ τ ∧ RAx R σ τ ∧ RN th tr pl ln gr gm σ τ ∧ RP th pl GP (σ.2.1 8) (σ.2.1 5) (σ.2.1 6) (τ.2.1 14) (τ.2.1 15) ∧ KK tm lk th pl GP σ τ ∧ EE tm lk th pl ln GP σ τ ∧ RL th tr (σ.2.1 8) (σ.2.1 17)
def HH (tm : Nat) (lk : Nat → Nat) (th pl : Nat) (GP : Nat → Prop) (σ τ : St) : Prop := RH (TD tm lk) (LD tm lk (σ.2.1 1)) th (σ.2.1 8) (σ.2.1 6) pl GP σ τ
/-! what grows -/
def Ext (th th' pl pl' : Nat) (st st' nx nx' : Nat → Int32) (GP GP' : Nat → Prop) : Prop := th ≤ th' ∧ pl ≤ pl' ∧ (∀ k, k < th → st k ≠ 3 → st' k ≠ 3) ∧ (∀ p, p < pl → nx' p = nx p) ∧ (∀ p, GP p → GP' p)
theorem Dp_ext {nx nx' : Nat → Int32} {pl pl' : Nat} (hp : pl ≤ pl') (hn : ∀ p, p < pl → nx' p = nx p) : ∀ (d : Nat) (x : Int32), Dp nx pl x d → Dp nx' pl' x d
  | 0, _, _ => trivial
  | d + 1, x, h => by
    obtain ⟨p, h1, h2, h3⟩ := h
    exact ⟨p, by omega, h2, by rw [hn p h1]; exact Dp_ext hp hn d _ h3⟩
theorem Dp_le {nx : Nat → Int32} {pl : Nat} : ∀ (d d' : Nat) (x : Int32), d' ≤ d → Dp nx pl x d → Dp nx pl x d'
  | _, 0, _, _, _ => trivial
  | 0, d' + 1, _, h, _ => absurd h (by omega)
  | d + 1, d' + 1, x, h, q => by
    obtain ⟨p, h1, h2, h3⟩ := q
    exact ⟨p, h1, h2, Dp_le d d' _ (by omega) h3⟩
theorem Pv_ext {GP GP' : Nat → Prop} (hG : ∀ p, GP p → GP' p) {x : Int32} (h : Pv GP x) : Pv GP' x := by
  rcases h with h | ⟨p, h1, h2⟩
  · exact Or.inl h
  · exact Or.inr ⟨p, h1, hG p h2⟩
theorem VO_ext {LD : Nat → Nat → Nat → Prop} {th th' pl pl' : Nat} {st st' nx nx' : Nat → Int32} {GP GP' : Nat → Prop} (hx : Ext th th' pl pl' st st' nx nx' GP GP') {so : Int32} {xn : Int64} {x1 x2 : Int32} {yn : Int64} {y1 y2 : Int32} (h : VO LD th st nx pl GP so xn x1 x2 yn y1 y2) : VO LD th' st' nx' pl' GP' so xn x1 x2 yn y1 y2 := by
  obtain ⟨e1, e2, e3, e4, e5⟩ := hx
  rcases h with h | ⟨h1, h2, h3, t, a, d, h4, h5, h6, h7⟩ | ⟨h1, k1, k2, h2, h3, h4, h5, h6, h7, h8, h9⟩
  · exact Or.inl h
  · exact Or.inr (Or.inl ⟨h1, h2, Pv_ext e5 h3, t, a, d, h4, h5, h6, Dp_ext e2 e4 _ _ h7⟩)
  · exact Or.inr (Or.inr ⟨h1, k1, k2, by omega, by omega, h4, h5, h6, h7, e3 _ h2 h8, e3 _ h3 h9⟩)
theorem RK_ext {TD : Nat → Nat → Prop} {LD : Nat → Nat → Nat → Prop} {th th' pl pl' : Nat} {st st' nx nx' : Nat → Int32} {GP GP' : Nat → Prop} (hx : Ext th th' pl pl' st st' nx nx' GP GP') {sh x1 x2 x3 x4 x5 : Int32} {xn : Int64} {x6 x7 y0 y1 y2 y3 y4 yw y5 : Int32} {yn : Int64} {y6 y7 x0 : Int32} (h : RK TD LD th sh st nx pl GP x1 x2 x3 x4 x5 xn x6 x7 y0 y1 y2 y3 y4 yw y5 yn y6 y7 x0) : RK TD LD th' sh st' nx' pl' GP' x1 x2 x3 x4 x5 xn x6 x7 y0 y1 y2 y3 y4 yw y5 yn y6 y7 x0 := by
  obtain ⟨a1, a2, a3, a4, a5, ⟨t, d, b1, b2, b3⟩, a6, a7⟩ := h
  refine ⟨a1, a2, a3, a4, a5, ⟨t, d, b1, b2, fun z => ⟨Dp_ext hx.2.1 hx.2.2.2.1 _ _ (b3 z).1, Pv_ext hx.2.2.2.2 (b3 z).2⟩⟩, ?_, a7⟩
  rcases a6 with a6 | a6 | ⟨a6, a8, a9⟩ | a6
  · exact Or.inl a6
  · exact Or.inr (Or.inl a6)
  · exact Or.inr (Or.inr (Or.inl ⟨a6, a8, VO_ext hx a9⟩))
  · exact Or.inr (Or.inr (Or.inr a6))
theorem RE_ext {TD : Nat → Nat → Prop} {AT CH : Nat → Prop} {th th' pl pl' : Nat} {st st' nx nx' : Nat → Int32} {GP GP' : Nat → Prop} (hx : Ext th th' pl pl' st st' nx nx' GP GP') {sh x0 x1 x2 : Int32} {xn : Int64} {y0 y1 y2 : Int32} {yn : Int64} (h : RE TD AT CH th sh st nx pl GP x0 x1 x2 xn y0 y1 y2 yn) : RE TD AT CH th' sh st' nx' pl' GP' x0 x1 x2 xn y0 y1 y2 yn := by
  obtain ⟨e1, e2, e3, e4, e5⟩ := hx
  obtain ⟨a0, h⟩ := h
  refine ⟨a0, ?_⟩
  rcases h with ⟨a1, a2, a3, k, a4, a5, a6⟩ | ⟨a1, a3, k, a4, a5, a6⟩ | ⟨a1, a2, a3, a4, t, d, a5, a6, a7, a8⟩ | h | ⟨a1, a2, a3, a4, t, d, a5, a6, a7, a8⟩ | h | h
  · exact Or.inl ⟨a1, a2, a3, k, by omega, a5, e3 _ a4 a6⟩
  · exact Or.inr (Or.inl ⟨a1, a3, k, by omega, a5, e3 _ a4 a6⟩)
  · exact Or.inr (Or.inr (Or.inl ⟨a1, a2, a3, Pv_ext e5 a4, t, d, a5, a6, a7, Dp_ext e2 e4 _ _ a8⟩))
  · exact Or.inr (Or.inr (Or.inr (Or.inl h)))
  · exact Or.inr (Or.inr (Or.inr (Or.inr (Or.inl ⟨a1, a2, a3, Pv_ext e5 a4, t, d, a5, a6, a7, Dp_ext e2 e4 _ _ a8⟩))))
  · exact Or.inr (Or.inr (Or.inr (Or.inr (Or.inr (Or.inl h)))))
  · exact Or.inr (Or.inr (Or.inr (Or.inr (Or.inr (Or.inr h)))))
theorem RP_ext {th th' pl : Nat} {st st' hd nx hd' nx' : Nat → Int32} {GP : Nat → Prop} (hx : Ext th th' pl pl st st' nx nx GP GP) (h : RP th pl GP st hd nx hd' nx') : RP th' pl GP st' hd nx hd' nx' := by
  obtain ⟨e1, e2, e3, e4, e5⟩ := hx
  refine ⟨fun p hp => ?_, fun p hp => ?_⟩
  · obtain ⟨a1, a2, ⟨k, a3, a4⟩, a5⟩ := h.1 p hp
    exact ⟨a1, a2, ⟨k, by omega, a4⟩, a5⟩
  · obtain ⟨a1, ⟨k, a3, a4, a5⟩, a6⟩ := h.2 p hp
    exact ⟨a1, ⟨k, by omega, a4, e3 _ a3 a5⟩, a6⟩
theorem Ext_st {th pl : Nat} {st nx : Nat → Int32} {GP : Nat → Prop} {k : Nat} {c : Int32} (hc : c ≠ 3) : Ext th th pl pl st (upd st k c) nx nx GP GP := by
  refine ⟨Nat.le_refl _, Nat.le_refl _, fun j _ h => ?_, fun _ _ => rfl, fun _ h => h⟩
  by_cases e : j = k
  · subst e; rw [pk_us]; exact hc
  · rw [pk_un e]; exact h
theorem RL_upd {th tr : Nat} {st thr : Nat → Int32} {k : Nat} {c : Int32} (h : RL th tr st thr) (hk : st k ≠ 3) (hc : c ≠ 3) : RL th tr (upd st k c) thr := by
  have e : (fun j => decide (upd st k c j ≠ 3)) = (fun j => decide (st j ≠ 3)) := by
    funext j
    by_cases e : j = k
    · subst e; rw [pk_us, decide_eq_true hc, decide_eq_true hk]
    · rw [pk_un e]
  unfold RL
  rw [e]
  exact h
theorem RL_push {th tr : Nat} {st thr : Nat → Int32} {c : Int32} (h : RL th tr st thr) (hc : c ≠ 3) : RL (th + 1) (tr + 1) (upd st th c) (upd thr tr (nI th)) := by
  have e : (List.range (th + 1)).filter (fun j => decide (upd st th c j ≠ 3)) = (List.range th).filter (fun j => decide (st j ≠ 3)) ++ [th] := by
    rw [List.range_succ, List.filter_append]
    congr 1
    · apply List.filter_congr
      intro j hj
      have := List.mem_range.mp hj
      rw [pk_un (by omega)]
    · simp [pk_us, hc]
  unfold RL
  rw [e]
  obtain ⟨h1, h2⟩ := h
  refine ⟨by rw [List.length_append, ← h1]; rfl, fun i hi => ?_⟩
  by_cases q : i = tr
  · subst q
    rw [pk_us]
    congr 1
    rw [List.getElem_append_right (by omega)]
    simp
  · rw [pk_un q]
    have hi' : i < ((List.range th).filter (fun j => decide (st j ≠ 3))).length + 1 := by have := hi; rw [List.length_append] at this; exact this
    have hi2 : i < ((List.range th).filter (fun j => decide (st j ≠ 3))).length := by omega
    rw [List.getElem_append_left hi2]
    exact h2 i hi2
/-! the row -/
theorem sv_same (σ : St) (k : Nat) {x : Int32} (h : σ.1 k = x) : sv σ k x = σ := by
  subst h
  unfold sv
  have : up σ.1 k (σ.1 k) = σ.1 := by
    funext j
    by_cases e : j = k
    · subst e; exact up_self _ _ _
    · exact up_ne _ _ e
  rw [this]
def pC (σ : St) (ln : Nat) (e a b : Int32) (v : Int64) (g : Nat) : St := sv (sv (sg (sa (sa (sa σ 19 ln e) 20 ln a) 21 ln b) 2 ln v) 17 (nI (ln + 1))) 18 (nI g)
def pM (τ : St) (ln : Nat) (e a b : Int32) (v : Int64) : St := sv (sg (sa (sa (sa τ 16 ln e) 17 ln a) 18 ln b) 2 ln v) 4 (nI (ln + 1))
theorem Ro_add {σ : St} {ln gr : Nat} (c1 : σ.1 17 = nI ln) (c2 : σ.1 18 = nI gr) (hl : ln < 300) (hg : gr ≤ 300) (e a b : Int32) (v : Int64) : F_Ro_add σ e a b v = some (pC σ ln e a b v (max gr (ln + 1))) := by
  unfold F_Ro_add
  rw [c1, c2, if_neg (nI_pos (by omega)), if_pos (show nI ln < (300 : Int32) from nI_lt (b := 300) hl (by omega)), gw_ini hl (by omega), gw_ini hl (by omega), gw_ini hl (by omega), gw_ini hl (by omega), nI_clamp (by omega), nI_1]
  by_cases h : ln + 1 ≤ gr
  · rw [if_pos (nI_le h (by omega)), Nat.max_eq_left h]
    unfold pC
    rw [sv_same _ 18 (show (sv (sg (sa (sa (sa σ 19 ln e) 20 ln a) 21 ln b) 2 ln v) 17 (nI (ln + 1))).1 18 = nI gr from c2)]
  · rw [if_neg (nI_ge (by omega) (by omega)), Nat.max_eq_right (by omega)]
    rfl
theorem Mo_push {τ : St} {ln : Nat} (c1 : τ.1 4 = nI ln) (hl : ln < 300) (e a b : Int32) (v : Int64) : F_Mo_push τ e a b v = some (pM τ ln e a b v) := by
  unfold F_Mo_push
  rw [c1, gw_ini hl (by omega), gw_ini hl (by omega), gw_ini hl (by omega), gw_ini hl (by omega), nI_clamp (by omega), nI_1]
  rfl
section
variable {R tm : Nat} {lk : Nat → Nat} {th tr pl ln gr gm : Nat} {GP : Nat → Prop} {σ τ : St}
theorem Mid_push (h : Mid R tm lk th tr pl ln gr gm GP σ τ) (hl : ln < 300) {e a b : Int32} {v : Int64} {a' b' : Int32} {v' : Int64}
    (he : RE (TD tm lk) (AT tm (σ.2.1 0)) (CH tm (σ.2.1 0)) th (σ.1 1) (σ.2.1 8) (σ.2.1 6) pl GP e a b v e a' b' v') : Mid R tm lk th tr pl (ln + 1) (max gr (ln + 1)) gm GP (pC σ ln e a b v (max gr (ln + 1))) (pM τ ln e a' b' v') := by
  obtain ⟨hT, hA, ⟨s1, s2, s3, s4, s5, s6, s7, s8, s9, s10, s11, s12, s13, s14, s15, s16, s17⟩, hP, hK, hE, hL⟩ := h
  refine ⟨hT, hA, ⟨s1, s2, s3, s4, s5, s6, s7, s8, s9, rfl, rfl, by omega, rfl, s14, by omega, by omega, s17⟩, hP, hK, fun i hi => ?_, hL⟩
  show RE (TD tm lk) (AT tm (σ.2.1 0)) (CH tm (σ.2.1 0)) th (σ.1 1) (σ.2.1 8) (σ.2.1 6) pl GP (upd (σ.2.1 19) ln e i) (upd (σ.2.1 20) ln a i) (upd (σ.2.1 21) ln b i) (vp_updL (σ.2.2.2 2) ln v i) (upd (τ.2.1 16) ln e i) (upd (τ.2.1 17) ln a' i) (upd (τ.2.1 18) ln b' i) (vp_updL (τ.2.2.2 2) ln v' i)
  by_cases q : i = ln
  · subst q
    rw [pk_us, pk_us, pk_us, pk_uLs, pk_us, pk_us, pk_us, pk_uLs]
    exact he
  · rw [pk_un q, pk_un q, pk_un q, pk_uLn q, pk_un q, pk_un q, pk_un q, pk_uLn q]
    exact hE i (by omega)
theorem Ro_drop {σ : St} {ln : Nat} (c1 : σ.1 17 = nI (ln + 1)) (hl : ln < 300) : F_Ro_drop σ = some (sv σ 17 (nI ln)) := by
  unfold F_Ro_drop
  rw [c1, if_neg (nI_nle (by omega) (by omega)), nI_pred]
theorem Mid_drop (h : Mid R tm lk th tr pl (ln + 1) gr gr GP σ τ) : Mid R tm lk th tr pl ln gr gr GP (sv σ 17 (nI ln)) (sv τ 4 (nI ln)) := by
  obtain ⟨hT, hA, ⟨s1, s2, s3, s4, s5, s6, s7, s8, s9, s10, s11, s12, s13, s14, s15, s16, s17⟩, hP, hK, hE, hL⟩ := h
  exact ⟨hT, hA, ⟨s1, s2, s3, s4, s5, s6, s7, s8, s9, rfl, rfl, by omega, s13, s14, by omega, by omega, s17⟩, hP, hK, fun i hi => hE i (by omega), hL⟩
/-! a thing more -/
def tC (σ : St) (th tr : Nat) (t x : Int32) : St := sv (sv (sa (sa (sa (sa (sa (sa σ 8 th 0) 9 th t) 10 th x) 11 th 0) 12 th (-1)) 17 tr (nI th)) 14 (nI (th + 1))) 15 (nI (tr + 1))
def tM (τ : St) (th tr : Nat) (t x : Int32) : St := sv (sv (sa (sa (sa (sa (sa (sa τ 5 th 0) 6 th t) 7 th x) 11 th 0) 13 th 0) 12 th (-1)) 1 (nI (th + 1))) 2 (nI (tr + 1))
theorem Th_add {σ : St} {th tr : Nat} (c1 : σ.1 14 = nI th) (c2 : σ.1 15 = nI tr) (h1 : th < 1000) (h2 : tr < 300) (t x : Int32) : F_Th_add σ t x = some (nI th, tC σ th tr t x) := by
  unfold F_Th_add
  rw [c1, c2, if_neg (nI_pos (by omega)), if_neg (show ¬ (1000 : Int32) ≤ nI th from nI_ge (b := 1000) h1 (by omega)), if_neg (nI_pos (by omega)), if_pos (show nI tr < (300 : Int32) from nI_lt (b := 300) h2 (by omega)), gw_ini h1 (by omega), gw_ini h1 (by omega), gw_ini h1 (by omega), gw_ini h1 (by omega), gw_ini h1 (by omega), gw_ini h2 (by omega), nI_clamp (by omega), nI_clamp (by omega), nI_1, nI_1]
  rfl
theorem Mo_newThing {τ : St} {th tr : Nat} (c1 : τ.1 1 = nI th) (c2 : τ.1 2 = nI tr) (h1 : th < 1000) (t x : Int32) : F_Mo_newThing τ t x = some (nI th, tM τ th tr t x) := by
  unfold F_Mo_newThing
  rw [c1, c2, gw_ini h1 (by omega), gw_ini h1 (by omega), gw_ini h1 (by omega), gw_ini h1 (by omega), gw_ini h1 (by omega), gw_ini h1 (by omega), nI_clamp (by omega), nI_1, nI_1, nI_pred]
  rfl
theorem Ext_th {th pl : Nat} {st nx : Nat → Int32} {GP : Nat → Prop} : Ext th (th + 1) pl pl st (upd st th 0) nx nx GP GP := by
  refine ⟨by omega, Nat.le_refl _, fun j hj h => ?_, fun _ _ => rfl, fun _ h => h⟩
  rw [pk_un (by omega)]; exact h
theorem Mid_thing (h : Mid R tm lk th tr pl ln gr gm GP σ τ) (h1 : th < 1000) (h2 : tr < 300) {t d : Nat} {x : Int32} (ht : TD tm lk t d) (hd : Dp (σ.2.1 6) pl x d) (hx : Pv GP x) :
    Mid R tm lk (th + 1) (tr + 1) pl ln gr gm GP (tC σ th tr (nI t) x) (tM τ th tr (nI t) x) := by
  obtain ⟨hT, hA, ⟨s1, s2, s3, s4, s5, s6, s7⟩, hP, hK, hE, hL⟩ := h
  refine ⟨hT, hA, ⟨rfl, rfl, by omega, rfl, rfl, by omega, s7⟩, RP_ext Ext_th hP, fun k hk => ?_, fun i hi => RE_ext Ext_th (hE i hi), RL_push hL (by decide)⟩
  show RK (TD tm lk) (LD tm lk (σ.2.1 1)) (th + 1) (σ.1 1) (upd (σ.2.1 8) th 0) (σ.2.1 6) pl GP (upd (σ.2.1 9) th (nI t) k) (upd (σ.2.1 10) th x k) (upd (σ.2.1 11) th 0 k) (upd (σ.2.1 12) th (-1) k) (σ.2.1 13 k) (σ.2.2.2 1 k) (σ.2.1 14 k) (σ.2.1 15 k) (upd (τ.2.1 5) th 0 k) (upd (τ.2.1 6) th (nI t) k) (upd (τ.2.1 7) th x k) (upd (τ.2.1 11) th 0 k) (upd (τ.2.1 12) th (-1) k) (upd (τ.2.1 13) th 0 k) (τ.2.1 8 k) (τ.2.2.2 1 k) (τ.2.1 9 k) (τ.2.1 10 k) (upd (σ.2.1 8) th 0 k)
  by_cases q : k = th
  · subst q
    simp only [pk_us]
    exact ⟨rfl, rfl, rfl, rfl, rfl, ⟨t, d, rfl, ht, fun _ => ⟨hd, hx⟩⟩, Or.inl rfl, fun _ => rfl, fun _ _ => rfl, Or.inl rfl⟩
  · simp only [pk_un q]
    exact RK_ext Ext_th (hK k (by omega))
/-! a place more -/
def lC (σ : St) (pl : Nat) (k x : Int32) : St := sv (sa (sa σ 5 pl k) 6 pl x) 13 (nI (pl + 1))
def lM (τ : St) (pl : Nat) (k x : Int32) : St := sv (sa (sa τ 14 pl k) 15 pl x) 3 (nI (pl + 1))
theorem Pl_add {σ : St} {pl : Nat} (c1 : σ.1 13 = nI pl) (h1 : pl < 1000) (k x : Int32) : F_Pl_add σ k x = some (nI pl, lC σ pl k x) := by
  unfold F_Pl_add
  rw [c1, if_neg (nI_pos (by omega)), if_pos (show nI pl < (1000 : Int32) from nI_lt (b := 1000) h1 (by omega)), gw_ini h1 (by omega), gw_ini h1 (by omega), nI_clamp (by omega), nI_1]
  rfl
theorem Mo_newPlace {τ : St} {pl : Nat} (c1 : τ.1 3 = nI pl) (h1 : pl < 1000) (k x : Int32) : F_Mo_newPlace τ k x = some (nI pl, lM τ pl k x) := by
  unfold F_Mo_newPlace
  rw [c1, gw_ini h1 (by omega), gw_ini h1 (by omega), nI_clamp (by omega), nI_1, nI_pred]
  rfl
theorem Ext_pl {th pl : Nat} {st nx : Nat → Int32} {GP : Nat → Prop} {x : Int32} : Ext th th pl (pl + 1) st st nx (upd nx pl x) GP (fun p => GP p ∨ p = pl) :=
  ⟨Nat.le_refl _, by omega, fun _ _ h => h, fun p hp => pk_un (by omega), fun _ h => Or.inl h⟩
theorem RP_push {th pl : Nat} {st hd nx hd' nx' : Nat → Int32} {GP : Nat → Prop} (h : RP th pl GP st hd nx hd' nx') {k : Nat} {x : Int32} (hk : k < th) (hs : st k ≠ 3) (hx : Pv GP x) : RP th (pl + 1) (fun p => GP p ∨ p = pl) st (upd hd pl (nI k)) (upd nx pl x) (upd hd' pl (nI k)) (upd nx' pl x) := by
  refine ⟨fun p hp => ?_, fun p hp => ?_⟩
  · by_cases q : p = pl
    · subst q
      simp only [pk_us]
      refine ⟨trivial, trivial, ⟨k, hk, rfl⟩, ?_⟩
      rcases hx with hx | ⟨j, e, hj⟩
      · exact Or.inl hx
      · exact Or.inr ⟨j, (h.2 j hj).1, e⟩
    · simp only [pk_un q]
      exact h.1 p (by omega)
  · by_cases q : p = pl
    · subst q
      simp only [pk_us]
      exact ⟨by omega, ⟨k, hk, rfl, hs⟩, Pv_ext (fun _ h => Or.inl h) hx⟩
    · have hg : GP p := hp.resolve_right q
      obtain ⟨a1, a2, a3⟩ := h.2 p hg
      simp only [pk_un q]
      exact ⟨by omega, a2, Pv_ext (fun _ h => Or.inl h) a3⟩
theorem Mid_place (h : Mid R tm lk th tr pl ln gr gm GP σ τ) (h1 : pl < 1000) {k : Nat} {x : Int32} (hk : k < th) (hs : σ.2.1 8 k ≠ 3) (hx : Pv GP x) :
    Mid R tm lk th tr (pl + 1) ln gr gm (fun p => GP p ∨ p = pl) (lC σ pl (nI k) x) (lM τ pl (nI k) x) := by
  obtain ⟨hT, hA, ⟨s1, s2, s3, s4, s5, s6, s7, s8, s9, s10⟩, hP, hK, hE, hL⟩ := h
  exact ⟨hT, hA, ⟨s1, s2, s3, s4, s5, s6, rfl, rfl, by omega, s10⟩, RP_push hP hk hs hx, fun k hk => RK_ext Ext_pl (hK k hk), fun i hi => RE_ext Ext_pl (hE i hi), hL⟩
theorem Ext_tp {th pl : Nat} {st nx : Nat → Int32} {GP : Nat → Prop} {x : Int32} : Ext th (th + 1) pl (pl + 1) st (upd st th 0) nx (upd nx pl x) GP (fun p => GP p ∨ p = pl) :=
  ⟨by omega, by omega, fun j hj h => by rw [pk_un (by omega)]; exact h, fun p hp => pk_un (by omega), fun _ h => Or.inl h⟩
theorem Mid_let (h : Mid R tm lk th tr pl ln gr gm GP σ τ) (h0 : pl < 1000) (h1 : th < 1000) (h2 : tr < 300) {t d : Nat} {x : Int32} (ht : TD tm lk t (d + 1)) (hd : Dp (σ.2.1 6) pl x d) (hx : Pv GP x) :
    Mid R tm lk (th + 1) (tr + 1) (pl + 1) ln gr gm (fun p => GP p ∨ p = pl) (tC (lC σ pl (nI th) x) th tr (nI t) (nI pl)) (tM (lM τ pl (nI th) x) th tr (nI t) (nI pl)) := by
  obtain ⟨hT, hA, ⟨s1, s2, s3, s4, s5, s6, s7, s8, s9, s10⟩, hP, hK, hE, hL⟩ := h
  refine ⟨hT, hA, ⟨rfl, rfl, by omega, rfl, rfl, by omega, rfl, rfl, by omega, s10⟩, RP_push (RP_ext Ext_th hP) (by omega) (by rw [pk_us]; decide) hx, fun k hk => ?_, fun i hi => RE_ext Ext_tp (hE i hi), RL_push hL (by decide)⟩
  show RK (TD tm lk) (LD tm lk (σ.2.1 1)) (th + 1) (σ.1 1) (upd (σ.2.1 8) th 0) (upd (σ.2.1 6) pl x) (pl + 1) (fun p => GP p ∨ p = pl) (upd (σ.2.1 9) th (nI t) k) (upd (σ.2.1 10) th (nI pl) k) (upd (σ.2.1 11) th 0 k) (upd (σ.2.1 12) th (-1) k) (σ.2.1 13 k) (σ.2.2.2 1 k) (σ.2.1 14 k) (σ.2.1 15 k) (upd (τ.2.1 5) th 0 k) (upd (τ.2.1 6) th (nI t) k) (upd (τ.2.1 7) th (nI pl) k) (upd (τ.2.1 11) th 0 k) (upd (τ.2.1 12) th (-1) k) (upd (τ.2.1 13) th 0 k) (τ.2.1 8 k) (τ.2.2.2 1 k) (τ.2.1 9 k) (τ.2.1 10 k) (upd (σ.2.1 8) th 0 k)
  by_cases q : k = th
  · subst q
    simp only [pk_us]
    exact ⟨rfl, rfl, rfl, rfl, rfl, ⟨t, d + 1, rfl, ht, fun _ => ⟨⟨pl, by omega, rfl, by rw [pk_us]; exact Dp_ext (by omega) (fun p hp => pk_un (by omega)) _ _ hd⟩, Or.inr ⟨pl, rfl, Or.inr rfl⟩⟩⟩, Or.inl rfl, fun _ => rfl, fun _ _ => rfl, Or.inl rfl⟩
  · simp only [pk_un q]
    exact RK_ext Ext_tp (hK k (by omega))
/-! a thing done -/
def fC (σ : St) (k : Nat) (s : Int32) (v : Int64) (a b : Int32) : St := sa (sa (sg (sa (sa σ 8 k 2) 13 k s) 1 k v) 14 k a) 15 k b
def fM (τ : St) (k : Nat) (s : Int32) (v : Int64) (a b : Int32) : St := sa (sa (sg (sa (sa τ 5 k 2) 8 k s) 1 k v) 9 k a) 10 k b
theorem Mid_done (h : Mid R tm lk th tr pl ln gr gm GP σ τ) {k : Nat} (hk : k < th) (hs : σ.2.1 8 k ≠ 3) {s : Int32} {v v' : Int64} {a b a' b' : Int32} (hv : VO (LD tm lk (σ.2.1 1)) th (σ.2.1 8) (σ.2.1 6) pl GP s v a b v' a' b') :
    Mid R tm lk th tr pl ln gr gm GP (fC σ k s v a b) (fM τ k s v' a' b') := by
  obtain ⟨hT, hA, hN, hP, hK, hE, hL⟩ := h
  refine ⟨hT, hA, hN, RP_ext (Ext_st (c := 2) (by decide)) hP, fun j hj => ?_, fun i hi => RE_ext (Ext_st (by decide)) (hE i hi), RL_upd hL hs (by decide)⟩
  show RK (TD tm lk) (LD tm lk (σ.2.1 1)) th (σ.1 1) (upd (σ.2.1 8) k 2) (σ.2.1 6) pl GP (σ.2.1 9 j) (σ.2.1 10 j) (σ.2.1 11 j) (σ.2.1 12 j) (upd (σ.2.1 13) k s j) (vp_updL (σ.2.2.2 1) k v j) (upd (σ.2.1 14) k a j) (upd (σ.2.1 15) k b j) (upd (τ.2.1 5) k 2 j) (τ.2.1 6 j) (τ.2.1 7 j) (τ.2.1 11 j) (τ.2.1 12 j) (τ.2.1 13 j) (upd (τ.2.1 8) k s j) (vp_updL (τ.2.2.2 1) k v' j) (upd (τ.2.1 9) k a' j) (upd (τ.2.1 10) k b' j) (upd (σ.2.1 8) k 2 j)
  by_cases q : j = k
  · subst q
    simp only [pk_us, pk_uLs]
    obtain ⟨a1, a2, a3, a4, a5, ⟨t, d, b1, b2, b3⟩, a6, a7, a8, a9⟩ := hK j hj
    exact ⟨rfl, a2, a3, a4, a5, ⟨t, d, b1, b2, fun z => absurd z (by decide)⟩, Or.inr (Or.inr (Or.inl ⟨rfl, rfl, VO_ext (Ext_st (by decide)) hv⟩)), a7, fun _ z => absurd z (by decide), a9⟩
  · simp only [pk_un q, pk_uLn q]
    exact RK_ext (Ext_st (by decide)) (hK j hj)
/-! a thing needed that waits -/
def wC1 (σ : St) (k : Nat) (r : Int32) : St := sa (sa (sa (sv σ 8 (σ.1 8 + 1)) 11 k (σ.2.1 11 k + 1)) 8 k 1) 12 k r
def wM1 (τ : St) (k : Nat) (r : Int32) : St := sa (sa (sa (sa (sv τ 17 (τ.1 17 + 1)) 11 k (τ.2.1 11 k + 1)) 13 k 1) 12 k r) 5 k 1
theorem Mid_work1 (h : Mid R tm lk th tr pl ln gr gm GP σ τ) {k : Nat} (hk : k < th) (hs : σ.2.1 8 k ≠ 3) (hsh : σ.1 1 = 1) (r : Int32) : Mid R tm lk th tr pl ln gr gm GP (wC1 σ k r) (wM1 τ k r) := by
  obtain ⟨hT, hA, ⟨s1, s2, s3, s4, s5, s6, s7, s8, s9, s10, s11, s12, s13, s14, s15, s16, s17, s18, s19, s20⟩, hP, hK, hE, hL⟩ := h
  refine ⟨hT, hA, ⟨s1, s2, s3, s4, s5, s6, s7, s8, s9, s10, s11, s12, s13, s14, s15, s16, s17, s18, by show σ.1 8 + 1 = τ.1 17 + 1; rw [s19], s20⟩, RP_ext (Ext_st (c := 1) (by decide)) hP, fun j hj => ?_, fun i hi => RE_ext (Ext_st (by decide)) (hE i hi), RL_upd hL hs (by decide)⟩
  show RK (TD tm lk) (LD tm lk (σ.2.1 1)) th (σ.1 1) (upd (σ.2.1 8) k 1) (σ.2.1 6) pl GP (σ.2.1 9 j) (σ.2.1 10 j) (upd (σ.2.1 11) k (σ.2.1 11 k + 1) j) (upd (σ.2.1 12) k r j) (σ.2.1 13 j) (σ.2.2.2 1 j) (σ.2.1 14 j) (σ.2.1 15 j) (upd (τ.2.1 5) k 1 j) (τ.2.1 6 j) (τ.2.1 7 j) (upd (τ.2.1 11) k (τ.2.1 11 k + 1) j) (upd (τ.2.1 12) k r j) (upd (τ.2.1 13) k 1 j) (τ.2.1 8 j) (τ.2.2.2 1 j) (τ.2.1 9 j) (τ.2.1 10 j) (upd (σ.2.1 8) k 1 j)
  by_cases q : j = k
  · subst q
    simp only [pk_us]
    obtain ⟨a1, a2, a3, a4, a5, ⟨t, d, b1, b2, b3⟩, a6, a7, a8, a9⟩ := hK j hj
    exact ⟨rfl, a2, a3, by rw [a4], rfl, ⟨t, d, b1, b2, fun z => absurd z (by decide)⟩, Or.inr (Or.inl rfl), fun z => absurd (hsh.symm.trans z) (by decide), fun _ z => absurd z (by decide), Or.inr rfl⟩
  · simp only [pk_un q]
    exact RK_ext (Ext_st (by decide)) (hK j hj)
def wC0 (σ : St) (k : Nat) : St := sa (sv σ 8 (σ.1 8 + 1)) 11 k (σ.2.1 11 k + 1)
def wM0 (τ : St) (k : Nat) : St := sa (sv τ 17 (τ.1 17 + 1)) 11 k (τ.2.1 11 k + 1)
def wM00 (τ : St) (k : Nat) : St := sa (sa (sa (sv τ 17 (τ.1 17 + 1)) 11 k (τ.2.1 11 k + 1)) 13 k 1) 12 k (-1)
theorem Mid_work0 (h : Mid R tm lk th tr pl ln gr gm GP σ τ) {k : Nat} (hsh : σ.1 1 = 0) : Mid R tm lk th tr pl ln gr gm GP (wC0 σ k) (wM0 τ k) ∧ Mid R tm lk th tr pl ln gr gm GP (wC0 σ k) (wM00 τ k) := by
  obtain ⟨hT, hA, ⟨s1, s2, s3, s4, s5, s6, s7, s8, s9, s10, s11, s12, s13, s14, s15, s16, s17, s18, s19, s20⟩, hP, hK, hE, hL⟩ := h
  refine ⟨⟨hT, hA, ⟨s1, s2, s3, s4, s5, s6, s7, s8, s9, s10, s11, s12, s13, s14, s15, s16, s17, s18, by show σ.1 8 + 1 = τ.1 17 + 1; rw [s19], s20⟩, hP, fun j hj => ?_, hE, hL⟩, ⟨hT, hA, ⟨s1, s2, s3, s4, s5, s6, s7, s8, s9, s10, s11, s12, s13, s14, s15, s16, s17, s18, by show σ.1 8 + 1 = τ.1 17 + 1; rw [s19], s20⟩, hP, fun j hj => ?_, hE, hL⟩⟩
  · show RK (TD tm lk) (LD tm lk (σ.2.1 1)) th (σ.1 1) (σ.2.1 8) (σ.2.1 6) pl GP (σ.2.1 9 j) (σ.2.1 10 j) (upd (σ.2.1 11) k (σ.2.1 11 k + 1) j) (σ.2.1 12 j) (σ.2.1 13 j) (σ.2.2.2 1 j) (σ.2.1 14 j) (σ.2.1 15 j) (τ.2.1 5 j) (τ.2.1 6 j) (τ.2.1 7 j) (upd (τ.2.1 11) k (τ.2.1 11 k + 1) j) (τ.2.1 12 j) (τ.2.1 13 j) (τ.2.1 8 j) (τ.2.2.2 1 j) (τ.2.1 9 j) (τ.2.1 10 j) (σ.2.1 8 j)
    by_cases q : j = k
    · subst q
      simp only [pk_us]
      obtain ⟨a1, a2, a3, a4, a5⟩ := hK j hj
      exact ⟨a1, a2, a3, by rw [a4], a5⟩
    · simp only [pk_un q]
      exact hK j hj
  · show RK (TD tm lk) (LD tm lk (σ.2.1 1)) th (σ.1 1) (σ.2.1 8) (σ.2.1 6) pl GP (σ.2.1 9 j) (σ.2.1 10 j) (upd (σ.2.1 11) k (σ.2.1 11 k + 1) j) (σ.2.1 12 j) (σ.2.1 13 j) (σ.2.2.2 1 j) (σ.2.1 14 j) (σ.2.1 15 j) (τ.2.1 5 j) (τ.2.1 6 j) (τ.2.1 7 j) (upd (τ.2.1 11) k (τ.2.1 11 k + 1) j) (upd (τ.2.1 12) k (-1) j) (upd (τ.2.1 13) k 1 j) (τ.2.1 8 j) (τ.2.2.2 1 j) (τ.2.1 9 j) (τ.2.1 10 j) (σ.2.1 8 j)
    by_cases q : j = k
    · subst q
      simp only [pk_us]
      obtain ⟨a1, a2, a3, a4, a5, a6, a7, a8, a9, a10⟩ := hK j hj
      exact ⟨a1, a2, a3, by rw [a4], a8 hsh, a6, a7, a8, fun z => absurd (hsh.symm.trans z) (by decide), Or.inr rfl⟩
    · simp only [pk_un q]
      exact hK j hj
end
