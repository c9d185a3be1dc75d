/-! STATE: a state is four tables: ints, rows of ints, longs, rows of longs -/
abbrev St : Type := (Nat → Int32) × (Nat → Nat → Int32) × (Nat → Int64) × (Nat → Nat → Int64)
def up {α : Type} (f : Nat → α) (k : Nat) (x : α) : Nat → α := fun j => bif Nat.beq j k then x else f j
def sv (s : St) (k : Nat) (x : Int32) : St := (up s.1 k x, s.2.1, s.2.2.1, s.2.2.2)
def sa (s : St) (k i : Nat) (x : Int32) : St := (s.1, up s.2.1 k (upd (s.2.1 k) i x), s.2.2.1, s.2.2.2)
def sw (s : St) (k : Nat) (x : Int64) : St := (s.1, s.2.1, up s.2.2.1 k x, s.2.2.2)
def sg (s : St) (k i : Nat) (x : Int64) : St := (s.1, s.2.1, s.2.2.1, up s.2.2.2 k (vp_updL (s.2.2.2 k) i x))
theorem up_self {α : Type} (f : Nat → α) (k : Nat) (x : α) : up f k x k = x := by simp [up]
theorem up_ne {α : Type} (f : Nat → α) {k j : Nat} (x : α) (h : j ≠ k) : up f k x j = f j := by
  have : Nat.beq j k = false := by
    cases hb : Nat.beq j k with
    | true => exact absurd (Nat.eq_of_beq_eq_true hb) h
    | false => rfl
  simp [up, this]
def gw_bind {α β γ : Type} (o : Option (α × β)) (f : α → β → Option γ) : Option γ := match o with
  | none => none
  | some q => f q.1 q.2
def gw_bindv {β γ : Type} (o : Option β) (f : β → Option γ) : Option γ := match o with
  | none => none
  | some q => f q
theorem gw_pos {α : Type} {c : Prop} [Decidable c] {a b y : α} (h : c) (hF : (if c then a else b) = y) : a = y := by rw [if_pos h] at hF; exact hF
theorem gw_neg {α : Type} {c : Prop} [Decidable c] {a b y : α} (h : ¬ c) (hF : (if c then a else b) = y) : b = y := by rw [if_neg h] at hF; exact hF
theorem gw_grd {α : Type} {c : Prop} [Decidable c] {a : Option α} {y : α} (hF : (if c then a else none) = some y) : c ∧ a = some y := by
  by_cases h : c
  · rw [if_pos h] at hF; exact ⟨h, hF⟩
  · rw [if_neg h] at hF; cases hF
theorem gw_bnd {α β γ : Type} {o : Option (α × β)} {f : α → β → Option γ} {y : γ} (hF : gw_bind o f = some y) : ∃ (r : α) (t : β), o = some (r, t) ∧ f r t = some y := by
  cases o with
  | none => cases hF
  | some q => exact ⟨q.1, q.2, rfl, hF⟩
theorem gw_bndv {β γ : Type} {o : Option β} {f : β → Option γ} {y : γ} (hF : gw_bindv o f = some y) : ∃ t : β, o = some t ∧ f t = some y := by
  cases o with
  | none => cases hF
  | some q => exact ⟨q, rfl, hF⟩
def gw_in (i : Int32) (n : Nat) : Bool := decide (0 ≤ i) && decide (i.toNatClampNeg < n)
theorem gw_in_ok {i : Int32} {n : Nat} (h : gw_in i n = true) : vp_in i n := by
  simp only [gw_in, Bool.and_eq_true, decide_eq_true_eq] at h
  intro q
  rcases q with q | q
  · exact absurd h.1 (Int32.not_le.mpr q)
  · omega
theorem gw_b01n {b : Int32} (h : b = 0 ∨ b = 1) : narrow .boolean (.int b) = .int b := by
  rcases h with rfl | rfl <;> rfl
theorem gw_b01f {b : Int32} (h : b = 0 ∨ b = 1) : fits .boolean (.int b) = true := by
  rcases h with rfl | rfl <;> rfl

/- wC: ints 0 Wa.outcome, 1 Wa.shares, 2 Wa.hand, 3 Wa.handTerm, 4 Wa.handPlaces, 5 Wa.handThing, 6 Wa.steps, 7 Wa.needsOfDone, 8 Wa.needsOfWaiting, 9 Wa.ringNeeded, 10 Wa.pace, 11 Wa.round, 12 Te.count, 13 Pl.made, 14 Th.made, 15 Th.thereCount, 16 Th.reachedCount, 17 Ro.length, 18 Ro.greatest, 19 Va.sort, 20 Va.first, 21 Va.second; rows of ints 0 Te.sorts, 1 Te.firsts, 2 Te.seconds, 3 Te.thirds, 4 Te.lacking, 5 Pl.held, 6 Pl.outers, 7 Pl.marks, 8 Th.states, 9 Th.terms, 10 Th.places, 11 Th.times, 12 Th.needers, 13 Th.valueSorts, 14 Th.valueFirsts, 15 Th.valueSeconds, 16 Th.marks, 17 Th.there, 18 Th.reached, 19 Ro.kinds, 20 Ro.firsts, 21 Ro.seconds; longs 0 Va.number; rows of longs 0 Te.numbers, 1 Th.valueNumbers, 2 Ro.numbers -/
def wC (ad : Nat → Nat) (cI cL cZ : ClassId) (σ : St) : va_W := [
  (ad 0, .inr (0, [.ref (ad 1)])),
  (ad 1, .inr (1, [.ref (ad 2), .ref (ad 3), .ref (ad 4), .ref (ad 5), .ref (ad 6), .int (σ.1 0), .int (σ.1 1), .int (σ.1 2), .int (σ.1 3), .int (σ.1 4), .int (σ.1 5), .int (σ.1 6), .int (σ.1 7), .int (σ.1 8), .int (σ.1 9), .int (σ.1 10), .int (σ.1 11)])),
  (ad 2, .inr (2, [.ref (ad 7), .ref (ad 8), .ref (ad 9), .ref (ad 10), .ref (ad 11), .ref (ad 12), .int (σ.1 12)])),
  (ad 3, .inr (3, [.ref (ad 13), .ref (ad 14), .ref (ad 15), .int (σ.1 13)])),
  (ad 4, .inr (4, [.ref (ad 16), .ref (ad 17), .ref (ad 18), .ref (ad 19), .ref (ad 20), .ref (ad 21), .ref (ad 22), .ref (ad 23), .ref (ad 24), .ref (ad 25), .ref (ad 26), .ref (ad 27), .int (σ.1 14), .int (σ.1 15), .int (σ.1 16)])),
  (ad 5, .inr (5, [.ref (ad 28), .ref (ad 29), .ref (ad 30), .ref (ad 31), .int (σ.1 17), .int (σ.1 18)])),
  (ad 6, .inr (6, [.int (σ.1 19), .long (σ.2.2.1 0), .int (σ.1 20), .int (σ.1 21)])),
  (ad 7, .inl (cI, 200, .inl (σ.2.1 0))),
  (ad 8, .inl (cI, 200, .inl (σ.2.1 1))),
  (ad 9, .inl (cI, 200, .inl (σ.2.1 2))),
  (ad 10, .inl (cI, 200, .inl (σ.2.1 3))),
  (ad 11, .inl (cL, 200, .inr (.inl (σ.2.2.2 0)))),
  (ad 12, .inl (cI, 200, .inl (σ.2.1 4))),
  (ad 13, .inl (cI, 1000, .inl (σ.2.1 5))),
  (ad 14, .inl (cI, 1000, .inl (σ.2.1 6))),
  (ad 15, .inl (cI, 1000, .inl (σ.2.1 7))),
  (ad 16, .inl (cI, 1000, .inl (σ.2.1 8))),
  (ad 17, .inl (cI, 1000, .inl (σ.2.1 9))),
  (ad 18, .inl (cI, 1000, .inl (σ.2.1 10))),
  (ad 19, .inl (cI, 1000, .inl (σ.2.1 11))),
  (ad 20, .inl (cI, 1000, .inl (σ.2.1 12))),
  (ad 21, .inl (cI, 1000, .inl (σ.2.1 13))),
  (ad 22, .inl (cL, 1000, .inr (.inl (σ.2.2.2 1)))),
  (ad 23, .inl (cI, 1000, .inl (σ.2.1 14))),
  (ad 24, .inl (cI, 1000, .inl (σ.2.1 15))),
  (ad 25, .inl (cI, 1000, .inl (σ.2.1 16))),
  (ad 26, .inl (cI, 300, .inl (σ.2.1 17))),
  (ad 27, .inl (cI, 300, .inl (σ.2.1 18))),
  (ad 28, .inl (cI, 300, .inl (σ.2.1 19))),
  (ad 29, .inl (cI, 300, .inl (σ.2.1 20))),
  (ad 30, .inl (cI, 300, .inl (σ.2.1 21))),
  (ad 31, .inl (cL, 300, .inr (.inl (σ.2.2.2 2))))]
/- wM: ints 0 Mo.terms, 1 Mo.things, 2 Mo.there, 3 Mo.places, 4 Mo.length, 5 Mo.longest, 6 Mo.hand, 7 Mo.handTerm, 8 Mo.handPlaces, 9 Mo.handThing, 10 Mo.sort, 11 Mo.left, 12 Mo.right, 13 Mo.outcome, 14 Mo.shares, 15 Mo.steps, 16 Mo.needsDone, 17 Mo.needsWaiting, 18 Mo.ringThing, 19 Mo.often, 20 Mo.code, 21 Mo.lined; rows of ints 0 Mo.kinds, 1 Mo.as, 2 Mo.bs, 3 Mo.cs, 4 Mo.lacking, 5 Mo.states, 6 Mo.thingTerms, 7 Mo.thingPlaces, 8 Mo.valueSorts, 9 Mo.valueLefts, 10 Mo.valueRights, 11 Mo.works, 12 Mo.neededBy, 13 Mo.wasNeeded, 14 Mo.placeThings, 15 Mo.placeNexts, 16 Mo.entries, 17 Mo.entryThings, 18 Mo.entryPlaces, 19 Mo.reached, 20 Mo.walked, 21 Mo.line; longs 0 Mo.number; rows of longs 0 Mo.numbers, 1 Mo.valueNumbers, 2 Mo.entryNumbers -/
def wM (ad : Nat → Nat) (cI cL cZ : ClassId) (σ : St) : va_W := [
  (ad 0, .inr (7, [.int (σ.1 0), .ref (ad 1), .ref (ad 2), .ref (ad 3), .ref (ad 4), .ref (ad 5), .ref (ad 6), .int (σ.1 1), .int (σ.1 2), .ref (ad 7), .ref (ad 8), .ref (ad 9), .ref (ad 10), .ref (ad 11), .ref (ad 12), .ref (ad 13), .ref (ad 14), .ref (ad 15), .ref (ad 16), .int (σ.1 3), .ref (ad 17), .ref (ad 18), .int (σ.1 4), .int (σ.1 5), .ref (ad 19), .ref (ad 20), .ref (ad 21), .ref (ad 22), .int (σ.1 6), .int (σ.1 7), .int (σ.1 8), .int (σ.1 9), .int (σ.1 10), .long (σ.2.2.1 0), .int (σ.1 11), .int (σ.1 12), .int (σ.1 13), .int (σ.1 14), .int (σ.1 15), .int (σ.1 16), .int (σ.1 17), .int (σ.1 18), .int (σ.1 19), .int (σ.1 20), .ref (ad 23), .ref (ad 24), .ref (ad 25), .int (σ.1 21)])),
  (ad 1, .inl (cI, 200, .inl (σ.2.1 0))),
  (ad 2, .inl (cI, 200, .inl (σ.2.1 1))),
  (ad 3, .inl (cI, 200, .inl (σ.2.1 2))),
  (ad 4, .inl (cI, 200, .inl (σ.2.1 3))),
  (ad 5, .inl (cL, 200, .inr (.inl (σ.2.2.2 0)))),
  (ad 6, .inl (cI, 200, .inl (σ.2.1 4))),
  (ad 7, .inl (cI, 1000, .inl (σ.2.1 5))),
  (ad 8, .inl (cI, 1000, .inl (σ.2.1 6))),
  (ad 9, .inl (cI, 1000, .inl (σ.2.1 7))),
  (ad 10, .inl (cI, 1000, .inl (σ.2.1 8))),
  (ad 11, .inl (cL, 1000, .inr (.inl (σ.2.2.2 1)))),
  (ad 12, .inl (cI, 1000, .inl (σ.2.1 9))),
  (ad 13, .inl (cI, 1000, .inl (σ.2.1 10))),
  (ad 14, .inl (cI, 1000, .inl (σ.2.1 11))),
  (ad 15, .inl (cI, 1000, .inl (σ.2.1 12))),
  (ad 16, .inl (cZ, 1000, .inl (σ.2.1 13))),
  (ad 17, .inl (cI, 1000, .inl (σ.2.1 14))),
  (ad 18, .inl (cI, 1000, .inl (σ.2.1 15))),
  (ad 19, .inl (cI, 300, .inl (σ.2.1 16))),
  (ad 20, .inl (cI, 300, .inl (σ.2.1 17))),
  (ad 21, .inl (cI, 300, .inl (σ.2.1 18))),
  (ad 22, .inl (cL, 300, .inr (.inl (σ.2.2.2 2)))),
  (ad 23, .inl (cZ, 1000, .inl (σ.2.1 19))),
  (ad 24, .inl (cZ, 1000, .inl (σ.2.1 20))),
  (ad 25, .inl (cI, 1000, .inl (σ.2.1 21)))]
def gw_N : Nat := 1000000000
def F_Pl_clear (σ : St) : Option St :=
  some (sv σ 13 0)
def F_Th_clear (σ : St) : Option St :=
  some (sv (sv (sv σ 14 0) 15 0) 16 0)
def F_Ro_clear (σ : St) : Option St :=
  some (sv (sv σ 17 0) 18 0)
def F_Va_be (σ : St) (x1 : Int32) (x2 : Int64) (x4 : Int32) (x5 : Int32) : Option St :=
  some (sv (sv (sw (sv σ 19 x1) 0 x2) 20 x4) 21 x5)
def F_Va_beNumber (σ : St) (x1 : Int64) : Option St :=
  gw_bindv (F_Va_be (σ) 0 x1 (-1) (-1)) fun σ2 =>
    some (σ2)
def F_Wa_takeTerm (σ : St) (x1 : Int32) (x2 : Int32) : Option St :=
  some (sv (sv (sv σ 2 0) 3 x1) 4 x2)
def F_Wa_start (σ : St) (x1 : Int32) (x2 : Int32) : Option St :=
  gw_bindv (F_Pl_clear (σ)) fun σ2 =>
    gw_bindv (F_Th_clear (σ2)) fun σ4 =>
      gw_bindv (F_Ro_clear (σ4)) fun σ6 =>
        gw_bindv (F_Va_beNumber (σ6) 0) fun σ8 =>
          if x2 = 0 ∨ x2 = 1 then
            gw_bindv (F_Wa_takeTerm (sv (sv σ8 0 1) 1 x2) x1 (-1)) fun σ11 =>
              some (sv (sv (sv (sv (sv σ11 5 (-1)) 6 0) 7 0) 8 0) 9 (-1))
          else none
def F_Wa_turnTo (σ : St) (x1 : Int32) : Option St :=
  some (sv (sv (sv σ 2 2) 5 x1) 0 1)
def F_Th_forgetReached (σ : St) : Option St :=
  some (sv σ 16 0)
def F_Pl_mark (σ : St) (x1 : Int32) (x2 : Int32) : Option (Int32 × St) :=
  if x1 < 0 then
    some (0, σ)
  else
    if 1000 ≤ x1 then
      some (0, σ)
    else
      if gw_in x1 1000 then
        if (σ.2.1 7 x1.toNatClampNeg) = x2 then
          some (0, σ)
        else
          if gw_in x1 1000 then
            some (1, (sa σ 7 x1.toNatClampNeg x2))
          else none
      else none
def F_Pl_has (σ : St) (x1 : Int32) : Option (Int32 × St) :=
  if x1 < 0 then
    some (0, σ)
  else
    if (σ.1 13) ≤ x1 then
      some (0, σ)
    else
      if 1000 ≤ x1 then
        some (0, σ)
      else
        some (1, σ)
def F_Pl_heldBy (σ : St) (x1 : Int32) : Option (Int32 × St) :=
  gw_bind (F_Pl_has (σ) x1) fun r2 σ3 =>
    if r2 = 0 then
      some ((-1), σ3)
    else
      if gw_in x1 1000 then
        some (σ3.2.1 5 x1.toNatClampNeg, σ3)
      else none
def F_Th_reach (σ : St) (x1 : Int32) (x2 : Int32) : Option St :=
  if x1 < 0 then
    some (σ)
  else
    if 1000 ≤ x1 then
      some (σ)
    else
      if (σ.1 16) < 0 then
        some (σ)
      else
        if 300 ≤ (σ.1 16) then
          some (σ)
        else
          if gw_in x1 1000 then
            if (σ.2.1 16 x1.toNatClampNeg) = x2 then
              some (σ)
            else
              if gw_in x1 1000 then
                if gw_in (σ.1 16) 300 then
                  some (sv (sa (sa σ 16 x1.toNatClampNeg x2) 18 ((σ.1 16).toNatClampNeg) x1) 16 ((σ.1 16) + 1))
                else none
              else none
          else none
def F_Pl_outerOf (σ : St) (x1 : Int32) : Option (Int32 × St) :=
  gw_bind (F_Pl_has (σ) x1) fun r2 σ3 =>
    if r2 = 0 then
      some ((-1), σ3)
    else
      if gw_in x1 1000 then
        some (σ3.2.1 6 x1.toNatClampNeg, σ3)
      else none
def K_Wa_reachPlaces_4 : Nat → St → Int32 → Int32 → Option St
  | 0, _, _, _ => none
  | n + 1, σ, x2, x3 =>
    if 1000 ≤ x3 then
      some (σ)
    else
      gw_bind (F_Pl_mark (σ) x2 (σ.1 11)) fun r3 σ4 =>
        if r3 = 0 then
          some (σ4)
        else
          gw_bind (F_Pl_heldBy (σ4) x2) fun r7 σ8 =>
            gw_bindv (F_Th_reach (σ8) r7 (σ8.1 11)) fun σ10 =>
              gw_bind (F_Pl_outerOf (σ10) x2) fun r12 σ13 =>
                K_Wa_reachPlaces_4 n (σ13) r12 (x3 + 1)
def F_Wa_reachPlaces (σ : St) (x1 : Int32) : Option St :=
  K_Wa_reachPlaces_4 gw_N (σ) x1 0
def F_Wa_reachOfValue (σ : St) (x1 : Int32) (x2 : Int32) (x3 : Int32) : Option St :=
  if x1 = 1 then
    gw_bindv (F_Wa_reachPlaces (σ) x3) fun σ8 =>
      some (σ8)
  else
    if x1 = 2 then
      gw_bindv (F_Th_reach (σ) x2 (σ.1 11)) fun σ4 =>
        gw_bindv (F_Th_reach (σ4) x3 (σ4.1 11)) fun σ6 =>
          some (σ6)
    else
      some (σ)
def F_Wa_reachFromHand (σ : St) : Option St :=
  if (σ.1 2) = 0 then
    gw_bindv (F_Wa_reachPlaces (σ) (σ.1 4)) fun σ8 =>
      some (σ8)
  else
    if (σ.1 2) = 1 then
      gw_bindv (F_Wa_reachOfValue (σ) (σ.1 19) (σ.1 20) (σ.1 21)) fun σ6 =>
        some (σ6)
    else
      gw_bindv (F_Th_reach (σ) (σ.1 5) (σ.1 11)) fun σ4 =>
        some (σ4)
def F_Ro_has (σ : St) (x1 : Int32) : Option (Int32 × St) :=
  if x1 < 0 then
    some (0, σ)
  else
    if (σ.1 17) ≤ x1 then
      some (0, σ)
    else
      if 300 ≤ x1 then
        some (0, σ)
      else
        some (1, σ)
def F_Ro_kindOf (σ : St) (x1 : Int32) : Option (Int32 × St) :=
  gw_bind (F_Ro_has (σ) x1) fun r2 σ3 =>
    if r2 = 0 then
      some ((-1), σ3)
    else
      if gw_in x1 300 then
        some (σ3.2.1 19 x1.toNatClampNeg, σ3)
      else none
def F_Ro_firstOf (σ : St) (x1 : Int32) : Option (Int32 × St) :=
  gw_bind (F_Ro_has (σ) x1) fun r2 σ3 =>
    if r2 = 0 then
      some ((-1), σ3)
    else
      if gw_in x1 300 then
        some (σ3.2.1 20 x1.toNatClampNeg, σ3)
      else none
def F_Ro_secondOf (σ : St) (x1 : Int32) : Option (Int32 × St) :=
  gw_bind (F_Ro_has (σ) x1) fun r2 σ3 =>
    if r2 = 0 then
      some ((-1), σ3)
    else
      if gw_in x1 300 then
        some (σ3.2.1 21 x1.toNatClampNeg, σ3)
      else none
def K_Wa_reachFromRow_2 : Nat → St → Int32 → Option St
  | 0, _, _ => none
  | n + 1, σ, x1 =>
    if (σ.1 17) ≤ x1 then
      some (σ)
    else
      gw_bind (F_Ro_kindOf (σ) x1) fun r3 σ4 =>
        if r3 = 0 then
          gw_bind (F_Ro_firstOf (σ4) x1) fun r7 σ8 =>
            gw_bindv (F_Th_reach (σ8) r7 (σ8.1 11)) fun σ10 =>
              K_Wa_reachFromRow_2 n (σ10) (x1 + 1)
        else
          if r3 = 1 then
            gw_bind (F_Ro_firstOf (σ4) x1) fun r13 σ14 =>
              gw_bindv (F_Th_reach (σ14) r13 (σ14.1 11)) fun σ16 =>
                K_Wa_reachFromRow_2 n (σ16) (x1 + 1)
          else
            if r3 = 2 then
              gw_bind (F_Ro_secondOf (σ4) x1) fun r19 σ20 =>
                gw_bindv (F_Wa_reachPlaces (σ20) r19) fun σ22 =>
                  K_Wa_reachFromRow_2 n (σ22) (x1 + 1)
            else
              if r3 = 3 then
                K_Wa_reachFromRow_2 n (σ4) (x1 + 1)
              else
                if r3 = 4 then
                  gw_bind (F_Ro_secondOf (σ4) x1) fun r26 σ27 =>
                    gw_bindv (F_Wa_reachPlaces (σ27) r26) fun σ29 =>
                      K_Wa_reachFromRow_2 n (σ29) (x1 + 1)
                else
                  K_Wa_reachFromRow_2 n (σ4) (x1 + 1)
def F_Wa_reachFromRow (σ : St) : Option St :=
  K_Wa_reachFromRow_2 gw_N (σ) 0
def F_Th_reachedAt (σ : St) (x1 : Int32) : Option (Int32 × St) :=
  if x1 < 0 then
    some ((-1), σ)
  else
    if (σ.1 16) ≤ x1 then
      some ((-1), σ)
    else
      if 300 ≤ x1 then
        some ((-1), σ)
      else
        if gw_in x1 300 then
          some (σ.2.1 18 x1.toNatClampNeg, σ)
        else none
def F_Th_has (σ : St) (x1 : Int32) : Option (Int32 × St) :=
  if x1 < 0 then
    some (0, σ)
  else
    if (σ.1 14) ≤ x1 then
      some (0, σ)
    else
      if 1000 ≤ x1 then
        some (0, σ)
      else
        some (1, σ)
def F_Th_stateOf (σ : St) (x1 : Int32) : Option (Int32 × St) :=
  gw_bind (F_Th_has (σ) x1) fun r2 σ3 =>
    if r2 = 0 then
      some (3, σ3)
    else
      if gw_in x1 1000 then
        some (σ3.2.1 8 x1.toNatClampNeg, σ3)
      else none
def F_Th_placesOf (σ : St) (x1 : Int32) : Option (Int32 × St) :=
  gw_bind (F_Th_has (σ) x1) fun r2 σ3 =>
    if r2 = 0 then
      some ((-1), σ3)
    else
      if gw_in x1 1000 then
        some (σ3.2.1 10 x1.toNatClampNeg, σ3)
      else none
def F_Th_valueSortOf (σ : St) (x1 : Int32) : Option (Int32 × St) :=
  gw_bind (F_Th_has (σ) x1) fun r2 σ3 =>
    if r2 = 0 then
      some ((-1), σ3)
    else
      if gw_in x1 1000 then
        some (σ3.2.1 13 x1.toNatClampNeg, σ3)
      else none
def F_Th_valueFirstOf (σ : St) (x1 : Int32) : Option (Int32 × St) :=
  gw_bind (F_Th_has (σ) x1) fun r2 σ3 =>
    if r2 = 0 then
      some ((-1), σ3)
    else
      if gw_in x1 1000 then
        some (σ3.2.1 14 x1.toNatClampNeg, σ3)
      else none
def F_Th_valueSecondOf (σ : St) (x1 : Int32) : Option (Int32 × St) :=
  gw_bind (F_Th_has (σ) x1) fun r2 σ3 =>
    if r2 = 0 then
      some ((-1), σ3)
    else
      if gw_in x1 1000 then
        some (σ3.2.1 15 x1.toNatClampNeg, σ3)
      else none
def F_Wa_reachFromThing (σ : St) (x1 : Int32) : Option St :=
  gw_bind (F_Th_stateOf (σ) x1) fun r2 σ3 =>
    if r2 = 0 then
      gw_bind (F_Th_placesOf (σ3) x1) fun r18 σ19 =>
        gw_bindv (F_Wa_reachPlaces (σ19) r18) fun σ21 =>
          some (σ21)
    else
      if r2 = 2 then
        gw_bind (F_Th_valueSortOf (σ3) x1) fun r7 σ8 =>
          gw_bind (F_Th_valueFirstOf (σ8) x1) fun r10 σ11 =>
            gw_bind (F_Th_valueSecondOf (σ11) x1) fun r13 σ14 =>
              gw_bindv (F_Wa_reachOfValue (σ14) r7 r10 r13) fun σ16 =>
                some (σ16)
      else
        some (σ3)
def K_Th_keepReached_10 : Nat → St → Int32 → Int32 → Int32 → Int32 → Option (Int32 × St)
  | 0, _, _, _, _, _ => none
  | n + 1, σ, x1, x2, x3, x4 =>
    if x3 ≤ x4 then
      some (x3 - x2, (sv σ 15 x2))
    else
      if 300 ≤ x4 then
        some (x3 - x2, (sv σ 15 x2))
      else
        if gw_in x4 300 then
          gw_bind (F_Th_has (σ) (σ.2.1 17 x4.toNatClampNeg)) fun r5 σ6 =>
            if r5 = 0 then
              K_Th_keepReached_10 n (σ6) x1 x2 x3 (x4 + 1)
            else
              if gw_in (σ.2.1 17 x4.toNatClampNeg) 1000 then
                if (σ6.2.1 16 ((σ.2.1 17 x4.toNatClampNeg).toNatClampNeg)) = x1 then
                  if gw_in x2 300 then
                    K_Th_keepReached_10 n (sa σ6 17 x2.toNatClampNeg (σ.2.1 17 x4.toNatClampNeg)) x1 (x2 + 1) x3 (x4 + 1)
                  else none
                else
                  if gw_in (σ.2.1 17 x4.toNatClampNeg) 1000 then
                    K_Th_keepReached_10 n (sa σ6 8 ((σ.2.1 17 x4.toNatClampNeg).toNatClampNeg) 3) x1 x2 x3 (x4 + 1)
                  else none
              else none
        else none
def F_Th_keepReached (σ : St) (x1 : Int32) : Option (Int32 × St) :=
  K_Th_keepReached_10 gw_N (σ) x1 0 (σ.1 15) 0
def K_Wa_sweepUnreached_27 : Nat → St → Int32 → Option (Int32 × St)
  | 0, _, _ => none
  | n + 1, σ, x1 =>
    if 300 ≤ x1 then
      gw_bind (F_Th_keepReached (σ) (σ.1 11)) fun r9 σ10 =>
        some (r9, σ10)
    else
      if (σ.1 16) ≤ x1 then
        gw_bind (F_Th_keepReached (σ) (σ.1 11)) fun r13 σ14 =>
          some (r13, σ14)
      else
        gw_bind (F_Th_reachedAt (σ) x1) fun r16 σ17 =>
          gw_bindv (F_Wa_reachFromThing (σ17) r16) fun σ19 =>
            K_Wa_sweepUnreached_27 n (σ19) (x1 + 1)
def F_Wa_sweepUnreached (σ : St) : Option (Int32 × St) :=
  gw_bindv (F_Th_forgetReached (sv σ 11 ((σ.1 11) + 1))) fun σ2 =>
    gw_bindv (F_Wa_reachFromHand (σ2)) fun σ4 =>
      gw_bindv (F_Wa_reachFromRow (σ4)) fun σ6 =>
        K_Wa_sweepUnreached_27 gw_N (σ6) 0
def F_Te_has (σ : St) (x1 : Int32) : Option (Int32 × St) :=
  if x1 < 0 then
    some (0, σ)
  else
    if (σ.1 12) ≤ x1 then
      some (0, σ)
    else
      if 200 ≤ x1 then
        some (0, σ)
      else
        some (1, σ)
def F_Te_sortOf (σ : St) (x1 : Int32) : Option (Int32 × St) :=
  gw_bind (F_Te_has (σ) x1) fun r2 σ3 =>
    if r2 = 0 then
      some ((-1), σ3)
    else
      if gw_in x1 200 then
        some (σ3.2.1 0 x1.toNatClampNeg, σ3)
      else none
def F_Te_numberOf (σ : St) (x1 : Int32) : Option (Int64 × St) :=
  gw_bind (F_Te_has (σ) x1) fun r2 σ3 =>
    if r2 = 0 then
      some (0, σ3)
    else
      if gw_in x1 200 then
        some (σ3.2.2.2 0 x1.toNatClampNeg, σ3)
      else none
def F_Va_beLambda (σ : St) (x1 : Int32) (x2 : Int32) : Option St :=
  gw_bindv (F_Va_be (σ) 1 0 x1 x2) fun σ2 =>
    some (σ2)
def F_Te_firstOf (σ : St) (x1 : Int32) : Option (Int32 × St) :=
  gw_bind (F_Te_has (σ) x1) fun r2 σ3 =>
    if r2 = 0 then
      some ((-1), σ3)
    else
      if gw_in x1 200 then
        some (σ3.2.1 1 x1.toNatClampNeg, σ3)
      else none
def K_Pl_thingAt_5 : Nat → St → Int32 → Int32 → Int32 → Option (Int32 × St)
  | 0, _, _, _, _ => none
  | n + 1, σ, x2, x3, x4 =>
    if x2 ≤ x4 then
      gw_bind (F_Pl_has (σ) x3) fun r3 σ4 =>
        if r3 = 0 then
          some ((-1), σ4)
        else
          if gw_in x3 1000 then
            some (σ4.2.1 5 x3.toNatClampNeg, σ4)
          else none
    else
      gw_bind (F_Pl_has (σ) x3) fun r8 σ9 =>
        if r8 = 0 then
          gw_bind (F_Pl_has (σ9) x3) fun r12 σ13 =>
            if r12 = 0 then
              some ((-1), σ13)
            else
              if gw_in x3 1000 then
                some (σ13.2.1 5 x3.toNatClampNeg, σ13)
              else none
        else
          if gw_in x3 1000 then
            K_Pl_thingAt_5 n (σ9) x2 (σ9.2.1 6 x3.toNatClampNeg) (x4 + 1)
          else none
def F_Pl_thingAt (σ : St) (x1 : Int32) (x2 : Int32) : Option (Int32 × St) :=
  K_Pl_thingAt_5 gw_N (σ) x2 x1 0
def F_Ro_drop (σ : St) : Option St :=
  if (σ.1 17) ≤ 0 then
    some (σ)
  else
    some (sv σ 17 ((σ.1 17) - 1))
def F_Th_copyValue (σ : St) (x1 : Int32) : Option St :=
  gw_bind (F_Th_has (σ) x1) fun r2 σ3 =>
    if r2 = 0 then
      some (σ3)
    else
      if gw_in x1 1000 then
        if gw_in x1 1000 then
          if gw_in x1 1000 then
            if gw_in x1 1000 then
              gw_bindv (F_Va_be (σ3) (σ3.2.1 13 x1.toNatClampNeg) (σ3.2.2.2 1 x1.toNatClampNeg) (σ3.2.1 14 x1.toNatClampNeg) (σ3.2.1 15 x1.toNatClampNeg)) fun σ10 =>
                some (σ10)
            else none
          else none
        else none
      else none
def F_Ro_isFull (σ : St) : Option (Int32 × St) :=
  if (σ.1 17) < 300 then
    some (0, σ)
  else
    some (1, σ)
def F_Th_countWork (σ : St) (x1 : Int32) : Option St :=
  gw_bind (F_Th_has (σ) x1) fun r2 σ3 =>
    if r2 = 0 then
      some (σ3)
    else
      if gw_in x1 1000 then
        if gw_in x1 1000 then
          some (sa σ3 11 x1.toNatClampNeg ((σ3.2.1 11 x1.toNatClampNeg) + 1))
        else none
      else none
def K_Ro_newestInWork_7 : Nat → St → Int32 → Option (Int32 × St)
  | 0, _, _ => none
  | n + 1, σ, x1 =>
    if x1 < 0 then
      some ((-1), σ)
    else
      if 300 ≤ x1 then
        K_Ro_newestInWork_7 n (σ) (x1 + (-1))
      else
        if gw_in x1 300 then
          if (σ.2.1 19 x1.toNatClampNeg) = 0 then
            if gw_in x1 300 then
              some (σ.2.1 20 x1.toNatClampNeg, σ)
            else none
          else
            K_Ro_newestInWork_7 n (σ) (x1 + (-1))
        else none
def F_Ro_newestInWork (σ : St) : Option (Int32 × St) :=
  K_Ro_newestInWork_7 gw_N (σ) ((σ.1 17) - 1)
def F_Th_putInWork (σ : St) (x1 : Int32) (x2 : Int32) : Option St :=
  gw_bind (F_Th_has (σ) x1) fun r2 σ3 =>
    if r2 = 0 then
      some (σ3)
    else
      if gw_in x1 1000 then
        if gw_in x1 1000 then
          some (sa (sa σ3 8 x1.toNatClampNeg 1) 12 x1.toNatClampNeg x2)
        else none
      else none
def F_Ro_add (σ : St) (x1 : Int32) (x2 : Int32) (x3 : Int32) (x4 : Int64) : Option St :=
  if (σ.1 17) < 0 then
    some (σ)
  else
    if (σ.1 17) < 300 then
      if gw_in (σ.1 17) 300 then
        if gw_in (σ.1 17) 300 then
          if gw_in (σ.1 17) 300 then
            if gw_in (σ.1 17) 300 then
              if ((σ.1 17) + 1) ≤ (σ.1 18) then
                some (sv (sg (sa (sa (sa σ 19 ((σ.1 17).toNatClampNeg) x1) 20 ((σ.1 17).toNatClampNeg) x2) 21 ((σ.1 17).toNatClampNeg) x3) 2 ((σ.1 17).toNatClampNeg) x4) 17 ((σ.1 17) + 1))
              else
                some (sv (sv (sg (sa (sa (sa σ 19 ((σ.1 17).toNatClampNeg) x1) 20 ((σ.1 17).toNatClampNeg) x2) 21 ((σ.1 17).toNatClampNeg) x3) 2 ((σ.1 17).toNatClampNeg) x4) 17 ((σ.1 17) + 1)) 18 ((σ.1 17) + 1))
            else none
          else none
        else none
      else none
    else
      some (σ)
def F_Th_termOf (σ : St) (x1 : Int32) : Option (Int32 × St) :=
  gw_bind (F_Th_has (σ) x1) fun r2 σ3 =>
    if r2 = 0 then
      some ((-1), σ3)
    else
      if gw_in x1 1000 then
        some (σ3.2.1 9 x1.toNatClampNeg, σ3)
      else none
def K_Wa_needWaiting_38 (σ : St) (x1 : Int32) : Option St :=
  gw_bindv (F_Th_countWork (sv σ 8 ((σ.1 8) + 1)) x1) fun σ4 =>
    if (σ4.1 1) = 0 then
      gw_bind (F_Th_termOf (σ4) x1) fun r7 σ8 =>
        gw_bind (F_Th_placesOf (σ8) x1) fun r10 σ11 =>
          gw_bindv (F_Wa_takeTerm (σ11) r7 r10) fun σ13 =>
            some (σ13)
    else
      gw_bind (F_Ro_newestInWork (σ4)) fun r15 σ16 =>
        gw_bindv (F_Th_putInWork (σ16) x1 r15) fun σ18 =>
          gw_bindv (F_Ro_add (σ18) 0 x1 (-1) 0) fun σ20 =>
            gw_bind (F_Th_termOf (σ20) x1) fun r22 σ23 =>
              gw_bind (F_Th_placesOf (σ23) x1) fun r25 σ26 =>
                gw_bindv (F_Wa_takeTerm (σ26) r22 r25) fun σ28 =>
                  some (σ28)
def K_Wa_needWaiting_27 (σ : St) (x1 : Int32) (x2 : Int32) : Option St :=
  if x2 = 0 then
    K_Wa_needWaiting_38 (σ) x1
  else
    gw_bindv (F_Ro_drop (σ)) fun σ30 =>
      K_Wa_needWaiting_38 (σ30) x1
def F_Wa_needWaiting (σ : St) (x1 : Int32) (x2 : Int32) : Option St :=
  if (σ.1 1) = 0 then
    K_Wa_needWaiting_27 (σ) x1 x2
  else
    if x2 = 0 then
      gw_bind (F_Ro_isFull (σ)) fun r33 σ34 =>
        if r33 = 0 then
          K_Wa_needWaiting_27 (σ34) x1 x2
        else
          some (sv σ34 0 5)
    else
      K_Wa_needWaiting_27 (σ) x1 x2
def K_Wa_need_47 (σ : St) (x1 : Int32) : Option St :=
  gw_bindv (F_Th_copyValue (sv σ 7 ((σ.1 7) + 1)) x1) fun σ11 =>
    some (sv σ11 2 1)
def F_Wa_need (σ : St) (x1 : Int32) (x2 : Int32) : Option St :=
  gw_bind (F_Th_stateOf (σ) x1) fun r2 σ3 =>
    if r2 = 0 then
      gw_bindv (F_Wa_needWaiting (σ3) x1 x2) fun σ6 =>
        some (σ6)
    else
      if r2 = 1 then
        some (sv (sv σ3 9 x1) 0 3)
      else
        if r2 = 2 then
          if x2 = 0 then
            K_Wa_need_47 (σ3) x1
          else
            gw_bindv (F_Ro_drop (σ3)) fun σ13 =>
              K_Wa_need_47 (σ13) x1
        else
          some (sv σ3 0 4)
def F_Te_secondOf (σ : St) (x1 : Int32) : Option (Int32 × St) :=
  gw_bind (F_Te_has (σ) x1) fun r2 σ3 =>
    if r2 = 0 then
      some ((-1), σ3)
    else
      if gw_in x1 200 then
        some (σ3.2.1 2 x1.toNatClampNeg, σ3)
      else none
def F_Wa_newThingsFor (σ : St) (x1 : Int32) : Option (Int32 × St) :=
  gw_bind (F_Te_sortOf (σ) x1) fun r2 σ3 =>
    if r2 = 1 then
      some (0, σ3)
    else
      some (1, σ3)
def F_Th_hasRoomFor (σ : St) (x1 : Int32) : Option (Int32 × St) :=
  if 1000 < ((σ.1 14) + x1) then
    some (0, σ)
  else
    if 300 < ((σ.1 15) + x1) then
      some (0, σ)
    else
      some (1, σ)
def F_Th_add (σ : St) (x1 : Int32) (x2 : Int32) : Option (Int32 × St) :=
  if (σ.1 14) < 0 then
    some ((-1), σ)
  else
    if 1000 ≤ (σ.1 14) then
      some ((-1), σ)
    else
      if (σ.1 15) < 0 then
        some ((-1), σ)
      else
        if (σ.1 15) < 300 then
          if gw_in (σ.1 14) 1000 then
            if gw_in (σ.1 14) 1000 then
              if gw_in (σ.1 14) 1000 then
                if gw_in (σ.1 14) 1000 then
                  if gw_in (σ.1 14) 1000 then
                    if gw_in (σ.1 15) 300 then
                      some (σ.1 14, (sv (sv (sa (sa (sa (sa (sa (sa σ 8 ((σ.1 14).toNatClampNeg) 0) 9 ((σ.1 14).toNatClampNeg) x1) 10 ((σ.1 14).toNatClampNeg) x2) 11 ((σ.1 14).toNatClampNeg) 0) 12 ((σ.1 14).toNatClampNeg) (-1)) 17 ((σ.1 15).toNatClampNeg) (σ.1 14)) 14 ((σ.1 14) + 1)) 15 ((σ.1 15) + 1)))
                    else none
                  else none
                else none
              else none
            else none
          else none
        else
          some ((-1), σ)
def F_Wa_thingFor (σ : St) (x1 : Int32) : Option (Int32 × St) :=
  gw_bind (F_Te_sortOf (σ) x1) fun r2 σ3 =>
    if r2 = 1 then
      gw_bind (F_Te_firstOf (σ3) x1) fun r9 σ10 =>
        gw_bind (F_Pl_thingAt (σ10) (σ3.1 4) r9) fun r12 σ13 =>
          some (r12, σ13)
    else
      gw_bind (F_Th_add (σ3) x1 (σ3.1 4)) fun r6 σ7 =>
        some (r6, σ7)
def F_Va_bePair (σ : St) (x1 : Int32) (x2 : Int32) : Option St :=
  gw_bindv (F_Va_be (σ) 2 0 x1 x2) fun σ2 =>
    some (σ2)
def F_Wa_makePair (σ : St) (x1 : Int32) (x2 : Int32) : Option St :=
  gw_bind (F_Wa_newThingsFor (σ) x1) fun r2 σ3 =>
    gw_bind (F_Wa_newThingsFor (σ3) x2) fun r5 σ6 =>
      gw_bind (F_Th_hasRoomFor (σ6) (r2 + r5)) fun r8 σ9 =>
        if r8 = 0 then
          some (sv σ9 0 5)
        else
          gw_bind (F_Wa_thingFor (σ9) x1) fun r12 σ13 =>
            gw_bind (F_Wa_thingFor (σ13) x2) fun r15 σ16 =>
              gw_bindv (F_Va_bePair (σ16) r12 r15) fun σ18 =>
                some (sv σ18 2 1)
def F_Wa_enterApply (σ : St) (x1 : Int32) : Option St :=
  gw_bind (F_Wa_newThingsFor (σ) x1) fun r2 σ3 =>
    gw_bind (F_Th_hasRoomFor (σ3) r2) fun r5 σ6 =>
      if r5 = 0 then
        some (sv σ6 0 5)
      else
        gw_bind (F_Ro_isFull (σ6)) fun r9 σ10 =>
          if r9 = 0 then
            gw_bind (F_Wa_thingFor (σ10) x1) fun r13 σ14 =>
              gw_bindv (F_Ro_add (σ14) 1 r13 (-1) 0) fun σ16 =>
                gw_bind (F_Te_firstOf (σ16) (σ16.1 3)) fun r18 σ19 =>
                  some (sv σ19 3 r18)
          else
            some (sv σ10 0 5)
def F_Pl_isFull (σ : St) : Option (Int32 × St) :=
  if (σ.1 13) < 1000 then
    some (0, σ)
  else
    some (1, σ)
def F_Pl_add (σ : St) (x1 : Int32) (x2 : Int32) : Option (Int32 × St) :=
  if (σ.1 13) < 0 then
    some ((-1), σ)
  else
    if (σ.1 13) < 1000 then
      if gw_in (σ.1 13) 1000 then
        if gw_in (σ.1 13) 1000 then
          some (σ.1 13, (sv (sa (sa σ 5 ((σ.1 13).toNatClampNeg) x1) 6 ((σ.1 13).toNatClampNeg) x2) 13 ((σ.1 13) + 1)))
        else none
      else none
    else
      some ((-1), σ)
def F_Wa_enterLet (σ : St) (x1 : Int32) (x2 : Int32) : Option St :=
  gw_bind (F_Th_hasRoomFor (σ) 1) fun r2 σ3 =>
    if r2 = 0 then
      some (sv σ3 0 5)
    else
      gw_bind (F_Pl_isFull (σ3)) fun r6 σ7 =>
        if r6 = 0 then
          gw_bind (F_Pl_add (σ7) (σ7.1 14) (σ7.1 4)) fun r10 σ11 =>
            gw_bind (F_Th_add (σ11) x1 r10) fun r13 σ14 =>
              gw_bindv (F_Wa_takeTerm (σ14) x2 r10) fun σ16 =>
                some (σ16)
        else
          some (sv σ7 0 5)
def F_Wa_enter (σ : St) (x1 : Int32) : Option St :=
  gw_bind (F_Ro_isFull (σ)) fun r2 σ3 =>
    if r2 = 0 then
      gw_bindv (F_Ro_add (σ3) x1 (σ3.1 3) (σ3.1 4) 0) fun σ6 =>
        gw_bind (F_Te_firstOf (σ6) (σ6.1 3)) fun r8 σ9 =>
          some (sv σ9 3 r8)
    else
      some (sv σ3 0 5)
def F_Wa_stepWithTerm (σ : St) : Option St :=
  gw_bind (F_Te_sortOf (σ) (σ.1 3)) fun r2 σ3 =>
    if r2 = 0 then
      gw_bind (F_Te_numberOf (σ3) (σ3.1 3)) fun r6 σ7 =>
        gw_bindv (F_Va_beNumber (σ7) r6) fun σ9 =>
          some (sv σ9 2 1)
    else
      if r2 = 1 then
        gw_bind (F_Te_firstOf (σ3) (σ3.1 3)) fun r12 σ13 =>
          gw_bind (F_Pl_thingAt (σ13) (σ3.1 4) r12) fun r15 σ16 =>
            gw_bindv (F_Wa_need (σ16) r15 0) fun σ18 =>
              some (σ18)
      else
        if r2 = 2 then
          gw_bindv (F_Va_beLambda (σ3) (σ3.1 3) (σ3.1 4)) fun σ21 =>
            some (sv σ21 2 1)
        else
          if r2 = 3 then
            gw_bindv (F_Wa_enter (σ3) 5) fun σ24 =>
              some (σ24)
          else
            if r2 = 4 then
              gw_bindv (F_Wa_enter (σ3) 6) fun σ27 =>
                some (σ27)
            else
              if r2 = 5 then
                gw_bind (F_Te_secondOf (σ3) (σ3.1 3)) fun r30 σ31 =>
                  gw_bindv (F_Wa_enterApply (σ31) r30) fun σ33 =>
                    some (σ33)
              else
                if r2 = 6 then
                  gw_bind (F_Te_firstOf (σ3) (σ3.1 3)) fun r36 σ37 =>
                    gw_bind (F_Te_secondOf (σ37) (σ37.1 3)) fun r39 σ40 =>
                      gw_bindv (F_Wa_enterLet (σ40) r36 r39) fun σ42 =>
                        some (σ42)
                else
                  if r2 = 7 then
                    gw_bind (F_Te_firstOf (σ3) (σ3.1 3)) fun r45 σ46 =>
                      gw_bind (F_Te_secondOf (σ46) (σ46.1 3)) fun r48 σ49 =>
                        gw_bindv (F_Wa_makePair (σ49) r45 r48) fun σ51 =>
                          some (σ51)
                  else
                    if r2 = 8 then
                      gw_bindv (F_Wa_enter (σ3) 2) fun σ54 =>
                        some (σ54)
                    else
                      if r2 = 9 then
                        gw_bindv (F_Wa_enter (σ3) 4) fun σ57 =>
                          some (σ57)
                      else
                        some (sv σ3 0 4)
def F_Ro_newest (σ : St) : Option (Int32 × St) :=
  some ((σ.1 17) - 1, σ)
def F_Th_finish (σ : St) (x1 : Int32) : Option St :=
  gw_bind (F_Th_has (σ) x1) fun r2 σ3 =>
    if r2 = 0 then
      some (σ3)
    else
      if gw_in x1 1000 then
        if gw_in x1 1000 then
          if gw_in x1 1000 then
            if gw_in x1 1000 then
              if gw_in x1 1000 then
                some (sa (sa (sg (sa (sa σ3 8 x1.toNatClampNeg 2) 13 x1.toNatClampNeg (σ3.1 19)) 1 x1.toNatClampNeg (σ3.2.2.1 0)) 14 x1.toNatClampNeg (σ3.1 20)) 15 x1.toNatClampNeg (σ3.1 21))
              else none
            else none
          else none
        else none
      else none
def F_Wa_giveThing (σ : St) (x1 : Int32) : Option St :=
  if (σ.1 19) = 1 then
    gw_bind (F_Pl_isFull (σ)) fun r3 σ4 =>
      if r3 = 0 then
        gw_bindv (F_Ro_drop (σ4)) fun σ7 =>
          gw_bind (F_Te_firstOf (σ7) (σ7.1 20)) fun r9 σ10 =>
            gw_bind (F_Pl_add (σ10) x1 (σ10.1 21)) fun r12 σ13 =>
              gw_bindv (F_Wa_takeTerm (σ13) r9 r12) fun σ15 =>
                some (σ15)
      else
        some (sv σ4 0 5)
  else
    some (sv σ 0 4)
def F_Wa_thenSecond (σ : St) (x1 : Int32) (x2 : Int32) : Option St :=
  if (σ.1 19) = 0 then
    gw_bindv (F_Ro_drop (σ)) fun σ3 =>
      gw_bindv (F_Ro_add (σ3) 3 x1 (-1) (σ3.2.2.1 0)) fun σ5 =>
        gw_bind (F_Te_secondOf (σ5) x1) fun r7 σ8 =>
          gw_bindv (F_Wa_takeTerm (σ8) r7 x2) fun σ10 =>
            some (σ10)
  else
    some (sv σ 0 4)
def F_Te_thirdOf (σ : St) (x1 : Int32) : Option (Int32 × St) :=
  gw_bind (F_Te_has (σ) x1) fun r2 σ3 =>
    if r2 = 0 then
      some ((-1), σ3)
    else
      if gw_in x1 200 then
        some (σ3.2.1 3 x1.toNatClampNeg, σ3)
      else none
def F_Ro_numberOf (σ : St) (x1 : Int32) : Option (Int64 × St) :=
  gw_bind (F_Ro_has (σ) x1) fun r2 σ3 =>
    if r2 = 0 then
      some (0, σ3)
    else
      if gw_in x1 300 then
        some (σ3.2.2.2 2 x1.toNatClampNeg, σ3)
      else none
def F_Wa_resultOf (σ : St) (x0 : Int32) (x1 : Int64) (x3 : Int64) : Option (Int64 × St) :=
  if x0 = 0 then
    some (x1 + x3, σ)
  else
    if x0 = 1 then
      some (x1 - x3, σ)
    else
      if x0 = 2 then
        some (x1 * x3, σ)
      else
        if x0 = 3 then
          if (lg_cmp x3 0) = 0 then
            some (0, σ)
          else
            if ¬ x3 = 0 then
              some (x1 / x3, σ)
            else none
        else
          if x0 = 4 then
            if (lg_cmp x1 x3) = 0 then
              some (1, σ)
            else
              some (0, σ)
          else
            if 0 ≤ (lg_cmp x1 x3) then
              some (0, σ)
            else
              some (1, σ)
def K_Wa_actWith_33 (σ : St) (x1 : Int32) (x2 : Int64) : Option St :=
  gw_bindv (F_Ro_drop (σ)) fun σ4 =>
    gw_bind (F_Wa_resultOf (σ4) x1 x2 (σ4.2.2.1 0)) fun r6 σ7 =>
      gw_bindv (F_Va_beNumber (σ7) r6) fun σ9 =>
        some (σ9)
def F_Wa_actWith (σ : St) (x1 : Int32) (x2 : Int64) : Option St :=
  if (σ.1 19) = 0 then
    if x1 = 3 then
      if (lg_cmp (σ.2.2.1 0) 0) = 0 then
        some (sv σ 0 4)
      else
        K_Wa_actWith_33 (σ) x1 x2
    else
      K_Wa_actWith_33 (σ) x1 x2
  else
    some (sv σ 0 4)
def F_Wa_chooseBranch (σ : St) (x1 : Int32) (x2 : Int32) : Option St :=
  if (σ.1 19) = 0 then
    gw_bindv (F_Ro_drop (σ)) fun σ3 =>
      if (lg_cmp (σ3.2.2.1 0) 0) = 0 then
        gw_bind (F_Te_thirdOf (σ3) x1) fun r11 σ12 =>
          gw_bindv (F_Wa_takeTerm (σ12) r11 x2) fun σ14 =>
            some (σ14)
      else
        gw_bind (F_Te_secondOf (σ3) x1) fun r6 σ7 =>
          gw_bindv (F_Wa_takeTerm (σ7) r6 x2) fun σ9 =>
            some (σ9)
  else
    some (sv σ 0 4)
def F_Wa_takeOfPair (σ : St) (x1 : Int32) : Option St :=
  if (σ.1 19) = 2 then
    gw_bindv (F_Wa_need (σ) x1 1) fun σ3 =>
      some (σ3)
  else
    some (sv σ 0 4)
def F_Wa_stepWithValue (σ : St) : Option St :=
  gw_bind (F_Ro_newest (σ)) fun r2 σ3 =>
    gw_bind (F_Ro_kindOf (σ3) r2) fun r5 σ6 =>
      if r5 = 0 then
        gw_bind (F_Ro_firstOf (σ6) r2) fun r9 σ10 =>
          gw_bindv (F_Th_finish (σ10) r9) fun σ12 =>
            gw_bindv (F_Ro_drop (σ12)) fun σ14 =>
              some (σ14)
      else
        if r5 = 1 then
          gw_bind (F_Ro_firstOf (σ6) r2) fun r17 σ18 =>
            gw_bindv (F_Wa_giveThing (σ18) r17) fun σ20 =>
              some (σ20)
        else
          if r5 = 2 then
            gw_bind (F_Ro_firstOf (σ6) r2) fun r23 σ24 =>
              gw_bind (F_Ro_secondOf (σ24) r2) fun r26 σ27 =>
                gw_bindv (F_Wa_thenSecond (σ27) r23 r26) fun σ29 =>
                  some (σ29)
          else
            if r5 = 3 then
              gw_bind (F_Ro_firstOf (σ6) r2) fun r32 σ33 =>
                gw_bind (F_Te_thirdOf (σ33) r32) fun r35 σ36 =>
                  gw_bind (F_Ro_numberOf (σ36) r2) fun r38 σ39 =>
                    gw_bindv (F_Wa_actWith (σ39) r35 r38) fun σ41 =>
                      some (σ41)
            else
              if r5 = 4 then
                gw_bind (F_Ro_firstOf (σ6) r2) fun r44 σ45 =>
                  gw_bind (F_Ro_secondOf (σ45) r2) fun r47 σ48 =>
                    gw_bindv (F_Wa_chooseBranch (σ48) r44 r47) fun σ50 =>
                      some (σ50)
              else
                if r5 = 5 then
                  gw_bindv (F_Wa_takeOfPair (σ6) (σ6.1 20)) fun σ53 =>
                    some (σ53)
                else
                  if r5 = 6 then
                    gw_bindv (F_Wa_takeOfPair (σ6) (σ6.1 21)) fun σ56 =>
                      some (σ56)
                  else
                    some (sv σ6 0 4)
def K_Wa_step_72 (σ : St) : Option St :=
  if (σ.1 0) = 1 then
    if (σ.1 2) = 1 then
      if (σ.1 17) = 0 then
        some (sv σ 0 2)
      else
        some (σ)
    else
      some (σ)
  else
    some (σ)
def K_Wa_step_24 (σ : St) : Option St :=
  if (σ.1 2) = 0 then
    gw_bindv (F_Wa_stepWithTerm (sv σ 6 ((σ.1 6) + 1))) fun σ12 =>
      K_Wa_step_72 (σ12)
  else
    if (σ.1 2) = 1 then
      gw_bindv (F_Wa_stepWithValue (sv σ 6 ((σ.1 6) + 1))) fun σ10 =>
        K_Wa_step_72 (σ10)
    else
      gw_bindv (F_Wa_need (sv σ 6 ((σ.1 6) + 1)) (σ.1 5) 0) fun σ5 =>
        K_Wa_step_72 (σ5)
def F_Wa_step (σ : St) : Option St :=
  if (σ.1 10) ≤ 0 then
    K_Wa_step_24 (σ)
  else
    if ¬ (σ.1 10) = 0 then
      if ((σ.1 6) - (σ.1 6) / (σ.1 10) * (σ.1 10)) = 0 then
        gw_bind (F_Wa_sweepUnreached (σ)) fun r16 σ17 =>
          K_Wa_step_24 (σ17)
      else
        K_Wa_step_24 (σ)
    else none
def F_Wa_tally (σ : St) (x1 : Int32) : Option (Int32 × St) :=
  if x1 = 0 then
    some (σ.1 6, σ)
  else
    if x1 = 1 then
      some (σ.1 14, σ)
    else
      if x1 = 2 then
        some (σ.1 15, σ)
      else
        if x1 = 3 then
          some (σ.1 17, σ)
        else
          if x1 = 4 then
            some (σ.1 18, σ)
          else
            if x1 = 5 then
              some (σ.1 7, σ)
            else
              if x1 = 6 then
                some (σ.1 8, σ)
              else
                some (σ.1 13, σ)
def K_Wa_ringThing_18 : Nat → St → Int32 → Int32 → Int32 → Option (Int32 × St)
  | 0, _, _, _, _ => none
  | n + 1, σ, x1, x2, x3 =>
    if (σ.1 17) ≤ x3 then
      some ((-1), σ)
    else
      gw_bind (F_Ro_kindOf (σ) x3) fun r5 σ6 =>
        if r5 = 0 then
          gw_bind (F_Ro_firstOf (σ6) x3) fun r9 σ10 =>
            if x2 = (-1) then
              if r9 = (σ10.1 9) then
                if (x2 + 1) = x1 then
                  some (r9, σ10)
                else
                  K_Wa_ringThing_18 n (σ10) x1 (x2 + 1) (x3 + 1)
              else
                if x2 = x1 then
                  some (r9, σ10)
                else
                  K_Wa_ringThing_18 n (σ10) x1 x2 (x3 + 1)
            else
              if (x2 + 1) = x1 then
                some (r9, σ10)
              else
                K_Wa_ringThing_18 n (σ10) x1 (x2 + 1) (x3 + 1)
        else
          K_Wa_ringThing_18 n (σ6) x1 x2 (x3 + 1)
def F_Wa_ringThing (σ : St) (x1 : Int32) : Option (Int32 × St) :=
  if (σ.1 0) = 3 then
    if 0 ≤ x1 then
      K_Wa_ringThing_18 gw_N (σ) x1 (-1) 0
    else
      some ((-1), σ)
  else
    some ((-1), σ)
def F_Te_isFull (σ : St) : Option (Int32 × St) :=
  if (σ.1 12) < 200 then
    some (0, σ)
  else
    some (1, σ)
def F_Te_add (σ : St) (x1 : Int32) (x2 : Int32) (x3 : Int32) (x4 : Int32) (x5 : Int64) (x7 : Int32) : Option (Int32 × St) :=
  if (σ.1 12) < 0 then
    some ((-1), σ)
  else
    if (σ.1 12) < 200 then
      if gw_in (σ.1 12) 200 then
        if gw_in (σ.1 12) 200 then
          if gw_in (σ.1 12) 200 then
            if gw_in (σ.1 12) 200 then
              if gw_in (σ.1 12) 200 then
                if gw_in (σ.1 12) 200 then
                  some (σ.1 12, (sv (sa (sg (sa (sa (sa (sa σ 0 ((σ.1 12).toNatClampNeg) x1) 1 ((σ.1 12).toNatClampNeg) x2) 2 ((σ.1 12).toNatClampNeg) x3) 3 ((σ.1 12).toNatClampNeg) x4) 0 ((σ.1 12).toNatClampNeg) x5) 4 ((σ.1 12).toNatClampNeg) x7) 12 ((σ.1 12) + 1)))
                else none
              else none
            else none
          else none
        else none
      else none
    else
      some ((-1), σ)
def F_Te_addNumber (σ : St) (x1 : Int64) : Option (Int32 × St) :=
  gw_bind (F_Te_add (σ) 0 (-1) (-1) (-1) x1 0) fun r2 σ3 =>
    some (r2, σ3)
def F_Te_addVariable (σ : St) (x1 : Int32) : Option (Int32 × St) :=
  gw_bind (F_Te_add (σ) 1 x1 (-1) (-1) 0 (x1 + 1)) fun r2 σ3 =>
    some (r2, σ3)
def F_Te_lackOf (σ : St) (x1 : Int32) : Option (Int32 × St) :=
  gw_bind (F_Te_has (σ) x1) fun r2 σ3 =>
    if r2 = 0 then
      some (0, σ3)
    else
      if gw_in x1 200 then
        some (σ3.2.1 4 x1.toNatClampNeg, σ3)
      else none
def F_Te_oneLess (σ : St) (x0 : Int32) : Option (Int32 × St) :=
  some (if (x0 - 1) < 0 then 0 else (x0 - 1), σ)
def F_Te_addOne (σ : St) (x1 : Int32) (x2 : Int32) : Option (Int32 × St) :=
  if x1 = 0 then
    gw_bind (F_Te_lackOf (σ) x2) fun r16 σ17 =>
      gw_bind (F_Te_oneLess (σ17) r16) fun r19 σ20 =>
        gw_bind (F_Te_add (σ20) 2 x2 (-1) (-1) 0 r19) fun r22 σ23 =>
          some (r22, σ23)
  else
    if x1 = 1 then
      gw_bind (F_Te_lackOf (σ) x2) fun r10 σ11 =>
        gw_bind (F_Te_add (σ11) 3 x2 (-1) (-1) 0 r10) fun r13 σ14 =>
          some (r13, σ14)
    else
      gw_bind (F_Te_lackOf (σ) x2) fun r4 σ5 =>
        gw_bind (F_Te_add (σ5) 4 x2 (-1) (-1) 0 r4) fun r7 σ8 =>
          some (r7, σ8)
def F_Te_addTwo (σ : St) (x1 : Int32) (x2 : Int32) (x3 : Int32) : Option (Int32 × St) :=
  gw_bind (F_Te_lackOf (σ) x2) fun r2 σ3 =>
    gw_bind (F_Te_lackOf (σ3) x3) fun r5 σ6 =>
      if x1 = 0 then
        gw_bind (F_Te_add (σ6) 5 x2 x3 (-1) 0 (if r2 < r5 then r5 else r2)) fun r9 σ10 =>
          some (r9, σ10)
      else
        if x1 = 1 then
          gw_bind (F_Te_oneLess (σ6) (if r2 < r5 then r5 else r2)) fun r13 σ14 =>
            gw_bind (F_Te_add (σ14) 6 x2 x3 (-1) 0 r13) fun r16 σ17 =>
              some (r16, σ17)
        else
          if x1 = 2 then
            gw_bind (F_Te_add (σ6) 7 x2 x3 (-1) 0 (if r2 < r5 then r5 else r2)) fun r20 σ21 =>
              some (r20, σ21)
          else
            gw_bind (F_Te_add (σ6) 8 x2 x3 (x1 - 3) 0 (if r2 < r5 then r5 else r2)) fun r23 σ24 =>
              some (r23, σ24)
def F_Te_addChoose (σ : St) (x1 : Int32) (x2 : Int32) (x3 : Int32) : Option (Int32 × St) :=
  gw_bind (F_Te_lackOf (σ) x1) fun r2 σ3 =>
    gw_bind (F_Te_lackOf (σ3) x2) fun r5 σ6 =>
      gw_bind (F_Te_lackOf (σ6) x3) fun r8 σ9 =>
        gw_bind (F_Te_add (σ9) 9 x1 x2 x3 0 (if r2 < (if r5 < r8 then r8 else r5) then (if r5 < r8 then r8 else r5) else r2)) fun r11 σ12 =>
          some (r11, σ12)
def F_Th_timesOf (σ : St) (x1 : Int32) : Option (Int32 × St) :=
  gw_bind (F_Th_has (σ) x1) fun r2 σ3 =>
    if r2 = 0 then
      some (0, σ3)
    else
      if gw_in x1 1000 then
        some (σ3.2.1 11 x1.toNatClampNeg, σ3)
      else none
def F_Th_neederOf (σ : St) (x1 : Int32) : Option (Int32 × St) :=
  gw_bind (F_Th_has (σ) x1) fun r2 σ3 =>
    if r2 = 0 then
      some ((-1), σ3)
    else
      if gw_in x1 1000 then
        some (σ3.2.1 12 x1.toNatClampNeg, σ3)
      else none
def F_Gw_outcome (σ : St) : Option (Int32 × St) :=
  some (σ.1 0, σ)
def F_Gw_sort (σ : St) : Option (Int32 × St) :=
  if (σ.1 0) = 2 then
    some (σ.1 19, σ)
  else
    some ((-1), σ)
def F_Gw_value (σ : St) : Option (Int64 × St) :=
  if (σ.1 0) = 2 then
    if (σ.1 19) = 0 then
      some (σ.2.2.1 0, σ)
    else
      some (0, σ)
  else
    some (0, σ)
def F_Mo_thrown (σ : St) : Option (Int32 × St) :=
  some (σ.1 20, σ)
def F_Mo_isTerm (σ : St) (x1 : Int32) : Option (Int32 × St) :=
  if x1 < 0 then
    some (0, σ)
  else
    if (σ.1 0) ≤ x1 then
      some (0, σ)
    else
      some (1, σ)
def F_Mo_thrownBy (σ : St) (x1 : Int32) : Option (Int32 × St) :=
  some (0, (sv σ 20 x1))
def F_Mo_term (σ : St) (x1 : Int32) (x2 : Int32) (x3 : Int32) (x4 : Int32) : Option (Int32 × St) :=
  if gw_in (σ.1 0) 200 then
    if gw_in (σ.1 0) 200 then
      if gw_in (σ.1 0) 200 then
        if gw_in (σ.1 0) 200 then
          some (((σ.1 0) + 1) - 1, (sv (sa (sa (sa (sa (sv σ 20 0) 0 ((σ.1 0).toNatClampNeg) x1) 1 ((σ.1 0).toNatClampNeg) x2) 2 ((σ.1 0).toNatClampNeg) x3) 3 ((σ.1 0).toNatClampNeg) x4) 0 ((σ.1 0) + 1)))
        else none
      else none
    else none
  else none
def F_Mo_more (σ : St) (x0 : Int32) (x1 : Int32) : Option (Int32 × St) :=
  if x0 ≤ x1 then
    some (x1, σ)
  else
    some (x0, σ)
def F_Mo_lessOne (σ : St) (x0 : Int32) : Option (Int32 × St) :=
  if x0 ≤ 0 then
    some (0, σ)
  else
    some (x0 - 1, σ)
def F_Mo_number (σ : St) (x1 : Int64) : Option (Int32 × St) :=
  if (σ.1 0) = 200 then
    gw_bind (F_Mo_thrownBy (σ) 1) fun r8 σ9 =>
      some (r8, σ9)
  else
    gw_bind (F_Mo_term (σ) 0 (-1) (-1) (-1)) fun r3 σ4 =>
      if gw_in r3 200 then
        if gw_in r3 200 then
          some (r3, (sa (sg σ4 0 r3.toNatClampNeg x1) 4 r3.toNatClampNeg 0))
        else none
      else none
def F_Mo_variable (σ : St) (x1 : Int32) : Option (Int32 × St) :=
  if (σ.1 0) = 200 then
    gw_bind (F_Mo_thrownBy (σ) 1) fun r15 σ16 =>
      some (r15, σ16)
  else
    if x1 < 0 then
      gw_bind (F_Mo_thrownBy (σ) 2) fun r4 σ5 =>
        some (r4, σ5)
    else
      if x1 ≤ 60 then
        gw_bind (F_Mo_term (σ) 1 x1 (-1) (-1)) fun r8 σ9 =>
          if gw_in r8 200 then
            some (r8, (sa σ9 4 r8.toNatClampNeg (x1 + 1)))
          else none
      else
        gw_bind (F_Mo_thrownBy (σ) 2) fun r12 σ13 =>
          some (r12, σ13)
def K_Mo_one_64 (σ : St) (x1 : Int32) (x2 : Int32) (y0 : Int32) : Option (Int32 × St) :=
  gw_bind (F_Mo_term (σ) y0 x2 (-1) (-1)) fun r14 σ15 =>
    if x1 = 0 then
      if gw_in x2 200 then
        gw_bind (F_Mo_lessOne (σ15) (σ15.2.1 4 x2.toNatClampNeg)) fun r21 σ22 =>
          if gw_in r14 200 then
            some (r14, (sa σ22 4 r14.toNatClampNeg r21))
          else none
      else none
    else
      if gw_in x2 200 then
        if gw_in r14 200 then
          some (r14, (sa σ15 4 r14.toNatClampNeg (σ15.2.1 4 x2.toNatClampNeg)))
        else none
      else none
def F_Mo_one (σ : St) (x1 : Int32) (x2 : Int32) : Option (Int32 × St) :=
  gw_bind (F_Mo_isTerm (σ) x2) fun r2 σ3 =>
    if r2 = 0 then
      gw_bind (F_Mo_thrownBy (σ3) 1) fun r31 σ32 =>
        some (r31, σ32)
    else
      if (σ3.1 0) = 200 then
        gw_bind (F_Mo_thrownBy (σ3) 2) fun r28 σ29 =>
          some (r28, σ29)
      else
        if x1 < 0 then
          gw_bind (F_Mo_thrownBy (σ3) 3) fun r8 σ9 =>
            some (r8, σ9)
        else
          if x1 ≤ 2 then
            if x1 = 0 then
              K_Mo_one_64 (σ3) x1 x2 2
            else
              if x1 = 1 then
                K_Mo_one_64 (σ3) x1 x2 3
              else
                K_Mo_one_64 (σ3) x1 x2 4
          else
            gw_bind (F_Mo_thrownBy (σ3) 3) fun r25 σ26 =>
              some (r25, σ26)
def K_Mo_two_89 (σ : St) (x1 : Int32) (x2 : Int32) (x3 : Int32) (y0 : Int32) : Option (Int32 × St) :=
  gw_bind (F_Mo_term (σ) y0 x2 x3 (-1)) fun r22 σ23 =>
    if gw_in x2 200 then
      if gw_in x3 200 then
        gw_bind (F_Mo_more (σ23) (σ23.2.1 4 x2.toNatClampNeg) (σ23.2.1 4 x3.toNatClampNeg)) fun r27 σ28 =>
          if x1 = 1 then
            gw_bind (F_Mo_lessOne (σ28) r27) fun r32 σ33 =>
              if gw_in r22 200 then
                some (r22, (sa σ33 4 r22.toNatClampNeg r32))
              else none
          else
            if gw_in r22 200 then
              some (r22, (sa σ28 4 r22.toNatClampNeg r27))
            else none
      else none
    else none
def F_Mo_two (σ : St) (x1 : Int32) (x2 : Int32) (x3 : Int32) : Option (Int32 × St) :=
  gw_bind (F_Mo_isTerm (σ) x2) fun r2 σ3 =>
    if r2 = 0 then
      gw_bind (F_Mo_thrownBy (σ3) 1) fun r6 σ7 =>
        some (r6, σ7)
    else
      gw_bind (F_Mo_isTerm (σ3) x3) fun r9 σ10 =>
        if r9 = 0 then
          gw_bind (F_Mo_thrownBy (σ10) 1) fun r42 σ43 =>
            some (r42, σ43)
        else
          if (σ10.1 0) = 200 then
            gw_bind (F_Mo_thrownBy (σ10) 2) fun r39 σ40 =>
              some (r39, σ40)
          else
            if x1 < 0 then
              gw_bind (F_Mo_thrownBy (σ10) 3) fun r15 σ16 =>
                some (r15, σ16)
            else
              if x1 ≤ 8 then
                if x1 = 0 then
                  K_Mo_two_89 (σ10) x1 x2 x3 5
                else
                  if x1 = 1 then
                    K_Mo_two_89 (σ10) x1 x2 x3 6
                  else
                    if x1 = 2 then
                      K_Mo_two_89 (σ10) x1 x2 x3 7
                    else
                      K_Mo_two_89 (σ10) x1 x2 x3 ((8 + x1) - 3)
              else
                gw_bind (F_Mo_thrownBy (σ10) 3) fun r36 σ37 =>
                  some (r36, σ37)
def F_Mo_choose (σ : St) (x1 : Int32) (x2 : Int32) (x3 : Int32) : Option (Int32 × St) :=
  gw_bind (F_Mo_isTerm (σ) x1) fun r2 σ3 =>
    if r2 = 0 then
      gw_bind (F_Mo_thrownBy (σ3) 1) fun r6 σ7 =>
        some (r6, σ7)
    else
      gw_bind (F_Mo_isTerm (σ3) x2) fun r9 σ10 =>
        if r9 = 0 then
          gw_bind (F_Mo_thrownBy (σ10) 1) fun r13 σ14 =>
            some (r13, σ14)
        else
          gw_bind (F_Mo_isTerm (σ10) x3) fun r16 σ17 =>
            if r16 = 0 then
              gw_bind (F_Mo_thrownBy (σ17) 1) fun r37 σ38 =>
                some (r37, σ38)
            else
              if (σ17.1 0) = 200 then
                gw_bind (F_Mo_thrownBy (σ17) 2) fun r34 σ35 =>
                  some (r34, σ35)
              else
                gw_bind (F_Mo_term (σ17) 14 x2 x3 x1) fun r21 σ22 =>
                  if gw_in x1 200 then
                    if gw_in x2 200 then
                      if gw_in x3 200 then
                        gw_bind (F_Mo_more (σ22) (σ22.2.1 4 x2.toNatClampNeg) (σ22.2.1 4 x3.toNatClampNeg)) fun r27 σ28 =>
                          gw_bind (F_Mo_more (σ28) (σ22.2.1 4 x1.toNatClampNeg) r27) fun r30 σ31 =>
                            if gw_in r21 200 then
                              some (r21, (sa σ31 4 r21.toNatClampNeg r30))
                            else none
                      else none
                    else none
                  else none
def F_Mo_lacks (σ : St) (x1 : Int32) : Option (Int32 × St) :=
  gw_bind (F_Mo_isTerm (σ) x1) fun r2 σ3 =>
    if r2 = 0 then
      gw_bind (F_Mo_thrownBy (σ3) 1) fun r7 σ8 =>
        some (r7, σ8)
    else
      if gw_in x1 200 then
        some (σ3.2.1 4 x1.toNatClampNeg, (sv σ3 20 0))
      else none
def F_Mo_atHand (σ : St) (x1 : Int32) (x2 : Int32) : Option St :=
  some (sv (sv (sv σ 6 0) 7 x1) 8 x2)
def F_Mo_begin (σ : St) (x1 : Int32) (x2 : Int32) : Option St :=
  gw_bind (F_Mo_isTerm (σ) x1) fun r2 σ3 =>
    if r2 = 0 then
      some (sv σ3 20 1)
    else
      if gw_in x1 200 then
        if (σ3.2.1 4 x1.toNatClampNeg) ≤ 0 then
          if x2 = 0 ∨ x2 = 1 then
            gw_bindv (F_Mo_atHand (sv (sv (sv (sv (sv (sv (sv (sv (sv (sv (sv σ3 20 0) 1 0) 2 0) 3 0) 4 0) 5 0) 15 0) 16 0) 17 0) 14 x2) 13 1) x1 (-1)) fun σ9 =>
              some (σ9)
          else none
        else
          some (sv σ3 20 2)
      else none
def F_Mo_valueAtHand (σ : St) (x1 : Int32) (x2 : Int64) (x4 : Int32) (x5 : Int32) : Option St :=
  some (sv (sv (sw (sv (sv σ 6 1) 10 x1) 0 x2) 11 x4) 12 x5)
def F_Mo_reach (σ : St) (x1 : Int32) : Option St :=
  if gw_in x1 1000 then
    if (σ.2.1 19 x1.toNatClampNeg) = 0 then
      if gw_in x1 1000 then
        if gw_in (σ.1 21) 1000 then
          some (sv (sa (sa σ 19 x1.toNatClampNeg 1) 21 ((σ.1 21).toNatClampNeg) x1) 21 ((σ.1 21) + 1))
        else none
      else none
    else
      some (σ)
  else none
def K_Mo_reachPlaces_2 : Nat → St → Int32 → Option St
  | 0, _, _ => none
  | n + 1, σ, x2 =>
    if x2 < 0 then
      some (σ)
    else
      if gw_in x2 1000 then
        if (σ.2.1 20 x2.toNatClampNeg) = 0 then
          if gw_in x2 1000 then
            if gw_in x2 1000 then
              gw_bindv (F_Mo_reach (sa σ 20 x2.toNatClampNeg 1) (σ.2.1 14 x2.toNatClampNeg)) fun σ7 =>
                if gw_in x2 1000 then
                  K_Mo_reachPlaces_2 n (σ7) (σ7.2.1 15 x2.toNatClampNeg)
                else none
            else none
          else none
        else
          some (σ)
      else none
def F_Mo_reachPlaces (σ : St) (x1 : Int32) : Option St :=
  K_Mo_reachPlaces_2 gw_N (σ) x1
def F_Mo_reachValue (σ : St) (x1 : Int32) (x2 : Int32) (x3 : Int32) : Option St :=
  if x1 = 1 then
    gw_bindv (F_Mo_reachPlaces (σ) x3) fun σ8 =>
      some (σ8)
  else
    if x1 = 2 then
      gw_bindv (F_Mo_reach (σ) x2) fun σ4 =>
        gw_bindv (F_Mo_reach (σ4) x3) fun σ6 =>
          some (σ6)
    else
      some (σ)
def K_Mo_reachHand_55 : Nat → St → Int32 → Option St
  | 0, _, _ => none
  | n + 1, σ, x1 =>
    if (σ.1 4) ≤ x1 then
      some (σ)
    else
      if gw_in x1 300 then
        if 2 ≤ (σ.2.1 16 x1.toNatClampNeg) then
          if gw_in x1 300 then
            if (σ.2.1 16 x1.toNatClampNeg) = 2 then
              if gw_in x1 300 then
                gw_bindv (F_Mo_reachPlaces (σ) (σ.2.1 18 x1.toNatClampNeg)) fun σ12 =>
                  K_Mo_reachHand_55 n (σ12) (x1 + 1)
              else none
            else
              if gw_in x1 300 then
                if (σ.2.1 16 x1.toNatClampNeg) = 4 then
                  if gw_in x1 300 then
                    gw_bindv (F_Mo_reachPlaces (σ) (σ.2.1 18 x1.toNatClampNeg)) fun σ17 =>
                      K_Mo_reachHand_55 n (σ17) (x1 + 1)
                  else none
                else
                  K_Mo_reachHand_55 n (σ) (x1 + 1)
              else none
          else none
        else
          if gw_in x1 300 then
            gw_bindv (F_Mo_reach (σ) (σ.2.1 17 x1.toNatClampNeg)) fun σ20 =>
              K_Mo_reachHand_55 n (σ20) (x1 + 1)
          else none
      else none
def K_Mo_reachHand_53 (σ : St) : Option St :=
  K_Mo_reachHand_55 gw_N (σ) 0
def F_Mo_reachHand (σ : St) : Option St :=
  if (σ.1 6) = 0 then
    gw_bindv (F_Mo_reachPlaces (σ) (σ.1 8)) fun σ24 =>
      K_Mo_reachHand_53 (σ24)
  else
    if (σ.1 6) = 1 then
      gw_bindv (F_Mo_reachValue (σ) (σ.1 10) (σ.1 11) (σ.1 12)) fun σ22 =>
        K_Mo_reachHand_53 (σ22)
    else
      gw_bindv (F_Mo_reach (σ) (σ.1 9)) fun σ4 =>
        K_Mo_reachHand_53 (σ4)
def K_Mo_sweep_136 : Nat → St → Int32 → Int32 → Option (Int32 × St)
  | 0, _, _, _ => none
  | n + 1, σ, x1, x2 =>
    if (σ.1 1) ≤ x2 then
      some (x1, (sv σ 2 ((σ.1 2) - x1)))
    else
      if gw_in x2 1000 then
        if (σ.2.1 19 x2.toNatClampNeg) = 0 then
          if gw_in x2 1000 then
            if (σ.2.1 5 x2.toNatClampNeg) = 3 then
              K_Mo_sweep_136 n (σ) x1 (x2 + 1)
            else
              if gw_in x2 1000 then
                K_Mo_sweep_136 n (sa σ 5 x2.toNatClampNeg 3) (x1 + 1) (x2 + 1)
              else none
          else none
        else
          K_Mo_sweep_136 n (σ) x1 (x2 + 1)
      else none
def K_Mo_sweep_57 : Nat → St → Int32 → Option (Int32 × St)
  | 0, _, _ => none
  | n + 1, σ, x1 =>
    if (σ.1 21) ≤ x1 then
      K_Mo_sweep_136 gw_N (σ) 0 0
    else
      if gw_in x1 1000 then
        if gw_in (σ.2.1 21 x1.toNatClampNeg) 1000 then
          if (σ.2.1 5 ((σ.2.1 21 x1.toNatClampNeg).toNatClampNeg)) = 0 then
            if gw_in (σ.2.1 21 x1.toNatClampNeg) 1000 then
              gw_bindv (F_Mo_reachPlaces (σ) (σ.2.1 7 ((σ.2.1 21 x1.toNatClampNeg).toNatClampNeg))) fun σ24 =>
                K_Mo_sweep_57 n (σ24) (x1 + 1)
            else none
          else
            if gw_in (σ.2.1 21 x1.toNatClampNeg) 1000 then
              if (σ.2.1 5 ((σ.2.1 21 x1.toNatClampNeg).toNatClampNeg)) = 2 then
                if gw_in (σ.2.1 21 x1.toNatClampNeg) 1000 then
                  if gw_in (σ.2.1 21 x1.toNatClampNeg) 1000 then
                    if gw_in (σ.2.1 21 x1.toNatClampNeg) 1000 then
                      gw_bindv (F_Mo_reachValue (σ) (σ.2.1 8 ((σ.2.1 21 x1.toNatClampNeg).toNatClampNeg)) (σ.2.1 9 ((σ.2.1 21 x1.toNatClampNeg).toNatClampNeg)) (σ.2.1 10 ((σ.2.1 21 x1.toNatClampNeg).toNatClampNeg))) fun σ21 =>
                        K_Mo_sweep_57 n (σ21) (x1 + 1)
                    else none
                  else none
                else none
              else
                K_Mo_sweep_57 n (σ) (x1 + 1)
            else none
        else none
      else none
def K_Mo_sweep_25 : Nat → St → Int32 → Option (Int32 × St)
  | 0, _, _ => none
  | n + 1, σ, x1 =>
    if (σ.1 3) ≤ x1 then
      gw_bindv (F_Mo_reachHand (sv σ 21 0)) fun σ4 =>
        K_Mo_sweep_57 gw_N (σ4) 0
    else
      if gw_in x1 1000 then
        K_Mo_sweep_25 n (sa σ 20 x1.toNatClampNeg 0) (x1 + 1)
      else none
def K_Mo_sweep_2 : Nat → St → Int32 → Option (Int32 × St)
  | 0, _, _ => none
  | n + 1, σ, x1 =>
    if (σ.1 1) ≤ x1 then
      K_Mo_sweep_25 gw_N (σ) 0
    else
      if gw_in x1 1000 then
        K_Mo_sweep_2 n (sa σ 19 x1.toNatClampNeg 0) (x1 + 1)
      else none
def F_Mo_sweep (σ : St) : Option (Int32 × St) :=
  K_Mo_sweep_2 gw_N (σ) 0
def K_Mo_latestInWork_7 : Nat → St → Int32 → Option (Int32 × St)
  | 0, _, _ => none
  | n + 1, σ, x1 =>
    if x1 < 0 then
      if 0 ≤ x1 then
        if gw_in x1 300 then
          some (σ.2.1 17 x1.toNatClampNeg, σ)
        else none
      else
        some ((-1), σ)
    else
      if gw_in x1 300 then
        if (σ.2.1 16 x1.toNatClampNeg) = 0 then
          if 0 ≤ x1 then
            if gw_in x1 300 then
              some (σ.2.1 17 x1.toNatClampNeg, σ)
            else none
          else
            some ((-1), σ)
        else
          K_Mo_latestInWork_7 n (σ) (x1 + (-1))
      else none
def F_Mo_latestInWork (σ : St) : Option (Int32 × St) :=
  K_Mo_latestInWork_7 gw_N (σ) ((σ.1 4) - 1)
def F_Mo_push (σ : St) (x1 : Int32) (x2 : Int32) (x3 : Int32) (x4 : Int64) : Option St :=
  if gw_in (σ.1 4) 300 then
    if gw_in (σ.1 4) 300 then
      if gw_in (σ.1 4) 300 then
        if gw_in (σ.1 4) 300 then
          some (sv (sg (sa (sa (sa σ 16 ((σ.1 4).toNatClampNeg) x1) 17 ((σ.1 4).toNatClampNeg) x2) 18 ((σ.1 4).toNatClampNeg) x3) 2 ((σ.1 4).toNatClampNeg) x4) 4 ((σ.1 4) + 1))
        else none
      else none
    else none
  else none
def K_Mo_need_164 (σ : St) (x1 : Int32) : Option St :=
  if (σ.1 14) = 0 then
    if gw_in x1 1000 then
      if gw_in x1 1000 then
        gw_bindv (F_Mo_atHand (σ) (σ.2.1 6 x1.toNatClampNeg) (σ.2.1 7 x1.toNatClampNeg)) fun σ15 =>
          some (σ15)
      else none
    else none
  else
    if gw_in x1 1000 then
      gw_bindv (F_Mo_push (sa σ 5 x1.toNatClampNeg 1) 0 x1 (-1) 0) fun σ18 =>
        if gw_in x1 1000 then
          if gw_in x1 1000 then
            gw_bindv (F_Mo_atHand (σ18) (σ18.2.1 6 x1.toNatClampNeg) (σ18.2.1 7 x1.toNatClampNeg)) fun σ22 =>
              some (σ22)
          else none
        else none
    else none
def K_Mo_need_113 (σ : St) (x1 : Int32) (x3 : Int32) : Option St :=
  if gw_in x1 1000 then
    if gw_in x1 1000 then
      if gw_in x1 1000 then
        if (σ.2.1 13 x1.toNatClampNeg) = 0 then
          if gw_in x1 1000 then
            gw_bind (F_Mo_latestInWork (sa (sa (sv (sv σ 4 x3) 17 ((σ.1 17) + 1)) 11 x1.toNatClampNeg ((σ.2.1 11 x1.toNatClampNeg) + 1)) 13 x1.toNatClampNeg 1)) fun r25 σ26 =>
              if gw_in x1 1000 then
                K_Mo_need_164 (sa σ26 12 x1.toNatClampNeg r25) x1
              else none
          else none
        else
          K_Mo_need_164 (sa (sv (sv σ 4 x3) 17 ((σ.1 17) + 1)) 11 x1.toNatClampNeg ((σ.2.1 11 x1.toNatClampNeg) + 1)) x1
      else none
    else none
  else none
def K_Mo_need_17 (σ : St) (x1 : Int32) (y0 : Int32) : Option St :=
  if gw_in x1 1000 then
    if (σ.2.1 5 x1.toNatClampNeg) = 1 then
      some (sv (sv σ 13 3) 18 x1)
    else
      if gw_in x1 1000 then
        if (σ.2.1 5 x1.toNatClampNeg) = 2 then
          if gw_in x1 1000 then
            if gw_in x1 1000 then
              if gw_in x1 1000 then
                if gw_in x1 1000 then
                  gw_bindv (F_Mo_valueAtHand (sv (sv σ 4 y0) 16 ((σ.1 16) + 1)) (σ.2.1 8 x1.toNatClampNeg) (σ.2.2.2 1 x1.toNatClampNeg) (σ.2.1 9 x1.toNatClampNeg) (σ.2.1 10 x1.toNatClampNeg)) fun σ34 =>
                    some (σ34)
                else none
              else none
            else none
          else none
        else
          if (σ.1 14) = 0 then
            K_Mo_need_113 (σ) x1 y0
          else
            if y0 = 300 then
              some (sv σ 13 5)
            else
              K_Mo_need_113 (σ) x1 y0
      else none
  else none
def F_Mo_need (σ : St) (x1 : Int32) (x2 : Int32) : Option St :=
  if x2 = 0 then
    K_Mo_need_17 (σ) x1 (σ.1 4)
  else
    K_Mo_need_17 (σ) x1 ((σ.1 4) - 1)
def K_Mo_thingOfPlace_5 : Nat → St → Int32 → Int32 → Int32 → Option (Int32 × St)
  | 0, _, _, _, _ => none
  | n + 1, σ, x2, x3, x4 =>
    if x2 ≤ x4 then
      if gw_in x3 1000 then
        some (σ.2.1 14 x3.toNatClampNeg, σ)
      else none
    else
      if gw_in x3 1000 then
        K_Mo_thingOfPlace_5 n (σ) x2 (σ.2.1 15 x3.toNatClampNeg) (x4 + 1)
      else none
def F_Mo_thingOfPlace (σ : St) (x1 : Int32) (x2 : Int32) : Option (Int32 × St) :=
  K_Mo_thingOfPlace_5 gw_N (σ) x2 x1 0
def F_Mo_isNew (σ : St) (x1 : Int32) : Option (Int32 × St) :=
  if gw_in x1 200 then
    if (σ.2.1 0 x1.toNatClampNeg) = 1 then
      some (0, σ)
    else
      some (1, σ)
  else none
def F_Mo_hasRoom (σ : St) (x1 : Int32) (x2 : Int32) (x3 : Int32) : Option (Int32 × St) :=
  if 1000 < ((σ.1 1) + x1) then
    some (0, (sv σ 13 5))
  else
    if 300 < ((σ.1 2) + x1) then
      some (0, (sv σ 13 5))
    else
      if 1000 < ((σ.1 3) + x2) then
        some (0, (sv σ 13 5))
      else
        if 300 < ((σ.1 4) + x3) then
          some (0, (sv σ 13 5))
        else
          some (1, σ)
def F_Mo_newThing (σ : St) (x1 : Int32) (x2 : Int32) : Option (Int32 × St) :=
  if gw_in (σ.1 1) 1000 then
    if gw_in (σ.1 1) 1000 then
      if gw_in (σ.1 1) 1000 then
        if gw_in (σ.1 1) 1000 then
          if gw_in (σ.1 1) 1000 then
            if gw_in (σ.1 1) 1000 then
              some (((σ.1 1) + 1) - 1, (sv (sv (sa (sa (sa (sa (sa (sa σ 5 ((σ.1 1).toNatClampNeg) 0) 6 ((σ.1 1).toNatClampNeg) x1) 7 ((σ.1 1).toNatClampNeg) x2) 11 ((σ.1 1).toNatClampNeg) 0) 13 ((σ.1 1).toNatClampNeg) 0) 12 ((σ.1 1).toNatClampNeg) (-1)) 1 ((σ.1 1) + 1)) 2 ((σ.1 2) + 1)))
            else none
          else none
        else none
      else none
    else none
  else none
def F_Mo_thingOf (σ : St) (x1 : Int32) : Option (Int32 × St) :=
  gw_bind (F_Mo_isNew (σ) x1) fun r2 σ3 =>
    if r2 = 0 then
      if gw_in x1 200 then
        gw_bind (F_Mo_thingOfPlace (σ3) (σ3.1 8) (σ3.2.1 1 x1.toNatClampNeg)) fun r7 σ8 =>
          some (r7, σ8)
      else none
    else
      gw_bind (F_Mo_newThing (σ3) x1 (σ3.1 8)) fun r10 σ11 =>
        some (r10, σ11)
def F_Mo_newPlace (σ : St) (x1 : Int32) (x2 : Int32) : Option (Int32 × St) :=
  if gw_in (σ.1 3) 1000 then
    if gw_in (σ.1 3) 1000 then
      some (((σ.1 3) + 1) - 1, (sv (sa (sa σ 14 ((σ.1 3).toNatClampNeg) x1) 15 ((σ.1 3).toNatClampNeg) x2) 3 ((σ.1 3) + 1)))
    else none
  else none
def K_Mo_goOnWithTerm_333 (σ : St) (x1 : Int32) (x2 : Int32) (y0 : Int32) : Option St :=
  gw_bindv (F_Mo_push (σ) y0 x1 (σ.1 8) 0) fun σ16 =>
    if x2 = 14 then
      if gw_in x1 200 then
        gw_bindv (F_Mo_atHand (σ16) (σ16.2.1 3 x1.toNatClampNeg) (σ16.1 8)) fun σ23 =>
          some (σ23)
      else none
    else
      if gw_in x1 200 then
        gw_bindv (F_Mo_atHand (σ16) (σ16.2.1 1 x1.toNatClampNeg) (σ16.1 8)) fun σ20 =>
          some (σ20)
      else none
def K_Mo_goOnWithTerm_194 (σ : St) (x1 : Int32) (y0 : Int32) : Option St :=
  gw_bind (F_Mo_hasRoom (σ) y0 0 1) fun r44 σ45 =>
    if r44 = 0 then
      some (σ45)
    else
      if gw_in x1 200 then
        gw_bind (F_Mo_thingOf (σ45) (σ45.2.1 2 x1.toNatClampNeg)) fun r49 σ50 =>
          gw_bindv (F_Mo_push (σ50) 1 r49 (-1) 0) fun σ52 =>
            if gw_in x1 200 then
              gw_bindv (F_Mo_atHand (σ52) (σ52.2.1 1 x1.toNatClampNeg) (σ52.1 8)) fun σ55 =>
                some (σ55)
            else none
      else none
def K_Mo_goOnWithTerm_126 (σ : St) (x1 : Int32) (y0 : Int32) (y1 : Int32) : Option St :=
  gw_bind (F_Mo_hasRoom (σ) (y1 + y0) 0 0) fun r67 σ68 =>
    if r67 = 0 then
      some (σ68)
    else
      if gw_in x1 200 then
        gw_bind (F_Mo_thingOf (σ68) (σ68.2.1 1 x1.toNatClampNeg)) fun r72 σ73 =>
          if gw_in x1 200 then
            gw_bind (F_Mo_thingOf (σ73) (σ73.2.1 2 x1.toNatClampNeg)) fun r76 σ77 =>
              gw_bindv (F_Mo_valueAtHand (σ77) 2 0 r72 r76) fun σ79 =>
                some (σ79)
          else none
      else none
def K_Mo_goOnWithTerm_108 (σ : St) (x1 : Int32) (y0 : Int32) : Option St :=
  if gw_in x1 200 then
    gw_bind (F_Mo_isNew (σ) (σ.2.1 2 x1.toNatClampNeg)) fun r63 σ64 =>
      if r63 = 0 then
        K_Mo_goOnWithTerm_126 (σ64) x1 0 y0
      else
        K_Mo_goOnWithTerm_126 (σ64) x1 1 y0
  else none
def F_Mo_goOnWithTerm (σ : St) : Option St :=
  if gw_in (σ.1 7) 200 then
    if (σ.2.1 0 ((σ.1 7).toNatClampNeg)) = 0 then
      if gw_in (σ.1 7) 200 then
        gw_bindv (F_Mo_valueAtHand (σ) 0 (σ.2.2.2 0 ((σ.1 7).toNatClampNeg)) (-1) (-1)) fun σ91 =>
          some (σ91)
      else none
    else
      if (σ.2.1 0 ((σ.1 7).toNatClampNeg)) = 2 then
        if gw_in (σ.1 7) 200 then
          gw_bindv (F_Mo_valueAtHand (σ) 1 0 (σ.2.1 1 ((σ.1 7).toNatClampNeg)) (σ.1 8)) fun σ88 =>
            some (σ88)
        else none
      else
        if (σ.2.1 0 ((σ.1 7).toNatClampNeg)) = 1 then
          if gw_in (σ.1 7) 200 then
            gw_bind (F_Mo_thingOfPlace (σ) (σ.1 8) (σ.2.1 1 ((σ.1 7).toNatClampNeg))) fun r82 σ83 =>
              gw_bindv (F_Mo_need (σ83) r82 0) fun σ85 =>
                some (σ85)
          else none
        else
          if (σ.2.1 0 ((σ.1 7).toNatClampNeg)) = 7 then
            if gw_in (σ.1 7) 200 then
              gw_bind (F_Mo_isNew (σ) (σ.2.1 1 ((σ.1 7).toNatClampNeg))) fun r58 σ59 =>
                if r58 = 0 then
                  K_Mo_goOnWithTerm_108 (σ59) (σ.1 7) 0
                else
                  K_Mo_goOnWithTerm_108 (σ59) (σ.1 7) 1
            else none
          else
            if (σ.2.1 0 ((σ.1 7).toNatClampNeg)) = 5 then
              if gw_in (σ.1 7) 200 then
                gw_bind (F_Mo_isNew (σ) (σ.2.1 2 ((σ.1 7).toNatClampNeg))) fun r40 σ41 =>
                  if r40 = 0 then
                    K_Mo_goOnWithTerm_194 (σ41) (σ.1 7) 0
                  else
                    K_Mo_goOnWithTerm_194 (σ41) (σ.1 7) 1
              else none
            else
              if (σ.2.1 0 ((σ.1 7).toNatClampNeg)) = 6 then
                gw_bind (F_Mo_hasRoom (σ) 1 1 0) fun r25 σ26 =>
                  if r25 = 0 then
                    some (σ26)
                  else
                    gw_bind (F_Mo_newPlace (σ26) (σ26.1 1) (σ26.1 8)) fun r29 σ30 =>
                      if gw_in (σ.1 7) 200 then
                        gw_bind (F_Mo_newThing (σ30) (σ30.2.1 1 ((σ.1 7).toNatClampNeg)) r29) fun r33 σ34 =>
                          if gw_in (σ.1 7) 200 then
                            gw_bindv (F_Mo_atHand (σ34) (σ34.2.1 2 ((σ.1 7).toNatClampNeg)) r29) fun σ37 =>
                              some (σ37)
                          else none
                      else none
              else
                gw_bind (F_Mo_hasRoom (σ) 0 0 1) fun r9 σ10 =>
                  if r9 = 0 then
                    some (σ10)
                  else
                    if (σ.2.1 0 ((σ.1 7).toNatClampNeg)) = 14 then
                      K_Mo_goOnWithTerm_333 (σ10) (σ.1 7) (σ.2.1 0 ((σ.1 7).toNatClampNeg)) 4
                    else
                      if (σ.2.1 0 ((σ.1 7).toNatClampNeg)) = 3 then
                        K_Mo_goOnWithTerm_333 (σ10) (σ.1 7) (σ.2.1 0 ((σ.1 7).toNatClampNeg)) 5
                      else
                        if (σ.2.1 0 ((σ.1 7).toNatClampNeg)) = 4 then
                          K_Mo_goOnWithTerm_333 (σ10) (σ.1 7) (σ.2.1 0 ((σ.1 7).toNatClampNeg)) 6
                        else
                          K_Mo_goOnWithTerm_333 (σ10) (σ.1 7) (σ.2.1 0 ((σ.1 7).toNatClampNeg)) 2
  else none
def K_Mo_act_18 (σ : St) (x1 : Int32) (x2 : Int64) (x4 : Int64) : Option St :=
  if x1 = 0 then
    gw_bindv (F_Mo_valueAtHand (sv σ 4 ((σ.1 4) - 1)) 0 (x2 + x4) (-1) (-1)) fun σ25 =>
      some (σ25)
  else
    if x1 = 1 then
      gw_bindv (F_Mo_valueAtHand (sv σ 4 ((σ.1 4) - 1)) 0 (x2 - x4) (-1) (-1)) fun σ23 =>
        some (σ23)
    else
      if x1 = 2 then
        gw_bindv (F_Mo_valueAtHand (sv σ 4 ((σ.1 4) - 1)) 0 (x2 * x4) (-1) (-1)) fun σ21 =>
          some (σ21)
      else
        if x1 = 3 then
          if ¬ x4 = 0 then
            gw_bindv (F_Mo_valueAtHand (sv σ 4 ((σ.1 4) - 1)) 0 (x2 / x4) (-1) (-1)) fun σ19 =>
              some (σ19)
          else none
        else
          if x1 = 4 then
            if (lg_cmp x2 x4) = 0 then
              gw_bindv (F_Mo_valueAtHand (sv σ 4 ((σ.1 4) - 1)) 0 1 (-1) (-1)) fun σ16 =>
                some (σ16)
            else
              gw_bindv (F_Mo_valueAtHand (sv σ 4 ((σ.1 4) - 1)) 0 0 (-1) (-1)) fun σ14 =>
                some (σ14)
          else
            if 0 ≤ (lg_cmp x2 x4) then
              gw_bindv (F_Mo_valueAtHand (sv σ 4 ((σ.1 4) - 1)) 0 0 (-1) (-1)) fun σ9 =>
                some (σ9)
            else
              gw_bindv (F_Mo_valueAtHand (sv σ 4 ((σ.1 4) - 1)) 0 1 (-1) (-1)) fun σ11 =>
                some (σ11)
def F_Mo_act (σ : St) (x1 : Int32) (x2 : Int64) (x4 : Int64) : Option St :=
  if x1 = 3 then
    if (lg_cmp x4 0) = 0 then
      some (sv σ 13 4)
    else
      K_Mo_act_18 (σ) x1 x2 x4
  else
    K_Mo_act_18 (σ) x1 x2 x4
def K_Mo_goOnWithValue_97 (σ : St) (x1 : Int32) (x2 : Int32) (y0 : Int32) : Option St :=
  if (σ.1 10) = y0 then
    if x2 = 1 then
      gw_bind (F_Mo_hasRoom (σ) 0 1 (-1)) fun r39 σ40 =>
        if r39 = 0 then
          some (σ40)
        else
          if gw_in x1 300 then
            gw_bind (F_Mo_newPlace (sv σ40 4 x1) (σ40.2.1 17 x1.toNatClampNeg) (σ40.1 12)) fun r44 σ45 =>
              gw_bindv (F_Mo_atHand (σ45) (σ40.1 11) r44) fun σ47 =>
                some (σ47)
          else none
    else
      if x2 = 2 then
        if gw_in x1 300 then
          if gw_in x1 300 then
            if gw_in x1 300 then
              if gw_in (σ.2.1 17 x1.toNatClampNeg) 200 then
                if gw_in x1 300 then
                  gw_bindv (F_Mo_atHand (sg (sa σ 16 x1.toNatClampNeg 3) 2 x1.toNatClampNeg (σ.2.2.1 0)) (σ.2.1 2 ((σ.2.1 17 x1.toNatClampNeg).toNatClampNeg)) (σ.2.1 18 x1.toNatClampNeg)) fun σ37 =>
                    some (σ37)
                else none
              else none
            else none
          else none
        else none
      else
        if x2 = 3 then
          if gw_in x1 300 then
            if gw_in (σ.2.1 17 x1.toNatClampNeg) 200 then
              if gw_in x1 300 then
                gw_bindv (F_Mo_act (σ) ((σ.2.1 0 ((σ.2.1 17 x1.toNatClampNeg).toNatClampNeg)) - 8) (σ.2.2.2 2 x1.toNatClampNeg) (σ.2.2.1 0)) fun σ30 =>
                  some (σ30)
              else none
            else none
          else none
        else
          if x2 = 4 then
            if (lg_cmp (σ.2.2.1 0) 0) = 0 then
              if gw_in x1 300 then
                if gw_in (σ.2.1 17 x1.toNatClampNeg) 200 then
                  if gw_in x1 300 then
                    gw_bindv (F_Mo_atHand (sv σ 4 x1) (σ.2.1 2 ((σ.2.1 17 x1.toNatClampNeg).toNatClampNeg)) (σ.2.1 18 x1.toNatClampNeg)) fun σ25 =>
                      some (σ25)
                  else none
                else none
              else none
            else
              if gw_in x1 300 then
                if gw_in (σ.2.1 17 x1.toNatClampNeg) 200 then
                  if gw_in x1 300 then
                    gw_bindv (F_Mo_atHand (sv σ 4 x1) (σ.2.1 1 ((σ.2.1 17 x1.toNatClampNeg).toNatClampNeg)) (σ.2.1 18 x1.toNatClampNeg)) fun σ20 =>
                      some (σ20)
                  else none
                else none
              else none
          else
            if x2 = 5 then
              gw_bindv (F_Mo_need (σ) (σ.1 11) 1) fun σ14 =>
                some (σ14)
            else
              gw_bindv (F_Mo_need (σ) (σ.1 12) 1) fun σ12 =>
                some (σ12)
  else
    some (sv σ 13 4)
def F_Mo_goOnWithValue (σ : St) : Option St :=
  if gw_in ((σ.1 4) - 1) 300 then
    if (σ.2.1 16 (((σ.1 4) - 1).toNatClampNeg)) = 0 then
      if gw_in ((σ.1 4) - 1) 300 then
        if gw_in (σ.2.1 17 (((σ.1 4) - 1).toNatClampNeg)) 1000 then
          if gw_in (σ.2.1 17 (((σ.1 4) - 1).toNatClampNeg)) 1000 then
            if gw_in (σ.2.1 17 (((σ.1 4) - 1).toNatClampNeg)) 1000 then
              if gw_in (σ.2.1 17 (((σ.1 4) - 1).toNatClampNeg)) 1000 then
                if gw_in (σ.2.1 17 (((σ.1 4) - 1).toNatClampNeg)) 1000 then
                  some (sv (sa (sa (sg (sa (sa σ 5 ((σ.2.1 17 (((σ.1 4) - 1).toNatClampNeg)).toNatClampNeg) 2) 8 ((σ.2.1 17 (((σ.1 4) - 1).toNatClampNeg)).toNatClampNeg) (σ.1 10)) 1 ((σ.2.1 17 (((σ.1 4) - 1).toNatClampNeg)).toNatClampNeg) (σ.2.2.1 0)) 9 ((σ.2.1 17 (((σ.1 4) - 1).toNatClampNeg)).toNatClampNeg) (σ.1 11)) 10 ((σ.2.1 17 (((σ.1 4) - 1).toNatClampNeg)).toNatClampNeg) (σ.1 12)) 4 ((σ.1 4) - 1))
                else none
              else none
            else none
          else none
        else none
      else none
    else
      if (σ.2.1 16 (((σ.1 4) - 1).toNatClampNeg)) = 1 then
        K_Mo_goOnWithValue_97 (σ) ((σ.1 4) - 1) (σ.2.1 16 (((σ.1 4) - 1).toNatClampNeg)) 1
      else
        if 5 ≤ (σ.2.1 16 (((σ.1 4) - 1).toNatClampNeg)) then
          K_Mo_goOnWithValue_97 (σ) ((σ.1 4) - 1) (σ.2.1 16 (((σ.1 4) - 1).toNatClampNeg)) 2
        else
          K_Mo_goOnWithValue_97 (σ) ((σ.1 4) - 1) (σ.2.1 16 (((σ.1 4) - 1).toNatClampNeg)) 0
  else none
def K_Mo_step_48 (σ : St) : Option St :=
  gw_bind (F_Mo_more (σ) (σ.1 5) (σ.1 4)) fun r6 σ7 =>
    if (σ7.1 13) = 1 then
      if (σ7.1 6) = 1 then
        if (σ7.1 4) = 0 then
          some (sv (sv σ7 5 r6) 13 2)
        else
          some (sv σ7 5 r6)
      else
        some (sv σ7 5 r6)
    else
      some (sv σ7 5 r6)
def F_Mo_step (σ : St) : Option St :=
  if (σ.1 6) = 2 then
    gw_bindv (F_Mo_need (sv σ 15 ((σ.1 15) + 1)) (σ.1 9) 0) fun σ14 =>
      K_Mo_step_48 (σ14)
  else
    if (σ.1 6) = 0 then
      gw_bindv (F_Mo_goOnWithTerm (sv σ 15 ((σ.1 15) + 1))) fun σ12 =>
        K_Mo_step_48 (σ12)
    else
      gw_bindv (F_Mo_goOnWithValue (sv σ 15 ((σ.1 15) + 1))) fun σ4 =>
        K_Mo_step_48 (σ4)
def K_Mo_run_37 : Nat → St → Int32 → Int32 → Option (Int32 × St)
  | 0, _, _, _ => none
  | n + 1, σ, x1, x2 =>
    if x1 ≤ x2 then
      some (x2, σ)
    else
      if (σ.1 13) = 1 then
        if (σ.1 19) ≤ 0 then
          gw_bindv (F_Mo_step (σ)) fun σ11 =>
            K_Mo_run_37 n (σ11) x1 (x2 + 1)
        else
          if ¬ (σ.1 19) = 0 then
            if ((σ.1 15) - (σ.1 15) / (σ.1 19) * (σ.1 19)) = 0 then
              gw_bind (F_Mo_sweep (σ)) fun r17 σ18 =>
                gw_bindv (F_Mo_step (σ18)) fun σ20 =>
                  K_Mo_run_37 n (σ20) x1 (x2 + 1)
            else
              gw_bindv (F_Mo_step (σ)) fun σ15 =>
                K_Mo_run_37 n (σ15) x1 (x2 + 1)
          else none
      else
        some (x2, σ)
def F_Mo_run (σ : St) (x1 : Int32) : Option (Int32 × St) :=
  if (σ.1 13) = 0 then
    gw_bind (F_Mo_thrownBy (σ) 1) fun r25 σ26 =>
      some (r25, σ26)
  else
    if x1 < 0 then
      gw_bind (F_Mo_thrownBy (σ) 2) fun r4 σ5 =>
        some (r4, σ5)
    else
      if x1 ≤ 5000 then
        K_Mo_run_37 gw_N (sv σ 20 0) x1 0
      else
        gw_bind (F_Mo_thrownBy (σ) 2) fun r22 σ23 =>
          some (r22, σ23)
def F_Mo_into (σ : St) (x1 : Int32) : Option St :=
  if (σ.1 13) = 2 then
    if (σ.1 10) = 2 then
      if x1 < 0 then
        some (sv σ 20 2)
      else
        if x1 ≤ 1 then
          if x1 = 0 then
            some (sv (sv (sv (sv σ 20 0) 9 (σ.1 11)) 6 2) 13 1)
          else
            some (sv (sv (sv (sv σ 20 0) 9 (σ.1 12)) 6 2) 13 1)
        else
          some (sv σ 20 2)
    else
      some (sv σ 20 1)
  else
    some (sv σ 20 1)
def F_Mo_outcome (σ : St) : Option (Int32 × St) :=
  some (σ.1 13, (sv σ 20 0))
def F_Mo_sort (σ : St) : Option (Int32 × St) :=
  if (σ.1 13) = 2 then
    some (σ.1 10, (sv σ 20 0))
  else
    some ((-1), (sv σ 20 0))
def F_Mo_value (σ : St) : Option (Int64 × St) :=
  if (σ.1 13) = 2 then
    if (σ.1 10) = 0 then
      some (σ.2.2.1 0, (sv σ 20 0))
    else
      some (0, (sv σ 20 0))
  else
    some (0, (sv σ 20 0))
def F_Mo_told (σ : St) (x1 : Int32) : Option (Int32 × St) :=
  if x1 < 0 then
    gw_bind (F_Mo_thrownBy (σ) 1) fun r3 σ4 =>
      some (r3, σ4)
  else
    if x1 ≤ 7 then
      if (σ.1 13) = 0 then
        some ((-1), (sv σ 20 0))
      else
        if x1 = 0 then
          some (σ.1 15, (sv σ 20 0))
        else
          if x1 = 1 then
            some (σ.1 1, (sv σ 20 0))
          else
            if x1 = 2 then
              some (σ.1 2, (sv σ 20 0))
            else
              if x1 = 3 then
                some (σ.1 4, (sv σ 20 0))
              else
                if x1 = 4 then
                  some (σ.1 5, (sv σ 20 0))
                else
                  if x1 = 5 then
                    some (σ.1 16, (sv σ 20 0))
                  else
                    if x1 = 6 then
                      some (σ.1 17, (sv σ 20 0))
                    else
                      some (σ.1 3, (sv σ 20 0))
    else
      gw_bind (F_Mo_thrownBy (σ) 1) fun r15 σ16 =>
        some (r15, σ16)
def F_Mo_isThing (σ : St) (x1 : Int32) : Option (Int32 × St) :=
  if (σ.1 13) = 0 then
    some (0, σ)
  else
    if x1 < 0 then
      some (0, σ)
    else
      if (σ.1 1) ≤ x1 then
        some (0, σ)
      else
        some (1, σ)
def F_Mo_thing (σ : St) (x1 : Int32) : Option (Int32 × St) :=
  gw_bind (F_Mo_isThing (σ) x1) fun r2 σ3 =>
    if r2 = 0 then
      gw_bind (F_Mo_thrownBy (σ3) 1) fun r7 σ8 =>
        some (r7, σ8)
    else
      if gw_in x1 1000 then
        some (σ3.2.1 5 x1.toNatClampNeg, (sv σ3 20 0))
      else none
def F_Mo_worked (σ : St) (x1 : Int32) (x2 : Int32) : Option (Int32 × St) :=
  gw_bind (F_Mo_isThing (σ) x1) fun r2 σ3 =>
    if r2 = 0 then
      gw_bind (F_Mo_thrownBy (σ3) 1) fun r19 σ20 =>
        some (r19, σ20)
    else
      if x2 < 0 then
        gw_bind (F_Mo_thrownBy (σ3) 2) fun r7 σ8 =>
          some (r7, σ8)
      else
        if x2 ≤ 2 then
          if x2 = 0 then
            if gw_in x1 1000 then
              some (σ3.2.1 11 x1.toNatClampNeg, (sv σ3 20 0))
            else none
          else
            if x2 = 1 then
              if gw_in x1 1000 then
                some (σ3.2.1 12 x1.toNatClampNeg, (sv σ3 20 0))
              else none
            else
              if gw_in x1 1000 then
                some (σ3.2.1 6 x1.toNatClampNeg, (sv σ3 20 0))
              else none
        else
          gw_bind (F_Mo_thrownBy (σ3) 2) fun r16 σ17 =>
            some (r16, σ17)
def K_Mo_ring_25 : Nat → St → Int32 → Int32 → Int32 → Int32 → Option (Int32 × St)
  | 0, _, _, _, _, _ => none
  | n + 1, σ, x1, x2, x3, x4 =>
    if (σ.1 4) ≤ x4 then
      gw_bind (F_Mo_thrownBy (σ) 1) fun r8 σ9 =>
        some (r8, σ9)
    else
      if gw_in x4 300 then
        if (σ.2.1 16 x4.toNatClampNeg) = 0 then
          if x3 = 0 then
            if gw_in x4 300 then
              if (σ.2.1 17 x4.toNatClampNeg) = (σ.1 18) then
                if x2 = x1 then
                  if gw_in x4 300 then
                    some (σ.2.1 17 x4.toNatClampNeg, (sv σ 20 0))
                  else none
                else
                  K_Mo_ring_25 n (σ) x1 (x2 + 1) 1 (x4 + 1)
              else
                K_Mo_ring_25 n (σ) x1 (x2 + 0) 0 (x4 + 1)
            else none
          else
            if x2 = x1 then
              if gw_in x4 300 then
                some (σ.2.1 17 x4.toNatClampNeg, (sv σ 20 0))
              else none
            else
              K_Mo_ring_25 n (σ) x1 (x2 + 1) 1 (x4 + 1)
        else
          K_Mo_ring_25 n (σ) x1 x2 x3 (x4 + 1)
      else none
def F_Mo_ring (σ : St) (x1 : Int32) : Option (Int32 × St) :=
  if (σ.1 13) = 3 then
    if 0 ≤ x1 then
      K_Mo_ring_25 gw_N (σ) x1 0 0 0
    else
      gw_bind (F_Mo_thrownBy (σ) 1) fun r26 σ27 =>
        some (r26, σ27)
  else
    gw_bind (F_Mo_thrownBy (σ) 1) fun r3 σ4 =>
      some (r3, σ4)
def F_Mo_entry (σ : St) (x1 : Int32) : Option (Int32 × St) :=
  if (σ.1 13) = 0 then
    gw_bind (F_Mo_thrownBy (σ) 1) fun r3 σ4 =>
      some (r3, σ4)
  else
    if x1 < 0 then
      gw_bind (F_Mo_thrownBy (σ) 1) fun r7 σ8 =>
        some (r7, σ8)
    else
      if x1 < (σ.1 4) then
        if gw_in x1 300 then
          some (σ.2.1 16 x1.toNatClampNeg, (sv σ 20 0))
        else none
      else
        gw_bind (F_Mo_thrownBy (σ) 1) fun r12 σ13 =>
          some (r12, σ13)
def F_Mo_collect (σ : St) : Option (Int32 × St) :=
  if (σ.1 13) = 0 then
    gw_bind (F_Mo_thrownBy (σ) 1) fun r6 σ7 =>
      some (r6, σ7)
  else
    gw_bind (F_Mo_sweep (sv σ 20 0)) fun r3 σ4 =>
      some (r3, σ4)
def F_Mo_every (σ : St) (x1 : Int32) : Option (Int32 × St) :=
  if x1 < 0 then
    gw_bind (F_Mo_thrownBy (σ) 1) fun r3 σ4 =>
      some (r3, σ4)
  else
    if x1 ≤ 5000 then
      some (σ.1 19, (sv (sv σ 20 0) 19 x1))
    else
      gw_bind (F_Mo_thrownBy (σ) 1) fun r7 σ8 =>
        some (r7, σ8)
