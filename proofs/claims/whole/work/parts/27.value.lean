/-! PURE, 7: a step with a value at hand, and the step -/
theorem upd_same (f : Nat → Int32) (k : Nat) {x : Int32} (h : f k = x) : upd f k x = f := by
  subst h
  funext j
  by_cases e : j = k
  · subst e; exact pk_us
  · exact pk_un e
theorem pM_same {τ : St} {m : Nat} {z a b : Int32} (h4 : τ.1 4 = nI (m + 1)) (ha : τ.2.1 17 m = a) (hb : τ.2.1 18 m = b) (e : Int32) (v : Int64) : pM (sv τ 4 z) m e a b v = sg (sa τ 16 m e) 2 m v := by
  have h1 : up (up τ.1 4 z) 4 (nI (m + 1)) = τ.1 := by
    funext j
    by_cases q : j = 4
    · subst q; rw [up_self, h4]
    · rw [up_ne _ _ q, up_ne _ _ q]
  have h2 : up (up (up τ.2.1 16 (upd (τ.2.1 16) m e)) 17 (upd (τ.2.1 17) m a)) 18 (upd (τ.2.1 18) m b) = up τ.2.1 16 (upd (τ.2.1 16) m e) := by
    funext j
    by_cases q : j = 18
    · subst q; rw [up_self, up_ne _ _ (by omega), upd_same _ _ hb]
    · rw [up_ne _ _ q]
      by_cases q : j = 17
      · subst q; rw [up_self, up_ne _ _ (by omega), upd_same _ _ ha]
      · rw [up_ne _ _ q]
  show (up (up τ.1 4 z) 4 (nI (m + 1)), up (up (up τ.2.1 16 (upd (τ.2.1 16) m e)) 17 (upd (τ.2.1 17) m a)) 18 (upd (τ.2.1 18) m b), _) = _
  rw [h1, h2]
  rfl
theorem tmo_act {lk : Nat → Nat} {t : Nat} {x0 x1 x2 x3 : Int32} {xn : Int64} {y0 y1 y2 y3 : Int32} {yn : Int64} (h : tmo lk t x0 x1 x2 x3 xn y0 y1 y2 y3 yn) (h8 : x0 = 8) : ∃ o : Nat, o < 6 ∧ y0 = nI (8 + o) ∧ x3 = nI o ∧ ∃ b : Nat, b < t ∧ x2 = nI b ∧ y2 = nI b ∧ lk b ≤ lk t := by
  rcases h with ⟨x, _⟩ | ⟨x, _⟩ | ⟨x, _⟩ | ⟨x, _⟩ | ⟨x, _⟩ | ⟨x, _⟩ | ⟨x, _⟩ | ⟨x, _⟩ | ⟨x, o, q1, q2, q3, a, b, q4, q5, q6, q7, q8, q9, q10, q11⟩ | ⟨x, _⟩
  all_goals first | exact absurd (x.symm.trans h8) (by decide) | exact ⟨o, q1, q2, q3, b, q5, q8, q9, q11⟩
theorem tmo_ch {lk : Nat → Nat} {t : Nat} {x0 x1 x2 x3 : Int32} {xn : Int64} {y0 y1 y2 y3 : Int32} {yn : Int64} (h : tmo lk t x0 x1 x2 x3 xn y0 y1 y2 y3 yn) (h9 : x0 = 9) : ∃ a b : Nat, a < t ∧ b < t ∧ x2 = nI a ∧ y1 = nI a ∧ x3 = nI b ∧ y2 = nI b ∧ lk a ≤ lk t ∧ lk b ≤ lk t := by
  rcases h with ⟨x, _⟩ | ⟨x, _⟩ | ⟨x, _⟩ | ⟨x, _⟩ | ⟨x, _⟩ | ⟨x, _⟩ | ⟨x, _⟩ | ⟨x, _⟩ | ⟨x, _⟩ | ⟨x, _, c, a, b, _, q1, q2, _, _, q3, q4, q5, q6, _, q7, q8⟩
  all_goals first | exact absurd (x.symm.trans h9) (by decide) | exact ⟨a, b, q1, q2, q3, q4, q5, q6, q7, q8⟩
theorem act_m : ∀ o, o < 6 → nI (8 + o) - 8 = nI o := by decide +kernel
theorem res_ok {o : Nat} (ho : o < 6) (x v : Int64) (hz : ¬ (o = 3 ∧ v = 0)) :
    ∃ r : Int64, (∀ σ : St, F_Wa_resultOf σ (nI o) x v = some (r, σ)) ∧ (∀ τ : St, K_Mo_act_18 τ (nI o) x v = some (sv (sv (sw (sv (sv (sv τ 4 (τ.1 4 - 1)) 6 1) 10 0) 0 r) 11 (-1)) 12 (-1))) := by
  rcases (show o = 0 ∨ o = 1 ∨ o = 2 ∨ o = 3 ∨ o = 4 ∨ o = 5 by omega) with rfl | rfl | rfl | rfl | rfl | rfl
  · exact ⟨_, fun _ => ip rfl rfl, fun _ => ip rfl rfl⟩
  · exact ⟨_, fun _ => iN (by decide) (ip rfl rfl), fun _ => iN (by decide) (ip rfl rfl)⟩
  · exact ⟨_, fun _ => iN (by decide) (iN (by decide) (ip rfl rfl)), fun _ => iN (by decide) (iN (by decide) (ip rfl rfl))⟩
  · have hv : ¬ v = 0 := fun q => hz ⟨rfl, q⟩
    exact ⟨_, fun _ => iN (by decide) (iN (by decide) (iN (by decide) (ip rfl (iN (fun q => hv ((lg_cmp_eq _ _).mp q)) (ip hv rfl))))), fun _ => iN (by decide) (iN (by decide) (iN (by decide) (ip rfl (ip hv rfl))))⟩
  · by_cases c : lg_cmp x v = 0
    · exact ⟨_, fun _ => iN (by decide) (iN (by decide) (iN (by decide) (iN (by decide) (ip rfl (ip c rfl))))), fun _ => iN (by decide) (iN (by decide) (iN (by decide) (iN (by decide) (ip rfl (ip c rfl)))))⟩
    · exact ⟨_, fun _ => iN (by decide) (iN (by decide) (iN (by decide) (iN (by decide) (ip rfl (iN c rfl))))), fun _ => iN (by decide) (iN (by decide) (iN (by decide) (iN (by decide) (ip rfl (iN c rfl)))))⟩
  · by_cases c : 0 ≤ lg_cmp x v
    · exact ⟨_, fun _ => iN (by decide) (iN (by decide) (iN (by decide) (iN (by decide) (iN (by decide) (ip c rfl))))), fun _ => iN (by decide) (iN (by decide) (iN (by decide) (iN (by decide) (iN (by decide) (ip c rfl)))))⟩
    · exact ⟨_, fun _ => iN (by decide) (iN (by decide) (iN (by decide) (iN (by decide) (iN (by decide) (iN c rfl))))), fun _ => iN (by decide) (iN (by decide) (iN (by decide) (iN (by decide) (iN (by decide) (iN c rfl)))))⟩
section
variable {R tm : Nat} {lk : Nat → Nat} {th tr pl ln gr gm : Nat} {GP : Nat → Prop} {σ τ : St}
theorem step_value {m : Nat} (h : Mid R tm lk th tr pl (m + 1) gr gr GP σ τ) (hH : HH tm lk th pl GP σ τ) (hh : σ.1 2 = 1) (hh' : τ.1 6 = 1) (o : σ.1 0 = 1) (o' : τ.1 13 = 1) (hv : σ.1 19 = τ.1 10) (vo : VO (LD tm lk (σ.2.1 1)) th (σ.2.1 8) (σ.2.1 6) pl GP (σ.1 19) (σ.2.2.1 0) (σ.1 20) (σ.1 21) (τ.2.2.1 0) (τ.1 11) (τ.1 12)) :
    ∃ σ' τ', F_Wa_stepWithValue σ = some σ' ∧ F_Mo_goOnWithValue τ = some τ' ∧ Post R tm lk gr σ' τ' := by
  obtain ⟨⟨c1, c2, hR⟩, hA, ⟨s1, s2, s3, s4, s5, s6, s7, s8, s9, s10, s11, s12, s13, s14, s15, s16, s17⟩, hP, hK, hE, hL⟩ := id h
  have hr2 := hR.1
  have ec : (nI m).toNatClampNeg = m := nI_clamp (by omega)
  have i3 : m < 300 := by omega
  have j3 : (300 : Nat) < 2 ^ 31 := by omega
  have hh2 : σ.1 2 = τ.1 6 := hh.trans hh'.symm
  have eN : F_Ro_newest σ = some (nI m, σ) := by unfold F_Ro_newest; rw [s10, nI_pred]
  obtain ⟨g1, g2, g3, g4⟩ := Ro_get s10 s12 (show m < m + 1 by omega)
  have wrong : Post R tm lk gr (sv σ 0 4) (sv τ 13 4) := ⟨th, tr, pl, m + 1, gr, GP, h, hH, hh2, rfl, Or.inr (Or.inr (Or.inl rfl))⟩
  obtain ⟨y0, q⟩ := hE m (by omega)
  rcases q with ⟨k0, ksh, kk, k, hk, k1, hs⟩ | ⟨k0, kk, k, hk, k1, hs⟩ | ⟨k0, kk, kx, hx, t, d, k1, hat, htd, hd⟩ | ⟨k0, kk, kn, t, k1, hat⟩ | ⟨k0, kk, kx, hx, t, d, k1, hch, htd, hd⟩ | k0 | k0
  · -- IT WAS THAT
    have y1 : τ.2.1 17 m = nI k := kk.symm.trans k1
    have eck : (nI k).toNatClampNeg = k := nI_clamp (by omega)
    have i4 : k < 1000 := by omega
    have j4 : (1000 : Nat) < 2 ^ 31 := by omega
    refine pk2 (bi eN (bi (by rw [g1, k0]) (ip rfl (bi (by rw [g2, k1]) (bv (Th_finish s1 s3 hk) (bv (Ro_drop (σ := fC σ k (σ.1 19) (σ.2.2.1 0) (σ.1 20) (σ.1 21)) s10 i3) rfl)))))) (τ' := sv (fM τ k (σ.1 19) (τ.2.2.1 0) (τ.1 11) (τ.1 12)) 4 (nI m)) (by
      unfold F_Mo_goOnWithValue; rw [s11, nI_pred, ec, ← y0, k0, y1, eck]
      exact ig i3 j3 (ip rfl (ig i3 j3 (ig i4 j4 (ig i4 j4 (ig i4 j4 (ig i4 j4 (ig i4 j4 (by rw [hv]; rfl))))))))) ?_
    exact ⟨th, tr, pl, m, gr, GP, Mid_drop (Mid_done h hk hs vo), Or.inr (Or.inl ⟨hh, hv, VO_ext (Ext_st (c := 2) (by decide)) vo⟩), hh2, o.trans o'.symm, Or.inl o⟩
  · -- GIVE IT
    have y1 : τ.2.1 17 m = nI k := kk.symm.trans k1
    by_cases so : σ.1 19 = 1
    · have so' : τ.1 10 = 1 := hv.symm.trans so
      rcases vo with ⟨v0, _⟩ | ⟨_, v2, v3, t, a, d, v4, v5, v6, v7⟩ | ⟨v0, _⟩
      · exact absurd (v0.symm.trans so) (by decide)
      · obtain ⟨l1, l2, l3, l4⟩ := v6
        have eR : nI (m + 1) + (-1) = nI m := (Int32.sub_eq_add_neg _ _).symm.trans (nI_pred m)
        by_cases hp : pl < 1000
        · obtain ⟨-, t1, -⟩ := Te_get (σ := sv σ 17 (nI m)) c1 hr2 l1
          have hM := Mid_place (Mid_drop h) hp hk hs v3
          refine pk2 (bi eN (bi (by rw [g1, k0]) (iN (by decide) (ip rfl (bi (by rw [g2, k1]) (bv (ip so (bi (Pl_full0 s7 hp) (ip rfl (bv (Ro_drop s10 i3) (bi (by show F_Te_firstOf _ (σ.1 20) = _; rw [v4]; exact t1) (bi (Pl_add (σ := sv σ 17 (nI m)) s7 hp _ _) (bv rfl rfl))))))) rfl)))))) (τ' := sv (sv (sv (lM (sv τ 4 (nI m)) pl (nI k) (σ.1 21)) 6 0) 7 (nI a)) 8 (nI pl)) (by
            unfold F_Mo_goOnWithValue; rw [s11, nI_pred, ec, ← y0, k0]
            refine ig i3 j3 (iN (by decide) (ip rfl ?_))
            unfold K_Mo_goOnWithValue_97
            rw [ec]
            refine ip so' (ip rfl (bi (Mo_room1 (a := 0) (b := 1) s2 s5 s8 s11 eR (by omega) (by omega) (by omega) (by omega)) (iN one_ne0 (ig i3 j3 (bi (by rw [y1, ← v2]; exact Mo_newPlace (τ := sv τ 4 (nI m)) s8 hp _ _) (bv (by rw [v5]; rfl) rfl))))))) ?_
          refine ⟨th, tr, pl + 1, m, gr, _, hM, Or.inl ⟨rfl, l3, rfl, Or.inr ⟨pl, rfl, Or.inr rfl⟩, a, d + 1, l3, ⟨l2, l4⟩, ⟨pl, by omega, rfl, ?_⟩⟩, rfl, o.trans o'.symm, Or.inl o⟩
          show Dp (upd (σ.2.1 6) pl (σ.1 21)) (pl + 1) (upd (σ.2.1 6) pl (σ.1 21) pl) d
          rw [pk_us]
          exact Dp_ext (by omega) (fun p hp => pk_un (by omega)) _ _ v7
        · refine pk2 (bi eN (bi (by rw [g1, k0]) (iN (by decide) (ip rfl (bi (by rw [g2, k1]) (bv (ip so (bi (Pl_full1 s7 (by omega)) (iN one_ne0 rfl))) rfl)))))) (τ' := sv τ 13 5) (by
            unfold F_Mo_goOnWithValue; rw [s11, nI_pred, ec, ← y0, k0]
            refine ig i3 j3 (iN (by decide) (ip rfl ?_))
            exact ip so' (ip rfl (bi (Mo_room0 (a := 0) (b := 1) s2 s5 s8 s11 eR (by omega) (by omega) (by omega) (by omega) (Or.inr (Or.inr (Or.inl (by omega))))) (ip rfl rfl)))) ?_
          exact ⟨th, tr, pl, m + 1, gr, GP, h, hH, hh2, rfl, Or.inr (Or.inr (Or.inr rfl))⟩
      · exact absurd (v0.symm.trans so) (by decide)
    · exact pk2 (bi eN (bi (by rw [g1, k0]) (iN (by decide) (ip rfl (bi (by rw [g2, k1]) (bv (iN so rfl) rfl)))))) (by
        unfold F_Mo_goOnWithValue; rw [s11, nI_pred, ec, ← y0, k0]
        exact ig i3 j3 (iN (by decide) (ip rfl (iN (by rw [← hv]; exact so) rfl)))) wrong
  · -- THEN B
    have y1 : τ.2.1 17 m = nI t := kk.symm.trans k1
    have i4 : t < 200 := by have := hat.1; omega
    have j4 : (200 : Nat) < 2 ^ 31 := by omega
    have ect : (nI t).toNatClampNeg = t := nI_clamp (by omega)
    by_cases so : σ.1 19 = 0
    · have so' : τ.1 10 = 0 := hv.symm.trans so
      have vn : σ.2.2.1 0 = τ.2.2.1 0 := by
        rcases vo with ⟨_, v⟩ | ⟨v, _⟩ | ⟨v, _⟩
        · exact v
        · exact absurd (v.symm.trans so) (by decide)
        · exact absurd (v.symm.trans so) (by decide)
      obtain ⟨-, -, -, qt⟩ := hR.2 t hat.1
      obtain ⟨oo, ho, z0, z3, b, hb, z1, z2, hlb⟩ := tmo_act qt hat.2
      have hM := Mid_push (Mid_drop h) i3 (e := 3) (a := nI t) (b := -1) (v := σ.2.2.1 0) (a' := nI t) (b' := τ.2.1 18 m) (v' := τ.2.2.1 0) ⟨rfl, Or.inr (Or.inr (Or.inr (Or.inl ⟨rfl, rfl, vn, t, rfl, hat⟩)))⟩
      rw [pM_same s11 y1 rfl] at hM
      obtain ⟨-, -, t2, -⟩ := Te_get (σ := pC (sv σ 17 (nI m)) m 3 (nI t) (-1) (σ.2.2.1 0) (max gr (m + 1))) c1 hr2 hat.1
      refine pk2 (bi eN (bi (by rw [g1, k0]) (iN (by decide) (iN (by decide) (ip rfl (bi (by rw [g2, k1]) (bi g3 (bv (ip so (bv (Ro_drop s10 i3) (bv (Ro_add (σ := sv σ 17 (nI m)) (ln := m) rfl s13 i3 s16 _ _ _ _) (bi t2 (bv rfl rfl))))) rfl)))))))) (τ' := sv (sv (sv (sg (sa τ 16 m 3) 2 m (τ.2.2.1 0)) 6 0) 7 (nI b)) 8 (τ.2.1 18 m)) (by
        unfold F_Mo_goOnWithValue; rw [s11, nI_pred, ec, ← y0, k0]
        refine ig i3 j3 (iN (by decide) (iN (by decide) (iN (by decide) ?_)))
        unfold K_Mo_goOnWithValue_97
        rw [ec, y1, ect, z2]
        exact ip so' (iN (by decide) (ip rfl (ig i3 j3 (ig i3 j3 (ig i3 j3 (ig i4 j4 (ig i3 j3 (bv rfl rfl))))))))) ?_
      refine ⟨th, tr, pl, m + 1, max gr (m + 1), GP, hM, Or.inl ⟨rfl, z1, kx, hx, b, d, z1, ⟨by have := hat.1; omega, by have := htd.2; omega⟩, hd⟩, rfl, o.trans o'.symm, Or.inl o⟩
    · exact pk2 (bi eN (bi (by rw [g1, k0]) (iN (by decide) (iN (by decide) (ip rfl (bi (by rw [g2, k1]) (bi g3 (bv (iN so rfl) rfl)))))))) (by
        unfold F_Mo_goOnWithValue; rw [s11, nI_pred, ec, ← y0, k0]
        exact ig i3 j3 (iN (by decide) (iN (by decide) (iN (by decide) (iN (by rw [← hv]; exact so) rfl))))) wrong
  · -- ACT WITH IT
    have y1 : τ.2.1 17 m = nI t := kk.symm.trans k1
    have i4 : t < 200 := by have := hat.1; omega
    have j4 : (200 : Nat) < 2 ^ 31 := by omega
    have ect : (nI t).toNatClampNeg = t := nI_clamp (by omega)
    obtain ⟨-, -, -, qt⟩ := hR.2 t hat.1
    obtain ⟨oo, ho, z0, z3, b, hb, z1, z2, hlb⟩ := tmo_act qt hat.2
    obtain ⟨-, -, -, t3, -⟩ := Te_get c1 hr2 hat.1
    have eC : ∀ z, F_Wa_actWith σ (nI oo) (σ.2.2.2 2 m) = some z → F_Wa_stepWithValue σ = some z := fun z hz => bi eN (bi (by rw [g1, k0]) (iN (by decide) (iN (by decide) (iN (by decide) (ip rfl (bi (by rw [g2, k1]) (bi (by rw [t3, z3]) (bi g4 (bv hz rfl)))))))))
    have eM : ∀ z, τ.1 10 = 0 → F_Mo_act τ (nI oo) (σ.2.2.2 2 m) (τ.2.2.1 0) = some z → F_Mo_goOnWithValue τ = some z := by
      intro z so' hz
      unfold F_Mo_goOnWithValue; rw [s11, nI_pred, ec, ← y0, k0]
      refine ig i3 j3 (iN (by decide) (iN (by decide) (iN (by decide) ?_)))
      unfold K_Mo_goOnWithValue_97
      rw [ec, y1, ect, z0, act_m oo ho, ← kn]
      exact ip so' (iN (by decide) (iN (by decide) (ip rfl (ig i3 j3 (ig i4 j4 (ig i3 j3 (bv hz rfl)))))))
    by_cases so : σ.1 19 = 0
    · have so' : τ.1 10 = 0 := hv.symm.trans so
      have vn : σ.2.2.1 0 = τ.2.2.1 0 := by
        rcases vo with ⟨_, v⟩ | ⟨v, _⟩ | ⟨v, _⟩
        · exact v
        · exact absurd (v.symm.trans so) (by decide)
        · exact absurd (v.symm.trans so) (by decide)
      have lz : ∀ v : Int64, lg_cmp v 0 = 0 ↔ v = 0 := fun v => lg_cmp_eq v 0
      by_cases hz : oo = 3 ∧ σ.2.2.1 0 = 0
      · refine pk2 (eC _ (ip so (ip (by rw [hz.1]; rfl) (ip ((lz _).mpr hz.2) rfl)))) (eM _ so' (ip (by rw [hz.1]; rfl) (ip ((lz _).mpr (by rw [← vn]; exact hz.2)) rfl))) wrong
      · obtain ⟨r, r1, r2⟩ := res_ok ho (σ.2.2.2 2 m) (σ.2.2.1 0) hz
        have kC : K_Wa_actWith_33 σ (nI oo) (σ.2.2.2 2 m) = some (sv (sv (sw (sv (sv σ 17 (nI m)) 19 0) 0 r) 20 (-1)) 21 (-1)) := bv (Ro_drop s10 i3) (bi (r1 (sv σ 17 (nI m))) (bv (bv rfl rfl) rfl))
        have kM : K_Mo_act_18 τ (nI oo) (σ.2.2.2 2 m) (τ.2.2.1 0) = some (sv (sv (sw (sv (sv (sv τ 4 (nI m)) 6 1) 10 0) 0 r) 11 (-1)) 12 (-1)) := by
          rw [← vn, r2 τ, s11, nI_pred]
        have P : Post R tm lk gr (sv (sv (sw (sv (sv σ 17 (nI m)) 19 0) 0 r) 20 (-1)) 21 (-1)) (sv (sv (sw (sv (sv (sv τ 4 (nI m)) 6 1) 10 0) 0 r) 11 (-1)) 12 (-1)) := ⟨th, tr, pl, m, gr, GP, Mid_drop h, Or.inr (Or.inl ⟨hh, rfl, Or.inl ⟨rfl, rfl⟩⟩), hh, o.trans o'.symm, Or.inl o⟩
        by_cases h3 : oo = 3
        · exact pk2 (eC _ (ip so (ip (by rw [h3]; rfl) (iN (fun q => hz ⟨h3, (lz _).mp q⟩) kC)))) (eM _ so' (ip (by rw [h3]; rfl) (iN (fun q => hz ⟨h3, vn.trans ((lz _).mp q)⟩) kM))) P
        · have h3' : ¬ nI oo = 3 := nI_ne (b := 3) h3 (by omega) (by omega)
          exact pk2 (eC _ (ip so (iN h3' kC))) (eM _ so' (iN h3' kM)) P
    · exact pk2 (eC _ (iN so rfl)) (by
        unfold F_Mo_goOnWithValue; rw [s11, nI_pred, ec, ← y0, k0]
        exact ig i3 j3 (iN (by decide) (iN (by decide) (iN (by decide) (iN (by rw [← hv]; exact so) rfl))))) wrong
  · -- CHOOSE ONE
    have y1 : τ.2.1 17 m = nI t := kk.symm.trans k1
    have i4 : t < 200 := by have := hch.1; omega
    have j4 : (200 : Nat) < 2 ^ 31 := by omega
    have ect : (nI t).toNatClampNeg = t := nI_clamp (by omega)
    obtain ⟨-, -, -, qt⟩ := hR.2 t hch.1
    obtain ⟨a, b, ha, hb, z1, z2, z3, z4, hla, hlb⟩ := tmo_ch qt hch.2
    obtain ⟨-, -, t2, t3, -⟩ := Te_get (σ := sv σ 17 (nI m)) c1 hr2 hch.1
    by_cases so : σ.1 19 = 0
    · have so' : τ.1 10 = 0 := hv.symm.trans so
      have vn : σ.2.2.1 0 = τ.2.2.1 0 := by
        rcases vo with ⟨_, v⟩ | ⟨v, _⟩ | ⟨v, _⟩
        · exact v
        · exact absurd (v.symm.trans so) (by decide)
        · exact absurd (v.symm.trans so) (by decide)
      by_cases hz : lg_cmp (σ.2.2.1 0) 0 = 0
      · refine pk2 (bi eN (bi (by rw [g1, k0]) (iN (by decide) (iN (by decide) (iN (by decide) (iN (by decide) (ip rfl (bi (by rw [g2, k1]) (bi g3 (bv (ip so (bv (Ro_drop s10 i3) (ip hz (bi t3 (bv rfl rfl))))) rfl)))))))))) (τ' := sv (sv (sv (sv τ 4 (nI m)) 6 0) 7 (nI b)) 8 (τ.2.1 18 m)) (by
          unfold F_Mo_goOnWithValue; rw [s11, nI_pred, ec, ← y0, k0]
          refine ig i3 j3 (iN (by decide) (iN (by decide) (iN (by decide) ?_)))
          unfold K_Mo_goOnWithValue_97
          rw [ec, y1, ect, z4]
          exact ip so' (iN (by decide) (iN (by decide) (iN (by decide) (ip rfl (ip (by rw [← vn]; exact hz) (ig i3 j3 (ig i4 j4 (ig i3 j3 (bv rfl rfl)))))))))) ?_
        exact ⟨th, tr, pl, m, gr, GP, Mid_drop (σ := σ) (τ := τ) h, Or.inl ⟨rfl, z3, kx, hx, b, d, z3, ⟨by have := hch.1; omega, by have := htd.2; omega⟩, hd⟩, rfl, o.trans o'.symm, Or.inl o⟩
      · refine pk2 (bi eN (bi (by rw [g1, k0]) (iN (by decide) (iN (by decide) (iN (by decide) (iN (by decide) (ip rfl (bi (by rw [g2, k1]) (bi g3 (bv (ip so (bv (Ro_drop s10 i3) (iN hz (bi t2 (bv rfl rfl))))) rfl)))))))))) (τ' := sv (sv (sv (sv τ 4 (nI m)) 6 0) 7 (nI a)) 8 (τ.2.1 18 m)) (by
          unfold F_Mo_goOnWithValue; rw [s11, nI_pred, ec, ← y0, k0]
          refine ig i3 j3 (iN (by decide) (iN (by decide) (iN (by decide) ?_)))
          unfold K_Mo_goOnWithValue_97
          rw [ec, y1, ect, z2]
          exact ip so' (iN (by decide) (iN (by decide) (iN (by decide) (ip rfl (iN (by rw [← vn]; exact hz) (ig i3 j3 (ig i4 j4 (ig i3 j3 (bv rfl rfl)))))))))) ?_
        exact ⟨th, tr, pl, m, gr, GP, Mid_drop (σ := σ) (τ := τ) h, Or.inl ⟨rfl, z1, kx, hx, a, d, z1, ⟨by have := hch.1; omega, by have := htd.2; omega⟩, hd⟩, rfl, o.trans o'.symm, Or.inl o⟩
    · exact pk2 (bi eN (bi (by rw [g1, k0]) (iN (by decide) (iN (by decide) (iN (by decide) (iN (by decide) (ip rfl (bi (by rw [g2, k1]) (bi g3 (bv (iN so rfl) rfl)))))))))) (by
        unfold F_Mo_goOnWithValue; rw [s11, nI_pred, ec, ← y0, k0]
        exact ig i3 j3 (iN (by decide) (iN (by decide) (iN (by decide) (iN (by rw [← hv]; exact so) rfl))))) wrong
  · -- TAKE FIRST
    by_cases so : σ.1 19 = 2
    · have so' : τ.1 10 = 2 := hv.symm.trans so
      rcases vo with ⟨v0, _⟩ | ⟨v0, _⟩ | ⟨_, k1, k2, l1, l2, m1, m2, m3, m4, n1, n2⟩
      · exact absurd (v0.symm.trans so) (by decide)
      · exact absurd (v0.symm.trans so) (by decide)
      · obtain ⟨σ', τ', u1, u2, u3⟩ := need_ok h hH hh2 o o' l1 n1 (q := 1) (Or.inr ⟨rfl, by omega⟩)
        refine ⟨σ', τ', bi eN (bi (by rw [g1, k0]) (iN (by decide) (iN (by decide) (iN (by decide) (iN (by decide) (iN (by decide) (ip rfl (bv (ip so (bv (by rw [m1]; exact u1) rfl)) rfl)))))))), ?_, u3⟩
        unfold F_Mo_goOnWithValue; rw [s11, nI_pred, ec, ← y0, k0]
        exact ig i3 j3 (iN (by decide) (iN (by decide) (ip (by decide) (ip so' (iN (by decide) (iN (by decide) (iN (by decide) (iN (by decide) (ip rfl (bv (by rw [m2]; exact u2) rfl))))))))))
    · exact pk2 (bi eN (bi (by rw [g1, k0]) (iN (by decide) (iN (by decide) (iN (by decide) (iN (by decide) (iN (by decide) (ip rfl (bv (iN so rfl) rfl))))))))) (by
        unfold F_Mo_goOnWithValue; rw [s11, nI_pred, ec, ← y0, k0]
        exact ig i3 j3 (iN (by decide) (iN (by decide) (ip (by decide) (iN (by rw [← hv]; exact so) rfl))))) wrong
  · -- TAKE SECOND
    by_cases so : σ.1 19 = 2
    · have so' : τ.1 10 = 2 := hv.symm.trans so
      rcases vo with ⟨v0, _⟩ | ⟨v0, _⟩ | ⟨_, k1, k2, l1, l2, m1, m2, m3, m4, n1, n2⟩
      · exact absurd (v0.symm.trans so) (by decide)
      · exact absurd (v0.symm.trans so) (by decide)
      · obtain ⟨σ', τ', u1, u2, u3⟩ := need_ok h hH hh2 o o' l2 n2 (q := 1) (Or.inr ⟨rfl, by omega⟩)
        refine ⟨σ', τ', bi eN (bi (by rw [g1, k0]) (iN (by decide) (iN (by decide) (iN (by decide) (iN (by decide) (iN (by decide) (iN (by decide) (ip rfl (bv (ip so (bv (by rw [m3]; exact u1) rfl)) rfl))))))))), ?_, u3⟩
        unfold F_Mo_goOnWithValue; rw [s11, nI_pred, ec, ← y0, k0]
        exact ig i3 j3 (iN (by decide) (iN (by decide) (ip (by decide) (ip so' (iN (by decide) (iN (by decide) (iN (by decide) (iN (by decide) (iN (by decide) (bv (by rw [m4]; exact u2) rfl))))))))))
    · exact pk2 (bi eN (bi (by rw [g1, k0]) (iN (by decide) (iN (by decide) (iN (by decide) (iN (by decide) (iN (by decide) (iN (by decide) (ip rfl (bv (iN so rfl) rfl)))))))))) (by
        unfold F_Mo_goOnWithValue; rw [s11, nI_pred, ec, ← y0, k0]
        exact ig i3 j3 (iN (by decide) (iN (by decide) (ip (by decide) (iN (by rw [← hv]; exact so) rfl))))) wrong
/-- a run, n rounds in -/
def RR (R tm : Nat) (lk : Nat → Nat) (σ τ : St) : Prop := ∃ (th tr pl ln gr : Nat) (GP : Nat → Prop), Mid R tm lk th tr pl ln gr gr GP σ τ ∧ HH tm lk th pl GP σ τ ∧ σ.1 2 = τ.1 6 ∧ σ.1 0 = τ.1 13 ∧ RO ln σ τ
theorem step_end (h : Post R tm lk gm σ τ) : ∃ σ' τ', K_Wa_step_72 σ = some σ' ∧ K_Mo_step_48 τ = some τ' ∧ RR R tm lk σ' τ' := by
  obtain ⟨th, tr, pl, ln, gr, GP, hM, hH, hh, ho, oo⟩ := h
  obtain ⟨hT, hA, ⟨s1, s2, s3, s4, s5, s6, s7, s8, s9, s10, s11, s12, s13, s14, s15, s16, s17⟩, hP, hK, hE, hL⟩ := hM
  have eM : F_Mo_more τ (τ.1 5) (τ.1 4) = some (nI gr, τ) := by rw [s14, s11, s15]; exact Mo_more _ _ _ (by omega) (by omega)
  have hM2 : Mid R tm lk th tr pl ln gr gr GP σ (sv τ 5 (nI gr)) := ⟨hT, hA, ⟨s1, s2, s3, s4, s5, s6, s7, s8, s9, s10, s11, s12, s13, rfl, by omega, s16, s17⟩, hP, hK, hE, hL⟩
  by_cases h1 : σ.1 0 = 1
  · have h1' : τ.1 13 = 1 := ho.symm.trans h1
    by_cases h2 : σ.1 2 = 1
    · have h2' : τ.1 6 = 1 := hh.symm.trans h2
      by_cases h3 : ln = 0
      · subst h3
        exact pk2 (ip h1 (ip h2 (ip s10 rfl))) (bi eM (ip h1' (ip h2' (ip s11 rfl)))) ⟨th, tr, pl, 0, gr, GP, hM2, hH, hh, rfl, Or.inr (Or.inl ⟨rfl, h2, rfl⟩)⟩
      · exact pk2 (ip h1 (ip h2 (iN (by rw [s10]; exact nI_ne0 (by omega) (by omega)) rfl))) (bi eM (ip h1' (ip h2' (iN (by rw [s11]; exact nI_ne0 (by omega) (by omega)) rfl)))) ⟨th, tr, pl, ln, gr, GP, hM2, hH, hh, ho, Or.inl ⟨h1, fun _ => by omega⟩⟩
    · exact pk2 (ip h1 (iN h2 rfl)) (bi eM (ip h1' (iN (by rw [← hh]; exact h2) rfl))) ⟨th, tr, pl, ln, gr, GP, hM2, hH, hh, ho, Or.inl ⟨h1, fun q => absurd q h2⟩⟩
  · refine pk2 (iN h1 rfl) (bi eM (iN (by rw [← ho]; exact h1) rfl)) ⟨th, tr, pl, ln, gr, GP, hM2, hH, hh, ho, ?_⟩
    rcases oo with oo | oo | oo | oo
    · exact absurd oo h1
    · exact Or.inr (Or.inr (Or.inl oo))
    · exact Or.inr (Or.inr (Or.inr (Or.inl oo)))
    · exact Or.inr (Or.inr (Or.inr (Or.inr oo)))
theorem step_ok (h : RR R tm lk σ τ) (o : σ.1 0 = 1) : ∃ σ' τ', K_Wa_step_24 σ = some σ' ∧ F_Mo_step τ = some τ' ∧ RR R tm lk σ' τ' := by
  obtain ⟨th, tr, pl, ln, gr, GP, hM, hH, hh, ho, oo⟩ := h
  have o' : τ.1 13 = 1 := ho.symm.trans o
  have hln : σ.1 2 = 1 → 0 < ln := by
    rcases oo with ⟨_, q⟩ | ⟨q, _⟩ | ⟨q, _⟩ | q | q
    · exact q
    all_goals exact absurd (q.symm.trans o) (by decide)
  have hM2 : Mid R tm lk th tr pl ln gr gr GP (sv σ 6 (σ.1 6 + 1)) (sv τ 15 (τ.1 15 + 1)) := by
    obtain ⟨hT, hA, ⟨s1, s2, s3, s4, s5, s6, s7, s8, s9, s10, s11, s12, s13, s14, s15, s16, s17, s18⟩, hP, hK, hE, hL⟩ := hM
    exact ⟨hT, hA, ⟨s1, s2, s3, s4, s5, s6, s7, s8, s9, s10, s11, s12, s13, s14, s15, s16, by show σ.1 6 + 1 = τ.1 15 + 1; rw [s17], s18⟩, hP, hK, hE, hL⟩
  have hH2 : HH tm lk th pl GP (sv σ 6 (σ.1 6 + 1)) (sv τ 15 (τ.1 15 + 1)) := hH
  rcases hH with ⟨q0, q1, q2, q3, t, d, q4, q5, q6⟩ | ⟨q0, q1, q2⟩ | ⟨q0, q1, k, q2, q3, q4⟩
  · have q0' : τ.1 6 = 0 := hh.symm.trans q0
    obtain ⟨σ1, τ1, a1, a2, a3⟩ := step_term hM2 hH2 q0 q0' o o' q4 (q1.symm.trans q4) rfl q2.symm q5 q6 q3
    obtain ⟨σ2, τ2, b1, b2, b3⟩ := step_end a3
    exact ⟨σ2, τ2, ip q0 (bv a1 b1), iN (by rw [q0']; decide) (ip q0' (bv a2 b2)), b3⟩
  · have q0' : τ.1 6 = 1 := hh.symm.trans q0
    obtain ⟨m, rfl⟩ : ∃ m, ln = m + 1 := ⟨ln - 1, by have := hln q0; omega⟩
    obtain ⟨σ1, τ1, a1, a2, a3⟩ := step_value hM2 hH2 q0 q0' o o' q1 q2
    obtain ⟨σ2, τ2, b1, b2, b3⟩ := step_end a3
    exact ⟨σ2, τ2, iN (by rw [q0]; decide) (ip q0 (bv a1 b1)), iN (by rw [q0']; decide) (iN (by rw [q0']; decide) (bv a2 b2)), b3⟩
  · have q0' : τ.1 6 = 2 := hh.symm.trans q0
    obtain ⟨σ1, τ1, a1, a2, a3⟩ := need_ok hM2 hH2 hh o o' q2 q4 (q := 0) (Or.inl rfl)
    obtain ⟨σ2, τ2, b1, b2, b3⟩ := step_end a3
    exact ⟨σ2, τ2, iN (by rw [q0]; decide) (iN (by rw [q0]; decide) (bv (by rw [q3]; exact a1) b1)), ip q0' (bv (by rw [← q1, q3]; exact a2) b2), b3⟩
end
