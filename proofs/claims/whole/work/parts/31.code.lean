/-! PURE, 11: the reference's code is left alone by a step; run -/
def kp (c : Int32) (o : Option St) : Prop := ∀ x : St, o = some x → x.1 20 = c
def kq (c : Int32) (o : Option (Int32 × St)) : Prop := ∀ (v : Int32) (x : St), o = some (v, x) → x.1 20 = c
theorem kp_n {c : Int32} : kp c none := fun _ h => by cases h
theorem kq_n {c : Int32} : kq c none := fun _ _ h => by cases h
theorem kp_s {c : Int32} {x : St} (h : x.1 20 = c) : kp c (some x) := fun y e => by cases e; exact h
theorem kq_s {c v : Int32} {x : St} (h : x.1 20 = c) : kq c (some (v, x)) := fun _ y e => by cases e; exact h
theorem kp_i {c : Int32} {p : Prop} [Decidable p] {a b : Option St} (h1 : kp c a) (h2 : kp c b) : kp c (if p then a else b) := by
  by_cases h : p
  · rw [if_pos h]; exact h1
  · rw [if_neg h]; exact h2
theorem kq_i {c : Int32} {p : Prop} [Decidable p] {a b : Option (Int32 × St)} (h1 : kq c a) (h2 : kq c b) : kq c (if p then a else b) := by
  by_cases h : p
  · rw [if_pos h]; exact h1
  · rw [if_neg h]; exact h2
theorem kp_b {c : Int32} {o : Option (Int32 × St)} {f : Int32 → St → Option St} (h : kq c o) (k : ∀ (r : Int32) (t : St), t.1 20 = c → kp c (f r t)) : kp c (gw_bind o f) := fun x e => by
  obtain ⟨r, t, e1, e2⟩ := gw_bnd e
  exact k r t (h r t e1) x e2
theorem kq_b {c : Int32} {o : Option (Int32 × St)} {f : Int32 → St → Option (Int32 × St)} (h : kq c o) (k : ∀ (r : Int32) (t : St), t.1 20 = c → kq c (f r t)) : kq c (gw_bind o f) := fun v x e => by
  obtain ⟨r, t, e1, e2⟩ := gw_bnd e
  exact k r t (h r t e1) v x e2
theorem kp_v {c : Int32} {o : Option St} {f : St → Option St} (h : kp c o) (k : ∀ t : St, t.1 20 = c → kp c (f t)) : kp c (gw_bindv o f) := fun x e => by
  obtain ⟨t, e1, e2⟩ := gw_bndv e
  exact k t (h t e1) x e2
theorem kc_more {c : Int32} {σ : St} (h : σ.1 20 = c) (a b : Int32) : kq c (F_Mo_more σ a b) := by unfold F_Mo_more; (repeat' (first | with_reducible exact kp_n | with_reducible exact kq_n | ((with_reducible refine kp_s ?_); assumption) | ((with_reducible refine kq_s ?_); assumption) | (with_reducible apply kp_i) | (with_reducible apply kq_i) | (with_reducible refine kp_b ?_ (fun _ _ _ => ?_)) | (with_reducible refine kq_b ?_ (fun _ _ _ => ?_)) | (with_reducible refine kp_v ?_ (fun _ _ => ?_))))
theorem kc_atHand {c : Int32} {σ : St} (h : σ.1 20 = c) (a b : Int32) : kp c (F_Mo_atHand σ a b) := by unfold F_Mo_atHand; (repeat' (first | with_reducible exact kp_n | with_reducible exact kq_n | ((with_reducible refine kp_s ?_); assumption) | ((with_reducible refine kq_s ?_); assumption) | (with_reducible apply kp_i) | (with_reducible apply kq_i) | (with_reducible refine kp_b ?_ (fun _ _ _ => ?_)) | (with_reducible refine kq_b ?_ (fun _ _ _ => ?_)) | (with_reducible refine kp_v ?_ (fun _ _ => ?_))))
theorem kc_valueAtHand {c : Int32} {σ : St} (h : σ.1 20 = c) (a : Int32) (n : Int64) (b d : Int32) : kp c (F_Mo_valueAtHand σ a n b d) := by unfold F_Mo_valueAtHand; (repeat' (first | with_reducible exact kp_n | with_reducible exact kq_n | ((with_reducible refine kp_s ?_); assumption) | ((with_reducible refine kq_s ?_); assumption) | (with_reducible apply kp_i) | (with_reducible apply kq_i) | (with_reducible refine kp_b ?_ (fun _ _ _ => ?_)) | (with_reducible refine kq_b ?_ (fun _ _ _ => ?_)) | (with_reducible refine kp_v ?_ (fun _ _ => ?_))))
theorem kc_latest7 {c : Int32} {σ : St} (h : σ.1 20 = c) : ∀ (n : Nat) (a : Int32), kq c (K_Mo_latestInWork_7 n σ a) := by
  intro n
  induction n with
  | zero => intro a; exact kq_n
  | succ n ih => intro a; unfold K_Mo_latestInWork_7; (repeat' (first | with_reducible exact kp_n | with_reducible exact kq_n | ((with_reducible refine kp_s ?_); assumption) | ((with_reducible refine kq_s ?_); assumption) | (with_reducible apply kp_i) | (with_reducible apply kq_i) | (with_reducible refine kp_b ?_ (fun _ _ _ => ?_)) | (with_reducible refine kq_b ?_ (fun _ _ _ => ?_)) | (with_reducible refine kp_v ?_ (fun _ _ => ?_)))); exact ih _
theorem kc_latest {c : Int32} {σ : St} (h : σ.1 20 = c) : kq c (F_Mo_latestInWork σ) := kc_latest7 h _ _
theorem kc_push {c : Int32} {σ : St} (h : σ.1 20 = c) (a b d : Int32) (n : Int64) : kp c (F_Mo_push σ a b d n) := by unfold F_Mo_push; (repeat' (first | with_reducible exact kp_n | with_reducible exact kq_n | ((with_reducible refine kp_s ?_); assumption) | ((with_reducible refine kq_s ?_); assumption) | (with_reducible apply kp_i) | (with_reducible apply kq_i) | (with_reducible refine kp_b ?_ (fun _ _ _ => ?_)) | (with_reducible refine kq_b ?_ (fun _ _ _ => ?_)) | (with_reducible refine kp_v ?_ (fun _ _ => ?_))))
theorem kc_need164 {c : Int32} {σ : St} (h : σ.1 20 = c) (a : Int32) : kp c (K_Mo_need_164 σ a) := by
  unfold K_Mo_need_164; (repeat' (first | with_reducible exact kp_n | with_reducible exact kq_n | ((with_reducible refine kp_s ?_); assumption) | ((with_reducible refine kq_s ?_); assumption) | (with_reducible apply kp_i) | (with_reducible apply kq_i) | (with_reducible refine kp_b ?_ (fun _ _ _ => ?_)) | (with_reducible refine kq_b ?_ (fun _ _ _ => ?_)) | (with_reducible refine kp_v ?_ (fun _ _ => ?_))))
  all_goals first | ((with_reducible apply kc_atHand); assumption) | ((with_reducible apply kc_push); assumption)
theorem kc_need113 {c : Int32} {σ : St} (h : σ.1 20 = c) (a b : Int32) : kp c (K_Mo_need_113 σ a b) := by
  unfold K_Mo_need_113; (repeat' (first | with_reducible exact kp_n | with_reducible exact kq_n | ((with_reducible refine kp_s ?_); assumption) | ((with_reducible refine kq_s ?_); assumption) | (with_reducible apply kp_i) | (with_reducible apply kq_i) | (with_reducible refine kp_b ?_ (fun _ _ _ => ?_)) | (with_reducible refine kq_b ?_ (fun _ _ _ => ?_)) | (with_reducible refine kp_v ?_ (fun _ _ => ?_))))
  all_goals first | ((with_reducible apply kc_latest); assumption) | ((with_reducible apply kc_need164); assumption)
theorem kc_need17 {c : Int32} {σ : St} (h : σ.1 20 = c) (a b : Int32) : kp c (K_Mo_need_17 σ a b) := by
  unfold K_Mo_need_17; (repeat' (first | with_reducible exact kp_n | with_reducible exact kq_n | ((with_reducible refine kp_s ?_); assumption) | ((with_reducible refine kq_s ?_); assumption) | (with_reducible apply kp_i) | (with_reducible apply kq_i) | (with_reducible refine kp_b ?_ (fun _ _ _ => ?_)) | (with_reducible refine kq_b ?_ (fun _ _ _ => ?_)) | (with_reducible refine kp_v ?_ (fun _ _ => ?_))))
  all_goals first | ((with_reducible apply kc_valueAtHand); assumption) | ((with_reducible apply kc_need113); assumption)
theorem kc_need {c : Int32} {σ : St} (h : σ.1 20 = c) (a b : Int32) : kp c (F_Mo_need σ a b) := by
  unfold F_Mo_need; (repeat' (first | with_reducible exact kp_n | with_reducible exact kq_n | ((with_reducible refine kp_s ?_); assumption) | ((with_reducible refine kq_s ?_); assumption) | (with_reducible apply kp_i) | (with_reducible apply kq_i) | (with_reducible refine kp_b ?_ (fun _ _ _ => ?_)) | (with_reducible refine kq_b ?_ (fun _ _ _ => ?_)) | (with_reducible refine kp_v ?_ (fun _ _ => ?_))))
  all_goals ((with_reducible apply kc_need17); assumption)
theorem kc_place5 {c : Int32} {σ : St} (h : σ.1 20 = c) : ∀ (n : Nat) (a b d : Int32), kq c (K_Mo_thingOfPlace_5 n σ a b d) := by
  intro n
  induction n with
  | zero => intro a b d; exact kq_n
  | succ n ih => intro a b d; unfold K_Mo_thingOfPlace_5; (repeat' (first | with_reducible exact kp_n | with_reducible exact kq_n | ((with_reducible refine kp_s ?_); assumption) | ((with_reducible refine kq_s ?_); assumption) | (with_reducible apply kp_i) | (with_reducible apply kq_i) | (with_reducible refine kp_b ?_ (fun _ _ _ => ?_)) | (with_reducible refine kq_b ?_ (fun _ _ _ => ?_)) | (with_reducible refine kp_v ?_ (fun _ _ => ?_)))); exact ih _ _ _
theorem kc_thingOfPlace {c : Int32} {σ : St} (h : σ.1 20 = c) (a b : Int32) : kq c (F_Mo_thingOfPlace σ a b) := kc_place5 h _ _ _ _
theorem kc_isNew {c : Int32} {σ : St} (h : σ.1 20 = c) (a : Int32) : kq c (F_Mo_isNew σ a) := by unfold F_Mo_isNew; (repeat' (first | with_reducible exact kp_n | with_reducible exact kq_n | ((with_reducible refine kp_s ?_); assumption) | ((with_reducible refine kq_s ?_); assumption) | (with_reducible apply kp_i) | (with_reducible apply kq_i) | (with_reducible refine kp_b ?_ (fun _ _ _ => ?_)) | (with_reducible refine kq_b ?_ (fun _ _ _ => ?_)) | (with_reducible refine kp_v ?_ (fun _ _ => ?_))))
theorem kc_hasRoom {c : Int32} {σ : St} (h : σ.1 20 = c) (a b d : Int32) : kq c (F_Mo_hasRoom σ a b d) := by unfold F_Mo_hasRoom; (repeat' (first | with_reducible exact kp_n | with_reducible exact kq_n | ((with_reducible refine kp_s ?_); assumption) | ((with_reducible refine kq_s ?_); assumption) | (with_reducible apply kp_i) | (with_reducible apply kq_i) | (with_reducible refine kp_b ?_ (fun _ _ _ => ?_)) | (with_reducible refine kq_b ?_ (fun _ _ _ => ?_)) | (with_reducible refine kp_v ?_ (fun _ _ => ?_))))
theorem kc_newThing {c : Int32} {σ : St} (h : σ.1 20 = c) (a b : Int32) : kq c (F_Mo_newThing σ a b) := by unfold F_Mo_newThing; (repeat' (first | with_reducible exact kp_n | with_reducible exact kq_n | ((with_reducible refine kp_s ?_); assumption) | ((with_reducible refine kq_s ?_); assumption) | (with_reducible apply kp_i) | (with_reducible apply kq_i) | (with_reducible refine kp_b ?_ (fun _ _ _ => ?_)) | (with_reducible refine kq_b ?_ (fun _ _ _ => ?_)) | (with_reducible refine kp_v ?_ (fun _ _ => ?_))))
theorem kc_newPlace {c : Int32} {σ : St} (h : σ.1 20 = c) (a b : Int32) : kq c (F_Mo_newPlace σ a b) := by unfold F_Mo_newPlace; (repeat' (first | with_reducible exact kp_n | with_reducible exact kq_n | ((with_reducible refine kp_s ?_); assumption) | ((with_reducible refine kq_s ?_); assumption) | (with_reducible apply kp_i) | (with_reducible apply kq_i) | (with_reducible refine kp_b ?_ (fun _ _ _ => ?_)) | (with_reducible refine kq_b ?_ (fun _ _ _ => ?_)) | (with_reducible refine kp_v ?_ (fun _ _ => ?_))))
theorem kc_thingOf {c : Int32} {σ : St} (h : σ.1 20 = c) (a : Int32) : kq c (F_Mo_thingOf σ a) := by
  unfold F_Mo_thingOf; (repeat' (first | with_reducible exact kp_n | with_reducible exact kq_n | ((with_reducible refine kp_s ?_); assumption) | ((with_reducible refine kq_s ?_); assumption) | (with_reducible apply kp_i) | (with_reducible apply kq_i) | (with_reducible refine kp_b ?_ (fun _ _ _ => ?_)) | (with_reducible refine kq_b ?_ (fun _ _ _ => ?_)) | (with_reducible refine kp_v ?_ (fun _ _ => ?_))))
  all_goals first | ((with_reducible apply kc_isNew); assumption) | ((with_reducible apply kc_thingOfPlace); assumption) | ((with_reducible apply kc_newThing); assumption)
theorem kc_term333 {c : Int32} {σ : St} (h : σ.1 20 = c) (a b d : Int32) : kp c (K_Mo_goOnWithTerm_333 σ a b d) := by
  unfold K_Mo_goOnWithTerm_333; (repeat' (first | with_reducible exact kp_n | with_reducible exact kq_n | ((with_reducible refine kp_s ?_); assumption) | ((with_reducible refine kq_s ?_); assumption) | (with_reducible apply kp_i) | (with_reducible apply kq_i) | (with_reducible refine kp_b ?_ (fun _ _ _ => ?_)) | (with_reducible refine kq_b ?_ (fun _ _ _ => ?_)) | (with_reducible refine kp_v ?_ (fun _ _ => ?_))))
  all_goals first | ((with_reducible apply kc_atHand); assumption) | ((with_reducible apply kc_push); assumption)
theorem kc_term194 {c : Int32} {σ : St} (h : σ.1 20 = c) (a b : Int32) : kp c (K_Mo_goOnWithTerm_194 σ a b) := by
  unfold K_Mo_goOnWithTerm_194; (repeat' (first | with_reducible exact kp_n | with_reducible exact kq_n | ((with_reducible refine kp_s ?_); assumption) | ((with_reducible refine kq_s ?_); assumption) | (with_reducible apply kp_i) | (with_reducible apply kq_i) | (with_reducible refine kp_b ?_ (fun _ _ _ => ?_)) | (with_reducible refine kq_b ?_ (fun _ _ _ => ?_)) | (with_reducible refine kp_v ?_ (fun _ _ => ?_))))
  all_goals first | ((with_reducible apply kc_atHand); assumption) | ((with_reducible apply kc_push); assumption) | ((with_reducible apply kc_hasRoom); assumption) | ((with_reducible apply kc_thingOf); assumption)
theorem kc_term126 {c : Int32} {σ : St} (h : σ.1 20 = c) (a b d : Int32) : kp c (K_Mo_goOnWithTerm_126 σ a b d) := by
  unfold K_Mo_goOnWithTerm_126; (repeat' (first | with_reducible exact kp_n | with_reducible exact kq_n | ((with_reducible refine kp_s ?_); assumption) | ((with_reducible refine kq_s ?_); assumption) | (with_reducible apply kp_i) | (with_reducible apply kq_i) | (with_reducible refine kp_b ?_ (fun _ _ _ => ?_)) | (with_reducible refine kq_b ?_ (fun _ _ _ => ?_)) | (with_reducible refine kp_v ?_ (fun _ _ => ?_))))
  all_goals first | ((with_reducible apply kc_valueAtHand); assumption) | ((with_reducible apply kc_hasRoom); assumption) | ((with_reducible apply kc_thingOf); assumption)
theorem kc_term108 {c : Int32} {σ : St} (h : σ.1 20 = c) (a b : Int32) : kp c (K_Mo_goOnWithTerm_108 σ a b) := by
  unfold K_Mo_goOnWithTerm_108; (repeat' (first | with_reducible exact kp_n | with_reducible exact kq_n | ((with_reducible refine kp_s ?_); assumption) | ((with_reducible refine kq_s ?_); assumption) | (with_reducible apply kp_i) | (with_reducible apply kq_i) | (with_reducible refine kp_b ?_ (fun _ _ _ => ?_)) | (with_reducible refine kq_b ?_ (fun _ _ _ => ?_)) | (with_reducible refine kp_v ?_ (fun _ _ => ?_))))
  all_goals first | ((with_reducible apply kc_isNew); assumption) | ((with_reducible apply kc_term126); assumption)
theorem kc_goOnWithTerm {c : Int32} {σ : St} (h : σ.1 20 = c) : kp c (F_Mo_goOnWithTerm σ) := by
  unfold F_Mo_goOnWithTerm; (repeat' (first | with_reducible exact kp_n | with_reducible exact kq_n | ((with_reducible refine kp_s ?_); assumption) | ((with_reducible refine kq_s ?_); assumption) | (with_reducible apply kp_i) | (with_reducible apply kq_i) | (with_reducible refine kp_b ?_ (fun _ _ _ => ?_)) | (with_reducible refine kq_b ?_ (fun _ _ _ => ?_)) | (with_reducible refine kp_v ?_ (fun _ _ => ?_))))
  all_goals first | ((with_reducible apply kc_valueAtHand); assumption) | ((with_reducible apply kc_thingOfPlace); assumption) | ((with_reducible apply kc_need); assumption) | ((with_reducible apply kc_isNew); assumption) | ((with_reducible apply kc_term108); assumption) | ((with_reducible apply kc_term194); assumption) | ((with_reducible apply kc_term333); assumption) | ((with_reducible apply kc_hasRoom); assumption) | ((with_reducible apply kc_newPlace); assumption) | ((with_reducible apply kc_newThing); assumption) | ((with_reducible apply kc_atHand); assumption)
theorem kc_act18 {c : Int32} {σ : St} (h : σ.1 20 = c) (a : Int32) (m n : Int64) : kp c (K_Mo_act_18 σ a m n) := by
  unfold K_Mo_act_18; (repeat' (first | with_reducible exact kp_n | with_reducible exact kq_n | ((with_reducible refine kp_s ?_); assumption) | ((with_reducible refine kq_s ?_); assumption) | (with_reducible apply kp_i) | (with_reducible apply kq_i) | (with_reducible refine kp_b ?_ (fun _ _ _ => ?_)) | (with_reducible refine kq_b ?_ (fun _ _ _ => ?_)) | (with_reducible refine kp_v ?_ (fun _ _ => ?_))))
  all_goals ((with_reducible apply kc_valueAtHand); assumption)
theorem kc_act {c : Int32} {σ : St} (h : σ.1 20 = c) (a : Int32) (m n : Int64) : kp c (F_Mo_act σ a m n) := by
  unfold F_Mo_act; (repeat' (first | with_reducible exact kp_n | with_reducible exact kq_n | ((with_reducible refine kp_s ?_); assumption) | ((with_reducible refine kq_s ?_); assumption) | (with_reducible apply kp_i) | (with_reducible apply kq_i) | (with_reducible refine kp_b ?_ (fun _ _ _ => ?_)) | (with_reducible refine kq_b ?_ (fun _ _ _ => ?_)) | (with_reducible refine kp_v ?_ (fun _ _ => ?_))))
  all_goals ((with_reducible apply kc_act18); assumption)
theorem kc_value97 {c : Int32} {σ : St} (h : σ.1 20 = c) (a b d : Int32) : kp c (K_Mo_goOnWithValue_97 σ a b d) := by
  unfold K_Mo_goOnWithValue_97; (repeat' (first | with_reducible exact kp_n | with_reducible exact kq_n | ((with_reducible refine kp_s ?_); assumption) | ((with_reducible refine kq_s ?_); assumption) | (with_reducible apply kp_i) | (with_reducible apply kq_i) | (with_reducible refine kp_b ?_ (fun _ _ _ => ?_)) | (with_reducible refine kq_b ?_ (fun _ _ _ => ?_)) | (with_reducible refine kp_v ?_ (fun _ _ => ?_))))
  all_goals first | ((with_reducible apply kc_hasRoom); assumption) | ((with_reducible apply kc_newPlace); assumption) | ((with_reducible apply kc_atHand); assumption) | ((with_reducible apply kc_act); assumption) | ((with_reducible apply kc_need); assumption)
theorem kc_goOnWithValue {c : Int32} {σ : St} (h : σ.1 20 = c) : kp c (F_Mo_goOnWithValue σ) := by
  unfold F_Mo_goOnWithValue; (repeat' (first | with_reducible exact kp_n | with_reducible exact kq_n | ((with_reducible refine kp_s ?_); assumption) | ((with_reducible refine kq_s ?_); assumption) | (with_reducible apply kp_i) | (with_reducible apply kq_i) | (with_reducible refine kp_b ?_ (fun _ _ _ => ?_)) | (with_reducible refine kq_b ?_ (fun _ _ _ => ?_)) | (with_reducible refine kp_v ?_ (fun _ _ => ?_))))
  all_goals ((with_reducible apply kc_value97); assumption)
theorem kc_step48 {c : Int32} {σ : St} (h : σ.1 20 = c) : kp c (K_Mo_step_48 σ) := by
  unfold K_Mo_step_48; (repeat' (first | with_reducible exact kp_n | with_reducible exact kq_n | ((with_reducible refine kp_s ?_); assumption) | ((with_reducible refine kq_s ?_); assumption) | (with_reducible apply kp_i) | (with_reducible apply kq_i) | (with_reducible refine kp_b ?_ (fun _ _ _ => ?_)) | (with_reducible refine kq_b ?_ (fun _ _ _ => ?_)) | (with_reducible refine kp_v ?_ (fun _ _ => ?_))))
  all_goals ((with_reducible apply kc_more); assumption)
theorem kc_step {c : Int32} {σ : St} (h : σ.1 20 = c) : kp c (F_Mo_step σ) := by
  unfold F_Mo_step; (repeat' (first | with_reducible exact kp_n | with_reducible exact kq_n | ((with_reducible refine kp_s ?_); assumption) | ((with_reducible refine kq_s ?_); assumption) | (with_reducible apply kp_i) | (with_reducible apply kq_i) | (with_reducible refine kp_b ?_ (fun _ _ _ => ?_)) | (with_reducible refine kq_b ?_ (fun _ _ _ => ?_)) | (with_reducible refine kp_v ?_ (fun _ _ => ?_))))
  all_goals first | ((with_reducible apply kc_step48); assumption) | ((with_reducible apply kc_goOnWithTerm); assumption) | ((with_reducible apply kc_goOnWithValue); assumption) | ((with_reducible apply kc_need); assumption)
theorem step_keep (τ τ' : St) (h : F_Mo_step τ = some τ') : τ'.1 20 = τ.1 20 := kc_step (c := τ.1 20) rfl τ' h
theorem sim_run : Sim_run Rel := by
  intro n σ τ a0 hn h
  obtain ⟨h1, -⟩ := Rel_done h
  by_cases q : σ.1 0 = 0
  · exact ⟨_, _, _, _, _, _, bT (ip q rfl) (iN (by decide) rfl), ip (by rw [← h1]; exact q) rfl, rfl, Rel_thr h 1, Or.inr (Or.inl ⟨rfl, rfl⟩)⟩
  · have q' : ¬ τ.1 13 = 0 := by rw [← h1]; exact q
    by_cases h0 : a0 < 0
    · exact ⟨_, _, _, _, _, _, bT (iN q rfl) (ip rfl (ip h0 rfl)), iN q' (ip h0 rfl), rfl, Rel_thr h 2, Or.inr (Or.inr ⟨rfl, rfl⟩)⟩
    · by_cases h5 : a0 ≤ 5000
      · obtain ⟨a, ha, rfl⟩ := nI_of2 (n := 5000) rfl h0 h5
        obtain ⟨tm, lk, hr⟩ := Rel_RR h q
        obtain ⟨v, σ', τ', c1, c2, c3, c4⟩ := run_loop (tm := tm) (lk := lk) ha step_keep a 0 gw_N gw_N (6000 * n) σ (sv τ 20 0) (by omega) (by unfold gw_N; omega) (by unfold gw_N; omega) (by omega) (RR_thr hr 0)
        exact ⟨0, v, σ', v, τ', 0, bT (iN q rfl) (ip rfl (iN h0 (ip h5 c1))), iN q' (iN h0 (ip h5 c2)), by unfold F_Mo_thrown; rw [c4]; rfl, RR_Rel c3 (by omega), Or.inl ⟨rfl, rfl, rfl⟩⟩
      · exact ⟨_, _, _, _, _, _, bT (iN q rfl) (ip rfl (iN h0 (iN h5 rfl))), iN q' (iN h0 (iN h5 rfl)), rfl, Rel_thr h 2, Or.inr (Or.inr ⟨rfl, rfl⟩)⟩
