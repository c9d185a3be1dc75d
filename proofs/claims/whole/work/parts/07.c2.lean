set_option maxRecDepth 100000 in
set_option maxHeartbeats 4000000 in
theorem c_Th_reachedAt (l : Launch) (D : va_G) (cI cL cZ : ClassId) (ad : Nat → Nat) {σ : St} {x1 : Int32} {r : Int32} {σ' : St} (hF : F_Th_reachedAt σ x1 = some (r, σ')) : gw_M l y_Th_reachedAt w_Th_reachedAt rm_Th_reachedAt D gw_cl (gw_ty cI cL cZ) [.ref (ad 4), .int x1] (wC ad cI cL cZ σ) (wC ad cI cL cZ σ') (some (.int r)) := by
  refine gw_start (cc := b_Th_reachedAt) (nL := 2) (ret := (some .int)) (by decide) rfl (Nat.le_of_ble_eq_true rfl) (fun p e s m below meth c A C hr _ => ?_)
  refine gw_eq (lv' := [(0, .ref (ad 4)), (1, .int x1)]) rfl rfl ?_
  unfold F_Th_reachedAt at hF
  refine gw_iload_n C d_Th_reachedAt_0 rfl 1 rfl ?_
  refine gw_if_lt (tgt := 28) C d_Th_reachedAt_1 (by decide) (fun h1 => ?_) (fun h1 => ?_)
  · have hF := gw_pos h1 hF
    refine gw_iconst (v := (-1)) C d_Th_reachedAt_28 (by decide) ?_
    cases hF
    exact gw_iret C hr rfl d_Th_reachedAt_29
  · have hF := gw_neg h1 hF
    refine gw_iload_n C d_Th_reachedAt_4 rfl 1 rfl ?_
    refine gw_aload_n C d_Th_reachedAt_5 rfl 0 rfl ?_
    refine fg_Th_56 (v := σ.1 16) C rfl d_Th_reachedAt_6 ?_
    refine gw_icmp_ge (tgt := 28) C d_Th_reachedAt_9 (by decide) (fun h2 => ?_) (fun h2 => ?_)
    · have hF := gw_pos h2 hF
      refine gw_iconst (v := (-1)) C d_Th_reachedAt_28 (by decide) ?_
      cases hF
      exact gw_iret C hr rfl d_Th_reachedAt_29
    · have hF := gw_neg h2 hF
      refine gw_iload_n C d_Th_reachedAt_12 rfl 1 rfl ?_
      refine gw_sipush (v := 300) C d_Th_reachedAt_13 (by decide) ?_
      refine gw_icmp_ge (tgt := 28) C d_Th_reachedAt_16 (by decide) (fun h3 => ?_) (fun h3 => ?_)
      · have hF := gw_pos h3 hF
        refine gw_iconst (v := (-1)) C d_Th_reachedAt_28 (by decide) ?_
        cases hF
        exact gw_iret C hr rfl d_Th_reachedAt_29
      · have hF := gw_neg h3 hF
        refine gw_aload_n C d_Th_reachedAt_19 rfl 0 rfl ?_
        refine fg_Th_46 C d_Th_reachedAt_20 ?_
        refine gw_iload_n C d_Th_reachedAt_23 rfl 1 rfl ?_
        obtain ⟨h4, hF⟩ := gw_grd hF
        refine alwC_27 (v := σ.2.1 18 x1.toNatClampNeg) C h4 rfl d_Th_reachedAt_24 ?_
        refine gw_goto (tgt := 29) C d_Th_reachedAt_25 (by decide) ?_
        cases hF
        exact gw_iret C hr rfl d_Th_reachedAt_29
set_option maxRecDepth 100000 in
set_option maxHeartbeats 4000000 in
theorem c_Th_has (l : Launch) (D : va_G) (cI cL cZ : ClassId) (ad : Nat → Nat) {σ : St} {x1 : Int32} {r : Int32} {σ' : St} (hF : F_Th_has σ x1 = some (r, σ')) : gw_M l y_Th_has w_Th_has rm_Th_has D gw_cl (gw_ty cI cL cZ) [.ref (ad 4), .int x1] (wC ad cI cL cZ σ) (wC ad cI cL cZ σ') (some (.int r)) := by
  refine gw_start (cc := b_Th_has) (nL := 2) (ret := (some .boolean)) (by decide) rfl (Nat.le_of_ble_eq_true rfl) (fun p e s m below meth c A C hr _ => ?_)
  refine gw_eq (lv' := [(0, .ref (ad 4)), (1, .int x1)]) rfl rfl ?_
  unfold F_Th_has at hF
  refine gw_iload_n C d_Th_has_0 rfl 1 rfl ?_
  refine gw_if_lt (tgt := 23) C d_Th_has_1 (by decide) (fun h1 => ?_) (fun h1 => ?_)
  · have hF := gw_pos h1 hF
    refine gw_iconst (v := 0) C d_Th_has_23 (by decide) ?_
    cases hF
    exact gw_zret C hr rfl rfl d_Th_has_24
  · have hF := gw_neg h1 hF
    refine gw_iload_n C d_Th_has_4 rfl 1 rfl ?_
    refine gw_aload_n C d_Th_has_5 rfl 0 rfl ?_
    refine fg_Th_49 (v := σ.1 14) C rfl d_Th_has_6 ?_
    refine gw_icmp_ge (tgt := 23) C d_Th_has_9 (by decide) (fun h2 => ?_) (fun h2 => ?_)
    · have hF := gw_pos h2 hF
      refine gw_iconst (v := 0) C d_Th_has_23 (by decide) ?_
      cases hF
      exact gw_zret C hr rfl rfl d_Th_has_24
    · have hF := gw_neg h2 hF
      refine gw_iload_n C d_Th_has_12 rfl 1 rfl ?_
      refine gw_sipush (v := 1000) C d_Th_has_13 (by decide) ?_
      refine gw_icmp_ge (tgt := 23) C d_Th_has_16 (by decide) (fun h3 => ?_) (fun h3 => ?_)
      · have hF := gw_pos h3 hF
        refine gw_iconst (v := 0) C d_Th_has_23 (by decide) ?_
        cases hF
        exact gw_zret C hr rfl rfl d_Th_has_24
      · have hF := gw_neg h3 hF
        refine gw_iconst (v := 1) C d_Th_has_19 (by decide) ?_
        refine gw_goto (tgt := 24) C d_Th_has_20 (by decide) ?_
        cases hF
        exact gw_zret C hr rfl rfl d_Th_has_24
set_option maxRecDepth 100000 in
set_option maxHeartbeats 4000000 in
theorem c_Th_stateOf (l : Launch) (D : va_G) (cI cL cZ : ClassId) (ad : Nat → Nat) {σ : St} {x1 : Int32} {r : Int32} {σ' : St} (hF : F_Th_stateOf σ x1 = some (r, σ')) : gw_M l y_Th_stateOf w_Th_stateOf rm_Th_stateOf D gw_cl (gw_ty cI cL cZ) [.ref (ad 4), .int x1] (wC ad cI cL cZ σ) (wC ad cI cL cZ σ') (some (.int r)) := by
  refine gw_start (cc := b_Th_stateOf) (nL := 2) (ret := (some .int)) (by decide) rfl (Nat.le_of_ble_eq_true rfl) (fun p e s m below meth c A C hr _ => ?_)
  refine gw_eq (lv' := [(0, .ref (ad 4)), (1, .int x1)]) rfl rfl ?_
  unfold F_Th_stateOf at hF
  refine gw_aload_n C d_Th_stateOf_0 rfl 0 rfl ?_
  refine gw_iload_n C d_Th_stateOf_1 rfl 1 rfl ?_
  obtain ⟨r2, σ3, h1, hF⟩ := gw_bnd hF
  refine fc_Th_59 (As := [.int x1]) (st := []) (σ' := σ3) C (c_Th_has l D cI cL cZ ad h1) ⟨Nat.le_of_ble_eq_true rfl, Nat.le_of_ble_eq_true rfl⟩ ⟨Nat.le_of_ble_eq_true rfl, Nat.le_of_ble_eq_true rfl⟩ rfl (Nat.le_of_ble_eq_true rfl) d_Th_stateOf_2 ?_
  refine gw_if_eq (tgt := 17) C d_Th_stateOf_5 (by decide) (fun h4 => ?_) (fun h4 => ?_)
  · have hF := gw_pos h4 hF
    refine gw_iconst (v := 3) C d_Th_stateOf_17 (by decide) ?_
    cases hF
    exact gw_iret C hr rfl d_Th_stateOf_18
  · have hF := gw_neg h4 hF
    refine gw_aload_n C d_Th_stateOf_8 rfl 0 rfl ?_
    refine fg_Th_9 C d_Th_stateOf_9 ?_
    refine gw_iload_n C d_Th_stateOf_12 rfl 1 rfl ?_
    obtain ⟨h5, hF⟩ := gw_grd hF
    refine alwC_16 (v := σ3.2.1 8 x1.toNatClampNeg) C h5 rfl d_Th_stateOf_13 ?_
    refine gw_goto (tgt := 18) C d_Th_stateOf_14 (by decide) ?_
    cases hF
    exact gw_iret C hr rfl d_Th_stateOf_18
set_option maxRecDepth 100000 in
set_option maxHeartbeats 4000000 in
theorem c_Th_placesOf (l : Launch) (D : va_G) (cI cL cZ : ClassId) (ad : Nat → Nat) {σ : St} {x1 : Int32} {r : Int32} {σ' : St} (hF : F_Th_placesOf σ x1 = some (r, σ')) : gw_M l y_Th_placesOf w_Th_placesOf rm_Th_placesOf D gw_cl (gw_ty cI cL cZ) [.ref (ad 4), .int x1] (wC ad cI cL cZ σ) (wC ad cI cL cZ σ') (some (.int r)) := by
  refine gw_start (cc := b_Th_placesOf) (nL := 2) (ret := (some .int)) (by decide) rfl (Nat.le_of_ble_eq_true rfl) (fun p e s m below meth c A C hr _ => ?_)
  refine gw_eq (lv' := [(0, .ref (ad 4)), (1, .int x1)]) rfl rfl ?_
  unfold F_Th_placesOf at hF
  refine gw_aload_n C d_Th_placesOf_0 rfl 0 rfl ?_
  refine gw_iload_n C d_Th_placesOf_1 rfl 1 rfl ?_
  obtain ⟨r2, σ3, h1, hF⟩ := gw_bnd hF
  refine fc_Th_59 (As := [.int x1]) (st := []) (σ' := σ3) C (c_Th_has l D cI cL cZ ad h1) ⟨Nat.le_of_ble_eq_true rfl, Nat.le_of_ble_eq_true rfl⟩ ⟨Nat.le_of_ble_eq_true rfl, Nat.le_of_ble_eq_true rfl⟩ rfl (Nat.le_of_ble_eq_true rfl) d_Th_placesOf_2 ?_
  refine gw_if_eq (tgt := 17) C d_Th_placesOf_5 (by decide) (fun h4 => ?_) (fun h4 => ?_)
  · have hF := gw_pos h4 hF
    refine gw_iconst (v := (-1)) C d_Th_placesOf_17 (by decide) ?_
    cases hF
    exact gw_iret C hr rfl d_Th_placesOf_18
  · have hF := gw_neg h4 hF
    refine gw_aload_n C d_Th_placesOf_8 rfl 0 rfl ?_
    refine fg_Th_18 C d_Th_placesOf_9 ?_
    refine gw_iload_n C d_Th_placesOf_12 rfl 1 rfl ?_
    obtain ⟨h5, hF⟩ := gw_grd hF
    refine alwC_18 (v := σ3.2.1 10 x1.toNatClampNeg) C h5 rfl d_Th_placesOf_13 ?_
    refine gw_goto (tgt := 18) C d_Th_placesOf_14 (by decide) ?_
    cases hF
    exact gw_iret C hr rfl d_Th_placesOf_18
set_option maxRecDepth 100000 in
set_option maxHeartbeats 4000000 in
theorem c_Th_valueSortOf (l : Launch) (D : va_G) (cI cL cZ : ClassId) (ad : Nat → Nat) {σ : St} {x1 : Int32} {r : Int32} {σ' : St} (hF : F_Th_valueSortOf σ x1 = some (r, σ')) : gw_M l y_Th_valueSortOf w_Th_valueSortOf rm_Th_valueSortOf D gw_cl (gw_ty cI cL cZ) [.ref (ad 4), .int x1] (wC ad cI cL cZ σ) (wC ad cI cL cZ σ') (some (.int r)) := by
  refine gw_start (cc := b_Th_valueSortOf) (nL := 2) (ret := (some .int)) (by decide) rfl (Nat.le_of_ble_eq_true rfl) (fun p e s m below meth c A C hr _ => ?_)
  refine gw_eq (lv' := [(0, .ref (ad 4)), (1, .int x1)]) rfl rfl ?_
  unfold F_Th_valueSortOf at hF
  refine gw_aload_n C d_Th_valueSortOf_0 rfl 0 rfl ?_
  refine gw_iload_n C d_Th_valueSortOf_1 rfl 1 rfl ?_
  obtain ⟨r2, σ3, h1, hF⟩ := gw_bnd hF
  refine fc_Th_59 (As := [.int x1]) (st := []) (σ' := σ3) C (c_Th_has l D cI cL cZ ad h1) ⟨Nat.le_of_ble_eq_true rfl, Nat.le_of_ble_eq_true rfl⟩ ⟨Nat.le_of_ble_eq_true rfl, Nat.le_of_ble_eq_true rfl⟩ rfl (Nat.le_of_ble_eq_true rfl) d_Th_valueSortOf_2 ?_
  refine gw_if_eq (tgt := 17) C d_Th_valueSortOf_5 (by decide) (fun h4 => ?_) (fun h4 => ?_)
  · have hF := gw_pos h4 hF
    refine gw_iconst (v := (-1)) C d_Th_valueSortOf_17 (by decide) ?_
    cases hF
    exact gw_iret C hr rfl d_Th_valueSortOf_18
  · have hF := gw_neg h4 hF
    refine gw_aload_n C d_Th_valueSortOf_8 rfl 0 rfl ?_
    refine fg_Th_27 C d_Th_valueSortOf_9 ?_
    refine gw_iload_n C d_Th_valueSortOf_12 rfl 1 rfl ?_
    obtain ⟨h5, hF⟩ := gw_grd hF
    refine alwC_21 (v := σ3.2.1 13 x1.toNatClampNeg) C h5 rfl d_Th_valueSortOf_13 ?_
    refine gw_goto (tgt := 18) C d_Th_valueSortOf_14 (by decide) ?_
    cases hF
    exact gw_iret C hr rfl d_Th_valueSortOf_18
set_option maxRecDepth 100000 in
set_option maxHeartbeats 4000000 in
theorem c_Th_valueFirstOf (l : Launch) (D : va_G) (cI cL cZ : ClassId) (ad : Nat → Nat) {σ : St} {x1 : Int32} {r : Int32} {σ' : St} (hF : F_Th_valueFirstOf σ x1 = some (r, σ')) : gw_M l y_Th_valueFirstOf w_Th_valueFirstOf rm_Th_valueFirstOf D gw_cl (gw_ty cI cL cZ) [.ref (ad 4), .int x1] (wC ad cI cL cZ σ) (wC ad cI cL cZ σ') (some (.int r)) := by
  refine gw_start (cc := b_Th_valueFirstOf) (nL := 2) (ret := (some .int)) (by decide) rfl (Nat.le_of_ble_eq_true rfl) (fun p e s m below meth c A C hr _ => ?_)
  refine gw_eq (lv' := [(0, .ref (ad 4)), (1, .int x1)]) rfl rfl ?_
  unfold F_Th_valueFirstOf at hF
  refine gw_aload_n C d_Th_valueFirstOf_0 rfl 0 rfl ?_
  refine gw_iload_n C d_Th_valueFirstOf_1 rfl 1 rfl ?_
  obtain ⟨r2, σ3, h1, hF⟩ := gw_bnd hF
  refine fc_Th_59 (As := [.int x1]) (st := []) (σ' := σ3) C (c_Th_has l D cI cL cZ ad h1) ⟨Nat.le_of_ble_eq_true rfl, Nat.le_of_ble_eq_true rfl⟩ ⟨Nat.le_of_ble_eq_true rfl, Nat.le_of_ble_eq_true rfl⟩ rfl (Nat.le_of_ble_eq_true rfl) d_Th_valueFirstOf_2 ?_
  refine gw_if_eq (tgt := 17) C d_Th_valueFirstOf_5 (by decide) (fun h4 => ?_) (fun h4 => ?_)
  · have hF := gw_pos h4 hF
    refine gw_iconst (v := (-1)) C d_Th_valueFirstOf_17 (by decide) ?_
    cases hF
    exact gw_iret C hr rfl d_Th_valueFirstOf_18
  · have hF := gw_neg h4 hF
    refine gw_aload_n C d_Th_valueFirstOf_8 rfl 0 rfl ?_
    refine fg_Th_34 C d_Th_valueFirstOf_9 ?_
    refine gw_iload_n C d_Th_valueFirstOf_12 rfl 1 rfl ?_
    obtain ⟨h5, hF⟩ := gw_grd hF
    refine alwC_23 (v := σ3.2.1 14 x1.toNatClampNeg) C h5 rfl d_Th_valueFirstOf_13 ?_
    refine gw_goto (tgt := 18) C d_Th_valueFirstOf_14 (by decide) ?_
    cases hF
    exact gw_iret C hr rfl d_Th_valueFirstOf_18
set_option maxRecDepth 100000 in
set_option maxHeartbeats 4000000 in
theorem c_Th_valueSecondOf (l : Launch) (D : va_G) (cI cL cZ : ClassId) (ad : Nat → Nat) {σ : St} {x1 : Int32} {r : Int32} {σ' : St} (hF : F_Th_valueSecondOf σ x1 = some (r, σ')) : gw_M l y_Th_valueSecondOf w_Th_valueSecondOf rm_Th_valueSecondOf D gw_cl (gw_ty cI cL cZ) [.ref (ad 4), .int x1] (wC ad cI cL cZ σ) (wC ad cI cL cZ σ') (some (.int r)) := by
  refine gw_start (cc := b_Th_valueSecondOf) (nL := 2) (ret := (some .int)) (by decide) rfl (Nat.le_of_ble_eq_true rfl) (fun p e s m below meth c A C hr _ => ?_)
  refine gw_eq (lv' := [(0, .ref (ad 4)), (1, .int x1)]) rfl rfl ?_
  unfold F_Th_valueSecondOf at hF
  refine gw_aload_n C d_Th_valueSecondOf_0 rfl 0 rfl ?_
  refine gw_iload_n C d_Th_valueSecondOf_1 rfl 1 rfl ?_
  obtain ⟨r2, σ3, h1, hF⟩ := gw_bnd hF
  refine fc_Th_59 (As := [.int x1]) (st := []) (σ' := σ3) C (c_Th_has l D cI cL cZ ad h1) ⟨Nat.le_of_ble_eq_true rfl, Nat.le_of_ble_eq_true rfl⟩ ⟨Nat.le_of_ble_eq_true rfl, Nat.le_of_ble_eq_true rfl⟩ rfl (Nat.le_of_ble_eq_true rfl) d_Th_valueSecondOf_2 ?_
  refine gw_if_eq (tgt := 17) C d_Th_valueSecondOf_5 (by decide) (fun h4 => ?_) (fun h4 => ?_)
  · have hF := gw_pos h4 hF
    refine gw_iconst (v := (-1)) C d_Th_valueSecondOf_17 (by decide) ?_
    cases hF
    exact gw_iret C hr rfl d_Th_valueSecondOf_18
  · have hF := gw_neg h4 hF
    refine gw_aload_n C d_Th_valueSecondOf_8 rfl 0 rfl ?_
    refine fg_Th_37 C d_Th_valueSecondOf_9 ?_
    refine gw_iload_n C d_Th_valueSecondOf_12 rfl 1 rfl ?_
    obtain ⟨h5, hF⟩ := gw_grd hF
    refine alwC_24 (v := σ3.2.1 15 x1.toNatClampNeg) C h5 rfl d_Th_valueSecondOf_13 ?_
    refine gw_goto (tgt := 18) C d_Th_valueSecondOf_14 (by decide) ?_
    cases hF
    exact gw_iret C hr rfl d_Th_valueSecondOf_18
set_option maxRecDepth 100000 in
set_option maxHeartbeats 4000000 in
theorem c_Wa_reachFromThing (l : Launch) (D : va_G) (cI cL cZ : ClassId) (ad : Nat → Nat) {σ : St} {x1 : Int32} {σ' : St} (hF : F_Wa_reachFromThing σ x1 = some σ') : gw_M l y_Wa_reachFromThing w_Wa_reachFromThing rm_Wa_reachFromThing D gw_cl (gw_ty cI cL cZ) [.ref (ad 1), .int x1] (wC ad cI cL cZ σ) (wC ad cI cL cZ σ') none := by
  refine gw_start (cc := b_Wa_reachFromThing) (nL := 3) (ret := none) (by decide) rfl (Nat.le_of_ble_eq_true rfl) (fun p e s m below meth c A C hr _ => ?_)
  refine gw_eq (lv' := [(0, .ref (ad 1)), (1, .int x1)]) rfl rfl ?_
  unfold F_Wa_reachFromThing at hF
  refine gw_aload_n C d_Wa_reachFromThing_0 rfl 0 rfl ?_
  refine fg_Wa_28 C d_Wa_reachFromThing_1 ?_
  refine gw_iload_n C d_Wa_reachFromThing_4 rfl 1 rfl ?_
  obtain ⟨r2, σ3, h1, hF⟩ := gw_bnd hF
  refine fc_Wa_187 (As := [.int x1]) (st := []) (σ' := σ3) C (c_Th_stateOf l D cI cL cZ ad h1) ⟨Nat.le_of_ble_eq_true rfl, Nat.le_of_ble_eq_true rfl⟩ ⟨Nat.le_of_ble_eq_true rfl, Nat.le_of_ble_eq_true rfl⟩ rfl (Nat.le_of_ble_eq_true rfl) d_Wa_reachFromThing_5 ?_
  refine gw_istore_n (lv' := [(2, .int r2), (0, .ref (ad 1)), (1, .int x1)]) C d_Wa_reachFromThing_8 rfl (by decide) rfl ?_
  refine gw_iload_n C d_Wa_reachFromThing_9 rfl 0 rfl ?_
  refine gw_if_ne (tgt := 28) C d_Wa_reachFromThing_10 (by decide) (fun h4 => ?_) (fun h4 => ?_)
  · have hF := gw_neg h4 hF
    refine gw_iload_n C d_Wa_reachFromThing_28 rfl 0 rfl ?_
    refine gw_iconst (v := 2) C d_Wa_reachFromThing_29 (by decide) ?_
    refine gw_icmp_ne (tgt := 61) C d_Wa_reachFromThing_30 (by decide) (fun h5 => ?_) (fun h5 => ?_)
    · have hF := gw_neg h5 hF
      cases hF
      exact gw_vret C hr rfl d_Wa_reachFromThing_61
    · have hF := gw_pos h5 hF
      refine gw_aload_n C d_Wa_reachFromThing_33 rfl 1 rfl ?_
      refine gw_aload_n C d_Wa_reachFromThing_34 rfl 1 rfl ?_
      refine fg_Wa_28 C d_Wa_reachFromThing_35 ?_
      refine gw_iload_n C d_Wa_reachFromThing_38 rfl 2 rfl ?_
      obtain ⟨r7, σ8, h6, hF⟩ := gw_bnd hF
      refine fc_Wa_290 (As := [.int x1]) (st := [.ref (ad 1)]) (σ' := σ8) C (c_Th_valueSortOf l D cI cL cZ ad h6) ⟨Nat.le_of_ble_eq_true rfl, Nat.le_of_ble_eq_true rfl⟩ ⟨Nat.le_of_ble_eq_true rfl, Nat.le_of_ble_eq_true rfl⟩ rfl (Nat.le_of_ble_eq_true rfl) d_Wa_reachFromThing_39 ?_
      refine gw_aload_n C d_Wa_reachFromThing_42 rfl 1 rfl ?_
      refine fg_Wa_28 C d_Wa_reachFromThing_43 ?_
      refine gw_iload_n C d_Wa_reachFromThing_46 rfl 2 rfl ?_
      obtain ⟨r10, σ11, h9, hF⟩ := gw_bnd hF
      refine fc_Wa_293 (As := [.int x1]) (st := [.int r7, .ref (ad 1)]) (σ' := σ11) C (c_Th_valueFirstOf l D cI cL cZ ad h9) ⟨Nat.le_of_ble_eq_true rfl, Nat.le_of_ble_eq_true rfl⟩ ⟨Nat.le_of_ble_eq_true rfl, Nat.le_of_ble_eq_true rfl⟩ rfl (Nat.le_of_ble_eq_true rfl) d_Wa_reachFromThing_47 ?_
      refine gw_aload_n C d_Wa_reachFromThing_50 rfl 1 rfl ?_
      refine fg_Wa_28 C d_Wa_reachFromThing_51 ?_
      refine gw_iload_n C d_Wa_reachFromThing_54 rfl 2 rfl ?_
      obtain ⟨r13, σ14, h12, hF⟩ := gw_bnd hF
      refine fc_Wa_296 (As := [.int x1]) (st := [.int r10, .int r7, .ref (ad 1)]) (σ' := σ14) C (c_Th_valueSecondOf l D cI cL cZ ad h12) ⟨Nat.le_of_ble_eq_true rfl, Nat.le_of_ble_eq_true rfl⟩ ⟨Nat.le_of_ble_eq_true rfl, Nat.le_of_ble_eq_true rfl⟩ rfl (Nat.le_of_ble_eq_true rfl) d_Wa_reachFromThing_55 ?_
      obtain ⟨σ16, h15, hF⟩ := gw_bndv hF
      refine fc_Wa_283 (As := [.int r7, .int r10, .int r13]) (st := []) (σ' := σ16) C (c_Wa_reachOfValue l D cI cL cZ ad h15) ⟨Nat.le_of_ble_eq_true rfl, Nat.le_of_ble_eq_true rfl⟩ ⟨Nat.le_of_ble_eq_true rfl, Nat.le_of_ble_eq_true rfl⟩ rfl (Nat.le_of_ble_eq_true rfl) d_Wa_reachFromThing_58 ?_
      cases hF
      exact gw_vret C hr rfl d_Wa_reachFromThing_61
  · have hF := gw_pos h4 hF
    refine gw_aload_n C d_Wa_reachFromThing_13 rfl 1 rfl ?_
    refine gw_aload_n C d_Wa_reachFromThing_14 rfl 1 rfl ?_
    refine fg_Wa_28 C d_Wa_reachFromThing_15 ?_
    refine gw_iload_n C d_Wa_reachFromThing_18 rfl 2 rfl ?_
    obtain ⟨r18, σ19, h17, hF⟩ := gw_bnd hF
    refine fc_Wa_212 (As := [.int x1]) (st := [.ref (ad 1)]) (σ' := σ19) C (c_Th_placesOf l D cI cL cZ ad h17) ⟨Nat.le_of_ble_eq_true rfl, Nat.le_of_ble_eq_true rfl⟩ ⟨Nat.le_of_ble_eq_true rfl, Nat.le_of_ble_eq_true rfl⟩ rfl (Nat.le_of_ble_eq_true rfl) d_Wa_reachFromThing_19 ?_
    obtain ⟨σ21, h20, hF⟩ := gw_bndv hF
    refine fc_Wa_280 (As := [.int r18]) (st := []) (σ' := σ21) C (c_Wa_reachPlaces l D cI cL cZ ad h20) ⟨Nat.le_of_ble_eq_true rfl, Nat.le_of_ble_eq_true rfl⟩ ⟨Nat.le_of_ble_eq_true rfl, Nat.le_of_ble_eq_true rfl⟩ rfl (Nat.le_of_ble_eq_true rfl) d_Wa_reachFromThing_22 ?_
    refine gw_goto (tgt := 61) C d_Wa_reachFromThing_25 (by decide) ?_
    cases hF
    exact gw_vret C hr rfl d_Wa_reachFromThing_61
set_option maxRecDepth 100000 in
set_option maxHeartbeats 4000000 in
theorem k_Th_keepReached_10 {p : Program} (l : Launch) {e : Env} {s : State} {m : MethodId} {args : Array Value} {below : List Frame} {meth : Method} {c : Code} {D : va_G} {A : Nat → Prop} {cI cL cZ : ClassId} {ad : Nat → Nat} (C : gw_C p s m args meth c b_Th_keepReached 6 R_Th D gw_cl (gw_ty cI cL cZ) A) (hr : meth.sig.returnType = (some .int)) {r : Int32} {σ' : St} : ∀ (n : Nat) (σ : St) (x1 : Int32) (x2 : Int32) (x3 : Int32) (x4 : Int32) (hF : K_Th_keepReached_10 n σ x1 x2 x3 x4 = some (r, σ')), gw_W p l e rm_Th_keepReached s m args below meth c D gw_cl A (MQ below (gw_Qc D gw_cl (wC ad cI cL cZ σ') (some (.int r)) A) args s 0 0 A) 0 0 6 (wC ad cI cL cZ σ) [(0, .ref (ad 4)), (1, .int x1), (2, .int x2), (3, .int x3), (4, .int x4)] 10 []
  | 0, σ, x1, x2, x3, x4, hF => by cases hF
  | n + 1, σ, x1, x2, x3, x4, hF => by
    unfold K_Th_keepReached_10 at hF
    refine gw_iload C d_Th_keepReached_10 4 rfl ?_
    refine gw_iload_n C d_Th_keepReached_12 rfl 3 rfl ?_
    refine gw_icmp_ge (tgt := 84) C d_Th_keepReached_13 (by decide) (fun h1 => ?_) (fun h1 => ?_)
    · have hF := gw_pos h1 hF
      refine gw_aload_n C d_Th_keepReached_84 rfl 0 rfl ?_
      refine gw_iload_n C d_Th_keepReached_85 rfl 2 rfl ?_
      refine fp_Th_53 C d_Th_keepReached_86 ?_
      refine gw_iload_n C d_Th_keepReached_89 rfl 3 rfl ?_
      refine gw_iload_n C d_Th_keepReached_90 rfl 2 rfl ?_
      refine gw_isub C d_Th_keepReached_91 ?_
      cases hF
      exact gw_iret C hr rfl d_Th_keepReached_92
    · have hF := gw_neg h1 hF
      refine gw_iload C d_Th_keepReached_16 4 rfl ?_
      refine gw_sipush (v := 300) C d_Th_keepReached_18 (by decide) ?_
      refine gw_icmp_ge (tgt := 84) C d_Th_keepReached_21 (by decide) (fun h2 => ?_) (fun h2 => ?_)
      · have hF := gw_pos h2 hF
        refine gw_aload_n C d_Th_keepReached_84 rfl 0 rfl ?_
        refine gw_iload_n C d_Th_keepReached_85 rfl 2 rfl ?_
        refine fp_Th_53 C d_Th_keepReached_86 ?_
        refine gw_iload_n C d_Th_keepReached_89 rfl 3 rfl ?_
        refine gw_iload_n C d_Th_keepReached_90 rfl 2 rfl ?_
        refine gw_isub C d_Th_keepReached_91 ?_
        cases hF
        exact gw_iret C hr rfl d_Th_keepReached_92
      · have hF := gw_neg h2 hF
        refine gw_aload_n C d_Th_keepReached_24 rfl 0 rfl ?_
        refine fg_Th_43 C d_Th_keepReached_25 ?_
        refine gw_iload C d_Th_keepReached_28 4 rfl ?_
        obtain ⟨h3, hF⟩ := gw_grd hF
        refine alwC_26 (v := σ.2.1 17 x4.toNatClampNeg) C h3 rfl d_Th_keepReached_30 ?_
        refine gw_istore (lv' := [(5, .int (σ.2.1 17 x4.toNatClampNeg)), (0, .ref (ad 4)), (1, .int x1), (2, .int x2), (3, .int x3), (4, .int x4)]) C d_Th_keepReached_31 (by decide) rfl ?_
        refine gw_aload_n C d_Th_keepReached_33 rfl 1 rfl ?_
        refine gw_iload C d_Th_keepReached_34 0 rfl ?_
        obtain ⟨r5, σ6, h4, hF⟩ := gw_bnd hF
        refine fc_Th_59 (As := [.int (σ.2.1 17 x4.toNatClampNeg)]) (st := []) (σ' := σ6) C (c_Th_has l D cI cL cZ ad h4) ⟨Nat.le_of_ble_eq_true rfl, Nat.le_of_ble_eq_true rfl⟩ ⟨Nat.le_of_ble_eq_true rfl, Nat.le_of_ble_eq_true rfl⟩ rfl (Nat.le_of_ble_eq_true rfl) d_Th_keepReached_36 ?_
        refine gw_if_ne (tgt := 45) C d_Th_keepReached_39 (by decide) (fun h7 => ?_) (fun h7 => ?_)
        · have hF := gw_neg h7 hF
          refine gw_aload_n C d_Th_keepReached_45 rfl 1 rfl ?_
          refine fg_Th_40 C d_Th_keepReached_46 ?_
          refine gw_iload C d_Th_keepReached_49 0 rfl ?_
          obtain ⟨h8, hF⟩ := gw_grd hF
          refine alwC_25 (v := σ6.2.1 16 ((σ.2.1 17 x4.toNatClampNeg).toNatClampNeg)) C h8 rfl d_Th_keepReached_51 ?_
          refine gw_iload_n C d_Th_keepReached_52 rfl 2 rfl ?_
          refine gw_icmp_ne (tgt := 70) C d_Th_keepReached_53 (by decide) (fun h9 => ?_) (fun h9 => ?_)
          · have hF := gw_neg h9 hF
            refine gw_aload_n C d_Th_keepReached_70 rfl 1 rfl ?_
            refine fg_Th_9 C d_Th_keepReached_71 ?_
            refine gw_iload C d_Th_keepReached_74 0 rfl ?_
            refine gw_iconst (v := 3) C d_Th_keepReached_76 (by decide) ?_
            obtain ⟨h10, hF⟩ := gw_grd hF
            refine aswC_16 C h10 d_Th_keepReached_77 ?_
            refine gw_iinc (q := 5) (v := x4 + 1) (lv' := [(4, .int (x4 + 1)), (5, .int (σ.2.1 17 x4.toNatClampNeg)), (0, .ref (ad 4)), (1, .int x1), (2, .int x2), (3, .int x3)]) C d_Th_keepReached_78 rfl rfl (by decide) rfl ?_
            refine gw_goto (tgt := 10) C d_Th_keepReached_81 (by decide) ?_
            refine gw_less [2, 3, 4, 5, 0] rfl ?_
            exact k_Th_keepReached_10 l C hr n _ _ _ _ _ hF
          · have hF := gw_pos h9 hF
            refine gw_aload_n C d_Th_keepReached_56 rfl 1 rfl ?_
            refine fg_Th_43 C d_Th_keepReached_57 ?_
            refine gw_iload_n C d_Th_keepReached_60 rfl 3 rfl ?_
            refine gw_iload C d_Th_keepReached_61 0 rfl ?_
            obtain ⟨h11, hF⟩ := gw_grd hF
            refine aswC_26 C h11 d_Th_keepReached_63 ?_
            refine gw_iinc (q := 3) (v := x2 + 1) (lv' := [(2, .int (x2 + 1)), (5, .int (σ.2.1 17 x4.toNatClampNeg)), (0, .ref (ad 4)), (1, .int x1), (3, .int x3), (4, .int x4)]) C d_Th_keepReached_64 rfl rfl (by decide) rfl ?_
            refine gw_goto (tgt := 78) C d_Th_keepReached_67 (by decide) ?_
            refine gw_iinc (q := 5) (v := x4 + 1) (lv' := [(4, .int (x4 + 1)), (2, .int (x2 + 1)), (5, .int (σ.2.1 17 x4.toNatClampNeg)), (0, .ref (ad 4)), (1, .int x1), (3, .int x3)]) C d_Th_keepReached_78 rfl rfl (by decide) rfl ?_
            refine gw_goto (tgt := 10) C d_Th_keepReached_81 (by decide) ?_
            refine gw_less [3, 4, 1, 5, 0] rfl ?_
            exact k_Th_keepReached_10 l C hr n _ _ _ _ _ hF
        · have hF := gw_pos h7 hF
          refine gw_goto (tgt := 78) C d_Th_keepReached_42 (by decide) ?_
          refine gw_iinc (q := 5) (v := x4 + 1) (lv' := [(4, .int (x4 + 1)), (5, .int (σ.2.1 17 x4.toNatClampNeg)), (0, .ref (ad 4)), (1, .int x1), (2, .int x2), (3, .int x3)]) C d_Th_keepReached_78 rfl rfl (by decide) rfl ?_
          refine gw_goto (tgt := 10) C d_Th_keepReached_81 (by decide) ?_
          refine gw_less [2, 3, 4, 5, 0] rfl ?_
          exact k_Th_keepReached_10 l C hr n _ _ _ _ _ hF
set_option maxRecDepth 100000 in
set_option maxHeartbeats 4000000 in
theorem c_Th_keepReached (l : Launch) (D : va_G) (cI cL cZ : ClassId) (ad : Nat → Nat) {σ : St} {x1 : Int32} {r : Int32} {σ' : St} (hF : F_Th_keepReached σ x1 = some (r, σ')) : gw_M l y_Th_keepReached w_Th_keepReached rm_Th_keepReached D gw_cl (gw_ty cI cL cZ) [.ref (ad 4), .int x1] (wC ad cI cL cZ σ) (wC ad cI cL cZ σ') (some (.int r)) := by
  refine gw_start (cc := b_Th_keepReached) (nL := 6) (ret := (some .int)) (by decide) rfl (Nat.le_of_ble_eq_true rfl) (fun p e s m below meth c A C hr _ => ?_)
  refine gw_eq (lv' := [(0, .ref (ad 4)), (1, .int x1)]) rfl rfl ?_
  unfold F_Th_keepReached at hF
  refine gw_iconst (v := 0) C d_Th_keepReached_0 (by decide) ?_
  refine gw_istore_n (lv' := [(2, .int 0), (0, .ref (ad 4)), (1, .int x1)]) C d_Th_keepReached_1 rfl (by decide) rfl ?_
  refine gw_aload_n C d_Th_keepReached_2 rfl 1 rfl ?_
  refine fg_Th_53 (v := σ.1 15) C rfl d_Th_keepReached_3 ?_
  refine gw_istore_n (lv' := [(3, .int (σ.1 15)), (2, .int 0), (0, .ref (ad 4)), (1, .int x1)]) C d_Th_keepReached_6 rfl (by decide) rfl ?_
  refine gw_iconst (v := 0) C d_Th_keepReached_7 (by decide) ?_
  refine gw_istore (lv' := [(4, .int 0), (3, .int (σ.1 15)), (2, .int 0), (0, .ref (ad 4)), (1, .int x1)]) C d_Th_keepReached_8 (by decide) rfl ?_
  refine gw_less [3, 4, 2, 1, 0] rfl ?_
  exact k_Th_keepReached_10 l C hr gw_N _ _ _ _ _ hF
set_option maxRecDepth 100000 in
set_option maxHeartbeats 4000000 in
theorem k_Wa_sweepUnreached_27 {p : Program} (l : Launch) {e : Env} {s : State} {m : MethodId} {args : Array Value} {below : List Frame} {meth : Method} {c : Code} {D : va_G} {A : Nat → Prop} {cI cL cZ : ClassId} {ad : Nat → Nat} (C : gw_C p s m args meth c b_Wa_sweepUnreached 2 R_Wa D gw_cl (gw_ty cI cL cZ) A) (hr : meth.sig.returnType = (some .int)) {r : Int32} {σ' : St} : ∀ (n : Nat) (σ : St) (x1 : Int32) (hF : K_Wa_sweepUnreached_27 n σ x1 = some (r, σ')), gw_W p l e rm_Wa_sweepUnreached s m args below meth c D gw_cl A (MQ below (gw_Qc D gw_cl (wC ad cI cL cZ σ') (some (.int r)) A) args s 0 0 A) 0 0 2 (wC ad cI cL cZ σ) [(0, .ref (ad 1)), (1, .int x1)] 27 []
  | 0, σ, x1, hF => by cases hF
  | n + 1, σ, x1, hF => by
    unfold K_Wa_sweepUnreached_27 at hF
    refine gw_iload_n C d_Wa_sweepUnreached_27 rfl 1 rfl ?_
    refine gw_sipush (v := 300) C d_Wa_sweepUnreached_28 (by decide) ?_
    refine gw_icmp_ge (tgt := 63) C d_Wa_sweepUnreached_31 (by decide) (fun h7 => ?_) (fun h7 => ?_)
    · have hF := gw_pos h7 hF
      refine gw_aload_n C d_Wa_sweepUnreached_63 rfl 0 rfl ?_
      refine fg_Wa_28 C d_Wa_sweepUnreached_64 ?_
      refine gw_aload_n C d_Wa_sweepUnreached_67 rfl 0 rfl ?_
      refine fg_Wa_81 (v := σ.1 11) C rfl d_Wa_sweepUnreached_68 ?_
      obtain ⟨r9, σ10, h8, hF⟩ := gw_bnd hF
      refine fc_Wa_277 (As := [.int (σ.1 11)]) (st := []) (σ' := σ10) C (c_Th_keepReached l D cI cL cZ ad h8) ⟨Nat.le_of_ble_eq_true rfl, Nat.le_of_ble_eq_true rfl⟩ ⟨Nat.le_of_ble_eq_true rfl, Nat.le_of_ble_eq_true rfl⟩ rfl (Nat.le_of_ble_eq_true rfl) d_Wa_sweepUnreached_71 ?_
      cases hF
      exact gw_iret C hr rfl d_Wa_sweepUnreached_74
    · have hF := gw_neg h7 hF
      refine gw_iload_n C d_Wa_sweepUnreached_34 rfl 1 rfl ?_
      refine gw_aload_n C d_Wa_sweepUnreached_35 rfl 0 rfl ?_
      refine fg_Wa_28 C d_Wa_sweepUnreached_36 ?_
      refine fg_Wa_268 (v := σ.1 16) C rfl d_Wa_sweepUnreached_39 ?_
      refine gw_icmp_ge (tgt := 63) C d_Wa_sweepUnreached_42 (by decide) (fun h11 => ?_) (fun h11 => ?_)
      · have hF := gw_pos h11 hF
        refine gw_aload_n C d_Wa_sweepUnreached_63 rfl 0 rfl ?_
        refine fg_Wa_28 C d_Wa_sweepUnreached_64 ?_
        refine gw_aload_n C d_Wa_sweepUnreached_67 rfl 0 rfl ?_
        refine fg_Wa_81 (v := σ.1 11) C rfl d_Wa_sweepUnreached_68 ?_
        obtain ⟨r13, σ14, h12, hF⟩ := gw_bnd hF
        refine fc_Wa_277 (As := [.int (σ.1 11)]) (st := []) (σ' := σ14) C (c_Th_keepReached l D cI cL cZ ad h12) ⟨Nat.le_of_ble_eq_true rfl, Nat.le_of_ble_eq_true rfl⟩ ⟨Nat.le_of_ble_eq_true rfl, Nat.le_of_ble_eq_true rfl⟩ rfl (Nat.le_of_ble_eq_true rfl) d_Wa_sweepUnreached_71 ?_
        cases hF
        exact gw_iret C hr rfl d_Wa_sweepUnreached_74
      · have hF := gw_neg h11 hF
        refine gw_aload_n C d_Wa_sweepUnreached_45 rfl 0 rfl ?_
        refine gw_aload_n C d_Wa_sweepUnreached_46 rfl 0 rfl ?_
        refine fg_Wa_28 C d_Wa_sweepUnreached_47 ?_
        refine gw_iload_n C d_Wa_sweepUnreached_50 rfl 1 rfl ?_
        obtain ⟨r16, σ17, h15, hF⟩ := gw_bnd hF
        refine fc_Wa_271 (As := [.int x1]) (st := [.ref (ad 1)]) (σ' := σ17) C (c_Th_reachedAt l D cI cL cZ ad h15) ⟨Nat.le_of_ble_eq_true rfl, Nat.le_of_ble_eq_true rfl⟩ ⟨Nat.le_of_ble_eq_true rfl, Nat.le_of_ble_eq_true rfl⟩ rfl (Nat.le_of_ble_eq_true rfl) d_Wa_sweepUnreached_51 ?_
        obtain ⟨σ19, h18, hF⟩ := gw_bndv hF
        refine fc_Wa_274 (As := [.int r16]) (st := []) (σ' := σ19) C (c_Wa_reachFromThing l D cI cL cZ ad h18) ⟨Nat.le_of_ble_eq_true rfl, Nat.le_of_ble_eq_true rfl⟩ ⟨Nat.le_of_ble_eq_true rfl, Nat.le_of_ble_eq_true rfl⟩ rfl (Nat.le_of_ble_eq_true rfl) d_Wa_sweepUnreached_54 ?_
        refine gw_iinc (q := 1) (v := x1 + 1) (lv' := [(1, .int (x1 + 1)), (0, .ref (ad 1))]) C d_Wa_sweepUnreached_57 rfl rfl (by decide) rfl ?_
        refine gw_goto (tgt := 27) C d_Wa_sweepUnreached_60 (by decide) ?_
        refine gw_less [1, 0] rfl ?_
        exact k_Wa_sweepUnreached_27 l C hr n _ _ hF
set_option maxRecDepth 100000 in
set_option maxHeartbeats 4000000 in
theorem c_Wa_sweepUnreached (l : Launch) (D : va_G) (cI cL cZ : ClassId) (ad : Nat → Nat) {σ : St} {r : Int32} {σ' : St} (hF : F_Wa_sweepUnreached σ = some (r, σ')) : gw_M l y_Wa_sweepUnreached w_Wa_sweepUnreached rm_Wa_sweepUnreached D gw_cl (gw_ty cI cL cZ) [.ref (ad 1)] (wC ad cI cL cZ σ) (wC ad cI cL cZ σ') (some (.int r)) := by
  refine gw_start (cc := b_Wa_sweepUnreached) (nL := 2) (ret := (some .int)) (by decide) rfl (Nat.le_of_ble_eq_true rfl) (fun p e s m below meth c A C hr _ => ?_)
  refine gw_eq (lv' := [(0, .ref (ad 1))]) rfl rfl ?_
  unfold F_Wa_sweepUnreached at hF
  refine gw_aload_n C d_Wa_sweepUnreached_0 rfl 0 rfl ?_
  refine gw_dup C d_Wa_sweepUnreached_1 rfl ?_
  refine fg_Wa_81 (v := σ.1 11) C rfl d_Wa_sweepUnreached_2 ?_
  refine gw_iconst (v := 1) C d_Wa_sweepUnreached_5 (by decide) ?_
  refine gw_iadd C d_Wa_sweepUnreached_6 ?_
  refine fp_Wa_81 C d_Wa_sweepUnreached_7 ?_
  refine gw_aload_n C d_Wa_sweepUnreached_10 rfl 0 rfl ?_
  refine fg_Wa_28 C d_Wa_sweepUnreached_11 ?_
  obtain ⟨σ2, h1, hF⟩ := gw_bndv hF
  refine fc_Wa_259 (As := []) (st := []) (σ' := σ2) C (c_Th_forgetReached l D cI cL cZ ad h1) ⟨Nat.le_of_ble_eq_true rfl, Nat.le_of_ble_eq_true rfl⟩ ⟨Nat.le_of_ble_eq_true rfl, Nat.le_of_ble_eq_true rfl⟩ rfl (Nat.le_of_ble_eq_true rfl) d_Wa_sweepUnreached_14 ?_
  refine gw_aload_n C d_Wa_sweepUnreached_17 rfl 0 rfl ?_
  obtain ⟨σ4, h3, hF⟩ := gw_bndv hF
  refine fc_Wa_262 (As := []) (st := []) (σ' := σ4) C (c_Wa_reachFromHand l D cI cL cZ ad h3) ⟨Nat.le_of_ble_eq_true rfl, Nat.le_of_ble_eq_true rfl⟩ ⟨Nat.le_of_ble_eq_true rfl, Nat.le_of_ble_eq_true rfl⟩ rfl (Nat.le_of_ble_eq_true rfl) d_Wa_sweepUnreached_18 ?_
  refine gw_aload_n C d_Wa_sweepUnreached_21 rfl 0 rfl ?_
  obtain ⟨σ6, h5, hF⟩ := gw_bndv hF
  refine fc_Wa_265 (As := []) (st := []) (σ' := σ6) C (c_Wa_reachFromRow l D cI cL cZ ad h5) ⟨Nat.le_of_ble_eq_true rfl, Nat.le_of_ble_eq_true rfl⟩ ⟨Nat.le_of_ble_eq_true rfl, Nat.le_of_ble_eq_true rfl⟩ rfl (Nat.le_of_ble_eq_true rfl) d_Wa_sweepUnreached_22 ?_
  refine gw_iconst (v := 0) C d_Wa_sweepUnreached_25 (by decide) ?_
  refine gw_istore_n (lv' := [(1, .int 0), (0, .ref (ad 1))]) C d_Wa_sweepUnreached_26 rfl (by decide) rfl ?_
  refine gw_less [1, 0] rfl ?_
  exact k_Wa_sweepUnreached_27 l C hr gw_N _ _ hF
set_option maxRecDepth 100000 in
set_option maxHeartbeats 4000000 in
theorem c_Te_has (l : Launch) (D : va_G) (cI cL cZ : ClassId) (ad : Nat → Nat) {σ : St} {x1 : Int32} {r : Int32} {σ' : St} (hF : F_Te_has σ x1 = some (r, σ')) : gw_M l y_Te_has w_Te_has rm_Te_has D gw_cl (gw_ty cI cL cZ) [.ref (ad 2), .int x1] (wC ad cI cL cZ σ) (wC ad cI cL cZ σ') (some (.int r)) := by
  refine gw_start (cc := b_Te_has) (nL := 2) (ret := (some .boolean)) (by decide) rfl (Nat.le_of_ble_eq_true rfl) (fun p e s m below meth c A C hr _ => ?_)
  refine gw_eq (lv' := [(0, .ref (ad 2)), (1, .int x1)]) rfl rfl ?_
  unfold F_Te_has at hF
  refine gw_iload_n C d_Te_has_0 rfl 1 rfl ?_
  refine gw_if_lt (tgt := 23) C d_Te_has_1 (by decide) (fun h1 => ?_) (fun h1 => ?_)
  · have hF := gw_pos h1 hF
    refine gw_iconst (v := 0) C d_Te_has_23 (by decide) ?_
    cases hF
    exact gw_zret C hr rfl rfl d_Te_has_24
  · have hF := gw_neg h1 hF
    refine gw_iload_n C d_Te_has_4 rfl 1 rfl ?_
    refine gw_aload_n C d_Te_has_5 rfl 0 rfl ?_
    refine fg_Te_31 (v := σ.1 12) C rfl d_Te_has_6 ?_
    refine gw_icmp_ge (tgt := 23) C d_Te_has_9 (by decide) (fun h2 => ?_) (fun h2 => ?_)
    · have hF := gw_pos h2 hF
      refine gw_iconst (v := 0) C d_Te_has_23 (by decide) ?_
      cases hF
      exact gw_zret C hr rfl rfl d_Te_has_24
    · have hF := gw_neg h2 hF
      refine gw_iload_n C d_Te_has_12 rfl 1 rfl ?_
      refine gw_sipush (v := 200) C d_Te_has_13 (by decide) ?_
      refine gw_icmp_ge (tgt := 23) C d_Te_has_16 (by decide) (fun h3 => ?_) (fun h3 => ?_)
      · have hF := gw_pos h3 hF
        refine gw_iconst (v := 0) C d_Te_has_23 (by decide) ?_
        cases hF
        exact gw_zret C hr rfl rfl d_Te_has_24
      · have hF := gw_neg h3 hF
        refine gw_iconst (v := 1) C d_Te_has_19 (by decide) ?_
        refine gw_goto (tgt := 24) C d_Te_has_20 (by decide) ?_
        cases hF
        exact gw_zret C hr rfl rfl d_Te_has_24
set_option maxRecDepth 100000 in
set_option maxHeartbeats 4000000 in
theorem c_Te_sortOf (l : Launch) (D : va_G) (cI cL cZ : ClassId) (ad : Nat → Nat) {σ : St} {x1 : Int32} {r : Int32} {σ' : St} (hF : F_Te_sortOf σ x1 = some (r, σ')) : gw_M l y_Te_sortOf w_Te_sortOf rm_Te_sortOf D gw_cl (gw_ty cI cL cZ) [.ref (ad 2), .int x1] (wC ad cI cL cZ σ) (wC ad cI cL cZ σ') (some (.int r)) := by
  refine gw_start (cc := b_Te_sortOf) (nL := 2) (ret := (some .int)) (by decide) rfl (Nat.le_of_ble_eq_true rfl) (fun p e s m below meth c A C hr _ => ?_)
  refine gw_eq (lv' := [(0, .ref (ad 2)), (1, .int x1)]) rfl rfl ?_
  unfold F_Te_sortOf at hF
  refine gw_aload_n C d_Te_sortOf_0 rfl 0 rfl ?_
  refine gw_iload_n C d_Te_sortOf_1 rfl 1 rfl ?_
  obtain ⟨r2, σ3, h1, hF⟩ := gw_bnd hF
  refine fc_Te_52 (As := [.int x1]) (st := []) (σ' := σ3) C (c_Te_has l D cI cL cZ ad h1) ⟨Nat.le_of_ble_eq_true rfl, Nat.le_of_ble_eq_true rfl⟩ ⟨Nat.le_of_ble_eq_true rfl, Nat.le_of_ble_eq_true rfl⟩ rfl (Nat.le_of_ble_eq_true rfl) d_Te_sortOf_2 ?_
  refine gw_if_eq (tgt := 17) C d_Te_sortOf_5 (by decide) (fun h4 => ?_) (fun h4 => ?_)
  · have hF := gw_pos h4 hF
    refine gw_iconst (v := (-1)) C d_Te_sortOf_17 (by decide) ?_
    cases hF
    exact gw_iret C hr rfl d_Te_sortOf_18
  · have hF := gw_neg h4 hF
    refine gw_aload_n C d_Te_sortOf_8 rfl 0 rfl ?_
    refine fg_Te_9 C d_Te_sortOf_9 ?_
    refine gw_iload_n C d_Te_sortOf_12 rfl 1 rfl ?_
    obtain ⟨h5, hF⟩ := gw_grd hF
    refine alwC_7 (v := σ3.2.1 0 x1.toNatClampNeg) C h5 rfl d_Te_sortOf_13 ?_
    refine gw_goto (tgt := 18) C d_Te_sortOf_14 (by decide) ?_
    cases hF
    exact gw_iret C hr rfl d_Te_sortOf_18
set_option maxRecDepth 100000 in
set_option maxHeartbeats 4000000 in
theorem c_Te_numberOf (l : Launch) (D : va_G) (cI cL cZ : ClassId) (ad : Nat → Nat) {σ : St} {x1 : Int32} {r : Int64} {σ' : St} (hF : F_Te_numberOf σ x1 = some (r, σ')) : gw_M l y_Te_numberOf w_Te_numberOf rm_Te_numberOf D gw_cl (gw_ty cI cL cZ) [.ref (ad 2), .int x1] (wC ad cI cL cZ σ) (wC ad cI cL cZ σ') (some (.long r)) := by
  refine gw_start (cc := b_Te_numberOf) (nL := 2) (ret := (some .long)) (by decide) rfl (Nat.le_of_ble_eq_true rfl) (fun p e s m below meth c A C hr _ => ?_)
  refine gw_eq (lv' := [(0, .ref (ad 2)), (1, .int x1)]) rfl rfl ?_
  unfold F_Te_numberOf at hF
  refine gw_aload_n C d_Te_numberOf_0 rfl 0 rfl ?_
  refine gw_iload_n C d_Te_numberOf_1 rfl 1 rfl ?_
  obtain ⟨r2, σ3, h1, hF⟩ := gw_bnd hF
  refine fc_Te_52 (As := [.int x1]) (st := []) (σ' := σ3) C (c_Te_has l D cI cL cZ ad h1) ⟨Nat.le_of_ble_eq_true rfl, Nat.le_of_ble_eq_true rfl⟩ ⟨Nat.le_of_ble_eq_true rfl, Nat.le_of_ble_eq_true rfl⟩ rfl (Nat.le_of_ble_eq_true rfl) d_Te_numberOf_2 ?_
  refine gw_if_eq (tgt := 17) C d_Te_numberOf_5 (by decide) (fun h4 => ?_) (fun h4 => ?_)
  · have hF := gw_pos h4 hF
    refine gw_lconst (v := 0) C d_Te_numberOf_17 rfl ?_
    cases hF
    exact gw_lret C hr rfl d_Te_numberOf_18
  · have hF := gw_neg h4 hF
    refine gw_aload_n C d_Te_numberOf_8 rfl 0 rfl ?_
    refine fg_Te_24 C d_Te_numberOf_9 ?_
    refine gw_iload_n C d_Te_numberOf_12 rfl 1 rfl ?_
    obtain ⟨h5, hF⟩ := gw_grd hF
    refine alwC_11 (v := σ3.2.2.2 0 x1.toNatClampNeg) C h5 rfl d_Te_numberOf_13 ?_
    refine gw_goto (tgt := 18) C d_Te_numberOf_14 (by decide) ?_
    cases hF
    exact gw_lret C hr rfl d_Te_numberOf_18
set_option maxRecDepth 100000 in
set_option maxHeartbeats 4000000 in
theorem c_Va_beLambda (l : Launch) (D : va_G) (cI cL cZ : ClassId) (ad : Nat → Nat) {σ : St} {x1 : Int32} {x2 : Int32} {σ' : St} (hF : F_Va_beLambda σ x1 x2 = some σ') : gw_M l y_Va_beLambda w_Va_beLambda rm_Va_beLambda D gw_cl (gw_ty cI cL cZ) [.ref (ad 6), .int x1, .int x2] (wC ad cI cL cZ σ) (wC ad cI cL cZ σ') none := by
  refine gw_start (cc := b_Va_beLambda) (nL := 3) (ret := none) (by decide) rfl (Nat.le_of_ble_eq_true rfl) (fun p e s m below meth c A C hr _ => ?_)
  refine gw_eq (lv' := [(0, .ref (ad 6)), (1, .int x1), (2, .int x2)]) rfl rfl ?_
  unfold F_Va_beLambda at hF
  refine gw_aload_n C d_Va_beLambda_0 rfl 0 rfl ?_
  refine gw_iconst (v := 1) C d_Va_beLambda_1 (by decide) ?_
  refine gw_lconst (v := 0) C d_Va_beLambda_2 rfl ?_
  refine gw_iload_n C d_Va_beLambda_3 rfl 1 rfl ?_
  refine gw_iload_n C d_Va_beLambda_4 rfl 2 rfl ?_
  obtain ⟨σ2, h1, hF⟩ := gw_bndv hF
  refine fc_Va_25 (As := [.int 1, .long 0, .int x1, .int x2]) (st := []) (σ' := σ2) C (c_Va_be l D cI cL cZ ad h1) ⟨Nat.le_of_ble_eq_true rfl, Nat.le_of_ble_eq_true rfl⟩ ⟨Nat.le_of_ble_eq_true rfl, Nat.le_of_ble_eq_true rfl⟩ rfl (Nat.le_of_ble_eq_true rfl) d_Va_beLambda_5 ?_
  cases hF
  exact gw_vret C hr rfl d_Va_beLambda_8
set_option maxRecDepth 100000 in
set_option maxHeartbeats 4000000 in
theorem c_Te_firstOf (l : Launch) (D : va_G) (cI cL cZ : ClassId) (ad : Nat → Nat) {σ : St} {x1 : Int32} {r : Int32} {σ' : St} (hF : F_Te_firstOf σ x1 = some (r, σ')) : gw_M l y_Te_firstOf w_Te_firstOf rm_Te_firstOf D gw_cl (gw_ty cI cL cZ) [.ref (ad 2), .int x1] (wC ad cI cL cZ σ) (wC ad cI cL cZ σ') (some (.int r)) := by
  refine gw_start (cc := b_Te_firstOf) (nL := 2) (ret := (some .int)) (by decide) rfl (Nat.le_of_ble_eq_true rfl) (fun p e s m below meth c A C hr _ => ?_)
  refine gw_eq (lv' := [(0, .ref (ad 2)), (1, .int x1)]) rfl rfl ?_
  unfold F_Te_firstOf at hF
  refine gw_aload_n C d_Te_firstOf_0 rfl 0 rfl ?_
  refine gw_iload_n C d_Te_firstOf_1 rfl 1 rfl ?_
  obtain ⟨r2, σ3, h1, hF⟩ := gw_bnd hF
  refine fc_Te_52 (As := [.int x1]) (st := []) (σ' := σ3) C (c_Te_has l D cI cL cZ ad h1) ⟨Nat.le_of_ble_eq_true rfl, Nat.le_of_ble_eq_true rfl⟩ ⟨Nat.le_of_ble_eq_true rfl, Nat.le_of_ble_eq_true rfl⟩ rfl (Nat.le_of_ble_eq_true rfl) d_Te_firstOf_2 ?_
  refine gw_if_eq (tgt := 17) C d_Te_firstOf_5 (by decide) (fun h4 => ?_) (fun h4 => ?_)
  · have hF := gw_pos h4 hF
    refine gw_iconst (v := (-1)) C d_Te_firstOf_17 (by decide) ?_
    cases hF
    exact gw_iret C hr rfl d_Te_firstOf_18
  · have hF := gw_neg h4 hF
    refine gw_aload_n C d_Te_firstOf_8 rfl 0 rfl ?_
    refine fg_Te_15 C d_Te_firstOf_9 ?_
    refine gw_iload_n C d_Te_firstOf_12 rfl 1 rfl ?_
    obtain ⟨h5, hF⟩ := gw_grd hF
    refine alwC_8 (v := σ3.2.1 1 x1.toNatClampNeg) C h5 rfl d_Te_firstOf_13 ?_
    refine gw_goto (tgt := 18) C d_Te_firstOf_14 (by decide) ?_
    cases hF
    exact gw_iret C hr rfl d_Te_firstOf_18
set_option maxRecDepth 100000 in
set_option maxHeartbeats 4000000 in
theorem k_Pl_thingAt_5 {p : Program} (l : Launch) {e : Env} {s : State} {m : MethodId} {args : Array Value} {below : List Frame} {meth : Method} {c : Code} {D : va_G} {A : Nat → Prop} {cI cL cZ : ClassId} {ad : Nat → Nat} (C : gw_C p s m args meth c b_Pl_thingAt 5 R_Pl D gw_cl (gw_ty cI cL cZ) A) (hr : meth.sig.returnType = (some .int)) {r : Int32} {σ' : St} : ∀ (n : Nat) (σ : St) (x2 : Int32) (x3 : Int32) (x4 : Int32) (hF : K_Pl_thingAt_5 n σ x2 x3 x4 = some (r, σ')), gw_W p l e rm_Pl_thingAt s m args below meth c D gw_cl A (MQ below (gw_Qc D gw_cl (wC ad cI cL cZ σ') (some (.int r)) A) args s 0 0 A) 0 0 5 (wC ad cI cL cZ σ) [(0, .ref (ad 3)), (2, .int x2), (3, .int x3), (4, .int x4)] 5 []
  | 0, σ, x2, x3, x4, hF => by cases hF
  | n + 1, σ, x2, x3, x4, hF => by
    unfold K_Pl_thingAt_5 at hF
    refine gw_iload C d_Pl_thingAt_5 3 rfl ?_
    refine gw_iload_n C d_Pl_thingAt_7 rfl 1 rfl ?_
    refine gw_icmp_ge (tgt := 32) C d_Pl_thingAt_8 (by decide) (fun h1 => ?_) (fun h1 => ?_)
    · have hF := gw_pos h1 hF
      refine gw_aload_n C d_Pl_thingAt_32 rfl 0 rfl ?_
      refine gw_iload_n C d_Pl_thingAt_33 rfl 2 rfl ?_
      obtain ⟨r3, σ4, h2, hF⟩ := gw_bnd hF
      refine fc_Pl_25 (As := [.int x3]) (st := []) (σ' := σ4) C (c_Pl_has l D cI cL cZ ad h2) ⟨Nat.le_of_ble_eq_true rfl, Nat.le_of_ble_eq_true rfl⟩ ⟨Nat.le_of_ble_eq_true rfl, Nat.le_of_ble_eq_true rfl⟩ rfl (Nat.le_of_ble_eq_true rfl) d_Pl_thingAt_34 ?_
      refine gw_if_eq (tgt := 49) C d_Pl_thingAt_37 (by decide) (fun h5 => ?_) (fun h5 => ?_)
      · have hF := gw_pos h5 hF
        refine gw_iconst (v := (-1)) C d_Pl_thingAt_49 (by decide) ?_
        cases hF
        exact gw_iret C hr rfl d_Pl_thingAt_50
      · have hF := gw_neg h5 hF
        refine gw_aload_n C d_Pl_thingAt_40 rfl 0 rfl ?_
        refine fg_Pl_9 C d_Pl_thingAt_41 ?_
        refine gw_iload_n C d_Pl_thingAt_44 rfl 2 rfl ?_
        obtain ⟨h6, hF⟩ := gw_grd hF
        refine alwC_13 (v := σ4.2.1 5 x3.toNatClampNeg) C h6 rfl d_Pl_thingAt_45 ?_
        refine gw_goto (tgt := 50) C d_Pl_thingAt_46 (by decide) ?_
        cases hF
        exact gw_iret C hr rfl d_Pl_thingAt_50
    · have hF := gw_neg h1 hF
      refine gw_aload_n C d_Pl_thingAt_11 rfl 0 rfl ?_
      refine gw_iload_n C d_Pl_thingAt_12 rfl 2 rfl ?_
      obtain ⟨r8, σ9, h7, hF⟩ := gw_bnd hF
      refine fc_Pl_25 (As := [.int x3]) (st := []) (σ' := σ9) C (c_Pl_has l D cI cL cZ ad h7) ⟨Nat.le_of_ble_eq_true rfl, Nat.le_of_ble_eq_true rfl⟩ ⟨Nat.le_of_ble_eq_true rfl, Nat.le_of_ble_eq_true rfl⟩ rfl (Nat.le_of_ble_eq_true rfl) d_Pl_thingAt_13 ?_
      refine gw_if_eq (tgt := 32) C d_Pl_thingAt_16 (by decide) (fun h10 => ?_) (fun h10 => ?_)
      · have hF := gw_pos h10 hF
        refine gw_aload_n C d_Pl_thingAt_32 rfl 0 rfl ?_
        refine gw_iload_n C d_Pl_thingAt_33 rfl 2 rfl ?_
        obtain ⟨r12, σ13, h11, hF⟩ := gw_bnd hF
        refine fc_Pl_25 (As := [.int x3]) (st := []) (σ' := σ13) C (c_Pl_has l D cI cL cZ ad h11) ⟨Nat.le_of_ble_eq_true rfl, Nat.le_of_ble_eq_true rfl⟩ ⟨Nat.le_of_ble_eq_true rfl, Nat.le_of_ble_eq_true rfl⟩ rfl (Nat.le_of_ble_eq_true rfl) d_Pl_thingAt_34 ?_
        refine gw_if_eq (tgt := 49) C d_Pl_thingAt_37 (by decide) (fun h14 => ?_) (fun h14 => ?_)
        · have hF := gw_pos h14 hF
          refine gw_iconst (v := (-1)) C d_Pl_thingAt_49 (by decide) ?_
          cases hF
          exact gw_iret C hr rfl d_Pl_thingAt_50
        · have hF := gw_neg h14 hF
          refine gw_aload_n C d_Pl_thingAt_40 rfl 0 rfl ?_
          refine fg_Pl_9 C d_Pl_thingAt_41 ?_
          refine gw_iload_n C d_Pl_thingAt_44 rfl 2 rfl ?_
          obtain ⟨h15, hF⟩ := gw_grd hF
          refine alwC_13 (v := σ13.2.1 5 x3.toNatClampNeg) C h15 rfl d_Pl_thingAt_45 ?_
          refine gw_goto (tgt := 50) C d_Pl_thingAt_46 (by decide) ?_
          cases hF
          exact gw_iret C hr rfl d_Pl_thingAt_50
      · have hF := gw_neg h10 hF
        refine gw_aload_n C d_Pl_thingAt_19 rfl 0 rfl ?_
        refine fg_Pl_15 C d_Pl_thingAt_20 ?_
        refine gw_iload_n C d_Pl_thingAt_23 rfl 2 rfl ?_
        obtain ⟨h16, hF⟩ := gw_grd hF
        refine alwC_14 (v := σ9.2.1 6 x3.toNatClampNeg) C h16 rfl d_Pl_thingAt_24 ?_
        refine gw_istore_n (lv' := [(3, .int (σ9.2.1 6 x3.toNatClampNeg)), (0, .ref (ad 3)), (2, .int x2), (4, .int x4)]) C d_Pl_thingAt_25 rfl (by decide) rfl ?_
        refine gw_iinc (q := 3) (v := x4 + 1) (lv' := [(4, .int (x4 + 1)), (3, .int (σ9.2.1 6 x3.toNatClampNeg)), (0, .ref (ad 3)), (2, .int x2)]) C d_Pl_thingAt_26 rfl rfl (by decide) rfl ?_
        refine gw_goto (tgt := 5) C d_Pl_thingAt_29 (by decide) ?_
        refine gw_less [2, 3, 1, 0] rfl ?_
        exact k_Pl_thingAt_5 l C hr n _ _ _ _ hF
set_option maxRecDepth 100000 in
set_option maxHeartbeats 4000000 in
theorem c_Pl_thingAt (l : Launch) (D : va_G) (cI cL cZ : ClassId) (ad : Nat → Nat) {σ : St} {x1 : Int32} {x2 : Int32} {r : Int32} {σ' : St} (hF : F_Pl_thingAt σ x1 x2 = some (r, σ')) : gw_M l y_Pl_thingAt w_Pl_thingAt rm_Pl_thingAt D gw_cl (gw_ty cI cL cZ) [.ref (ad 3), .int x1, .int x2] (wC ad cI cL cZ σ) (wC ad cI cL cZ σ') (some (.int r)) := by
  refine gw_start (cc := b_Pl_thingAt) (nL := 5) (ret := (some .int)) (by decide) rfl (Nat.le_of_ble_eq_true rfl) (fun p e s m below meth c A C hr _ => ?_)
  refine gw_eq (lv' := [(0, .ref (ad 3)), (1, .int x1), (2, .int x2)]) rfl rfl ?_
  unfold F_Pl_thingAt at hF
  refine gw_iload_n C d_Pl_thingAt_0 rfl 1 rfl ?_
  refine gw_istore_n (lv' := [(3, .int x1), (0, .ref (ad 3)), (1, .int x1), (2, .int x2)]) C d_Pl_thingAt_1 rfl (by decide) rfl ?_
  refine gw_iconst (v := 0) C d_Pl_thingAt_2 (by decide) ?_
  refine gw_istore (lv' := [(4, .int 0), (3, .int x1), (0, .ref (ad 3)), (1, .int x1), (2, .int x2)]) C d_Pl_thingAt_3 (by decide) rfl ?_
  refine gw_less [2, 4, 1, 0] rfl ?_
  exact k_Pl_thingAt_5 l C hr gw_N _ _ _ _ hF
set_option maxRecDepth 100000 in
set_option maxHeartbeats 4000000 in
theorem c_Ro_drop (l : Launch) (D : va_G) (cI cL cZ : ClassId) (ad : Nat → Nat) {σ : St} {σ' : St} (hF : F_Ro_drop σ = some σ') : gw_M l y_Ro_drop w_Ro_drop rm_Ro_drop D gw_cl (gw_ty cI cL cZ) [.ref (ad 5)] (wC ad cI cL cZ σ) (wC ad cI cL cZ σ') none := by
  refine gw_start (cc := b_Ro_drop) (nL := 1) (ret := none) (by decide) rfl (Nat.le_of_ble_eq_true rfl) (fun p e s m below meth c A C hr _ => ?_)
  refine gw_eq (lv' := [(0, .ref (ad 5))]) rfl rfl ?_
  unfold F_Ro_drop at hF
  refine gw_aload_n C d_Ro_drop_0 rfl 0 rfl ?_
  refine fg_Ro_25 (v := σ.1 17) C rfl d_Ro_drop_1 ?_
  refine gw_if_le (tgt := 17) C d_Ro_drop_4 (by decide) (fun h1 => ?_) (fun h1 => ?_)
  · have hF := gw_pos h1 hF
    cases hF
    exact gw_vret C hr rfl d_Ro_drop_17
  · have hF := gw_neg h1 hF
    refine gw_aload_n C d_Ro_drop_7 rfl 0 rfl ?_
    refine gw_dup C d_Ro_drop_8 rfl ?_
    refine fg_Ro_25 (v := σ.1 17) C rfl d_Ro_drop_9 ?_
    refine gw_iconst (v := 1) C d_Ro_drop_12 (by decide) ?_
    refine gw_isub C d_Ro_drop_13 ?_
    refine fp_Ro_25 C d_Ro_drop_14 ?_
    cases hF
    exact gw_vret C hr rfl d_Ro_drop_17
set_option maxRecDepth 100000 in
set_option maxHeartbeats 4000000 in
theorem c_Th_copyValue (l : Launch) (D : va_G) (cI cL cZ : ClassId) (ad : Nat → Nat) {σ : St} {x1 : Int32} {σ' : St} (hF : F_Th_copyValue σ x1 = some σ') : gw_M l y_Th_copyValue w_Th_copyValue rm_Th_copyValue D gw_cl (gw_ty cI cL cZ) [.ref (ad 4), .int x1, .ref (ad 6)] (wC ad cI cL cZ σ) (wC ad cI cL cZ σ') none := by
  refine gw_start (cc := b_Th_copyValue) (nL := 3) (ret := none) (by decide) rfl (Nat.le_of_ble_eq_true rfl) (fun p e s m below meth c A C hr _ => ?_)
  refine gw_eq (lv' := [(0, .ref (ad 4)), (1, .int x1), (2, .ref (ad 6))]) rfl rfl ?_
  unfold F_Th_copyValue at hF
  refine gw_aload_n C d_Th_copyValue_0 rfl 0 rfl ?_
  refine gw_iload_n C d_Th_copyValue_1 rfl 1 rfl ?_
  obtain ⟨r2, σ3, h1, hF⟩ := gw_bnd hF
  refine fc_Th_59 (As := [.int x1]) (st := []) (σ' := σ3) C (c_Th_has l D cI cL cZ ad h1) ⟨Nat.le_of_ble_eq_true rfl, Nat.le_of_ble_eq_true rfl⟩ ⟨Nat.le_of_ble_eq_true rfl, Nat.le_of_ble_eq_true rfl⟩ rfl (Nat.le_of_ble_eq_true rfl) d_Th_copyValue_2 ?_
  refine gw_if_eq (tgt := 40) C d_Th_copyValue_5 (by decide) (fun h4 => ?_) (fun h4 => ?_)
  · have hF := gw_pos h4 hF
    cases hF
    exact gw_vret C hr rfl d_Th_copyValue_40
  · have hF := gw_neg h4 hF
    refine gw_aload_n C d_Th_copyValue_8 rfl 2 rfl ?_
    refine gw_ifnull C d_Th_copyValue_9 ?_
    refine gw_aload_n C d_Th_copyValue_12 rfl 2 rfl ?_
    refine gw_aload_n C d_Th_copyValue_13 rfl 0 rfl ?_
    refine fg_Th_27 C d_Th_copyValue_14 ?_
    refine gw_iload_n C d_Th_copyValue_17 rfl 1 rfl ?_
    obtain ⟨h5, hF⟩ := gw_grd hF
    refine alwC_21 (v := σ3.2.1 13 x1.toNatClampNeg) C h5 rfl d_Th_copyValue_18 ?_
    refine gw_aload_n C d_Th_copyValue_19 rfl 0 rfl ?_
    refine fg_Th_30 C d_Th_copyValue_20 ?_
    refine gw_iload_n C d_Th_copyValue_23 rfl 1 rfl ?_
    obtain ⟨h6, hF⟩ := gw_grd hF
    refine alwC_22 (v := σ3.2.2.2 1 x1.toNatClampNeg) C h6 rfl d_Th_copyValue_24 ?_
    refine gw_aload_n C d_Th_copyValue_25 rfl 0 rfl ?_
    refine fg_Th_34 C d_Th_copyValue_26 ?_
    refine gw_iload_n C d_Th_copyValue_29 rfl 1 rfl ?_
    obtain ⟨h7, hF⟩ := gw_grd hF
    refine alwC_23 (v := σ3.2.1 14 x1.toNatClampNeg) C h7 rfl d_Th_copyValue_30 ?_
    refine gw_aload_n C d_Th_copyValue_31 rfl 0 rfl ?_
    refine fg_Th_37 C d_Th_copyValue_32 ?_
    refine gw_iload_n C d_Th_copyValue_35 rfl 1 rfl ?_
    obtain ⟨h8, hF⟩ := gw_grd hF
    refine alwC_24 (v := σ3.2.1 15 x1.toNatClampNeg) C h8 rfl d_Th_copyValue_36 ?_
    obtain ⟨σ10, h9, hF⟩ := gw_bndv hF
    refine fc_Th_78 (As := [.int (σ3.2.1 13 x1.toNatClampNeg), .long (σ3.2.2.2 1 x1.toNatClampNeg), .int (σ3.2.1 14 x1.toNatClampNeg), .int (σ3.2.1 15 x1.toNatClampNeg)]) (st := []) (σ' := σ10) C (c_Va_be l D cI cL cZ ad h9) ⟨Nat.le_of_ble_eq_true rfl, Nat.le_of_ble_eq_true rfl⟩ ⟨Nat.le_of_ble_eq_true rfl, Nat.le_of_ble_eq_true rfl⟩ rfl (Nat.le_of_ble_eq_true rfl) d_Th_copyValue_37 ?_
    cases hF
    exact gw_vret C hr rfl d_Th_copyValue_40
set_option maxRecDepth 100000 in
set_option maxHeartbeats 4000000 in
theorem c_Ro_isFull (l : Launch) (D : va_G) (cI cL cZ : ClassId) (ad : Nat → Nat) {σ : St} {r : Int32} {σ' : St} (hF : F_Ro_isFull σ = some (r, σ')) : gw_M l y_Ro_isFull w_Ro_isFull rm_Ro_isFull D gw_cl (gw_ty cI cL cZ) [.ref (ad 5)] (wC ad cI cL cZ σ) (wC ad cI cL cZ σ') (some (.int r)) := by
  refine gw_start (cc := b_Ro_isFull) (nL := 1) (ret := (some .boolean)) (by decide) rfl (Nat.le_of_ble_eq_true rfl) (fun p e s m below meth c A C hr _ => ?_)
  refine gw_eq (lv' := [(0, .ref (ad 5))]) rfl rfl ?_
  unfold F_Ro_isFull at hF
  refine gw_aload_n C d_Ro_isFull_0 rfl 0 rfl ?_
  refine fg_Ro_25 (v := σ.1 17) C rfl d_Ro_isFull_1 ?_
  refine gw_sipush (v := 300) C d_Ro_isFull_4 (by decide) ?_
  refine gw_icmp_lt (tgt := 14) C d_Ro_isFull_7 (by decide) (fun h1 => ?_) (fun h1 => ?_)
  · have hF := gw_pos h1 hF
    refine gw_iconst (v := 0) C d_Ro_isFull_14 (by decide) ?_
    cases hF
    exact gw_zret C hr rfl rfl d_Ro_isFull_15
  · have hF := gw_neg h1 hF
    refine gw_iconst (v := 1) C d_Ro_isFull_10 (by decide) ?_
    refine gw_goto (tgt := 15) C d_Ro_isFull_11 (by decide) ?_
    cases hF
    exact gw_zret C hr rfl rfl d_Ro_isFull_15
set_option maxRecDepth 100000 in
set_option maxHeartbeats 4000000 in
theorem c_Th_countWork (l : Launch) (D : va_G) (cI cL cZ : ClassId) (ad : Nat → Nat) {σ : St} {x1 : Int32} {σ' : St} (hF : F_Th_countWork σ x1 = some σ') : gw_M l y_Th_countWork w_Th_countWork rm_Th_countWork D gw_cl (gw_ty cI cL cZ) [.ref (ad 4), .int x1] (wC ad cI cL cZ σ) (wC ad cI cL cZ σ') none := by
  refine gw_start (cc := b_Th_countWork) (nL := 2) (ret := none) (by decide) rfl (Nat.le_of_ble_eq_true rfl) (fun p e s m below meth c A C hr _ => ?_)
  refine gw_eq (lv' := [(0, .ref (ad 4)), (1, .int x1)]) rfl rfl ?_
  unfold F_Th_countWork at hF
  refine gw_aload_n C d_Th_countWork_0 rfl 0 rfl ?_
  refine gw_iload_n C d_Th_countWork_1 rfl 1 rfl ?_
  obtain ⟨r2, σ3, h1, hF⟩ := gw_bnd hF
  refine fc_Th_59 (As := [.int x1]) (st := []) (σ' := σ3) C (c_Th_has l D cI cL cZ ad h1) ⟨Nat.le_of_ble_eq_true rfl, Nat.le_of_ble_eq_true rfl⟩ ⟨Nat.le_of_ble_eq_true rfl, Nat.le_of_ble_eq_true rfl⟩ rfl (Nat.le_of_ble_eq_true rfl) d_Th_countWork_2 ?_
  refine gw_if_eq (tgt := 18) C d_Th_countWork_5 (by decide) (fun h4 => ?_) (fun h4 => ?_)
  · have hF := gw_pos h4 hF
    cases hF
    exact gw_vret C hr rfl d_Th_countWork_18
  · have hF := gw_neg h4 hF
    refine gw_aload_n C d_Th_countWork_8 rfl 0 rfl ?_
    refine fg_Th_21 C d_Th_countWork_9 ?_
    refine gw_iload_n C d_Th_countWork_12 rfl 1 rfl ?_
    refine gw_dup2_11 C d_Th_countWork_13 rfl rfl ?_
    obtain ⟨h5, hF⟩ := gw_grd hF
    refine alwC_19 (v := σ3.2.1 11 x1.toNatClampNeg) C h5 rfl d_Th_countWork_14 ?_
    refine gw_iconst (v := 1) C d_Th_countWork_15 (by decide) ?_
    refine gw_iadd C d_Th_countWork_16 ?_
    obtain ⟨h6, hF⟩ := gw_grd hF
    refine aswC_19 C h6 d_Th_countWork_17 ?_
    cases hF
    exact gw_vret C hr rfl d_Th_countWork_18
set_option maxRecDepth 100000 in
set_option maxHeartbeats 4000000 in
theorem k_Ro_newestInWork_7 {p : Program} (l : Launch) {e : Env} {s : State} {m : MethodId} {args : Array Value} {below : List Frame} {meth : Method} {c : Code} {D : va_G} {A : Nat → Prop} {cI cL cZ : ClassId} {ad : Nat → Nat} (C : gw_C p s m args meth c b_Ro_newestInWork 2 R_Ro D gw_cl (gw_ty cI cL cZ) A) (hr : meth.sig.returnType = (some .int)) {r : Int32} {σ' : St} : ∀ (n : Nat) (σ : St) (x1 : Int32) (hF : K_Ro_newestInWork_7 n σ x1 = some (r, σ')), gw_W p l e rm_Ro_newestInWork s m args below meth c D gw_cl A (MQ below (gw_Qc D gw_cl (wC ad cI cL cZ σ') (some (.int r)) A) args s 0 0 A) 0 0 2 (wC ad cI cL cZ σ) [(0, .ref (ad 5)), (1, .int x1)] 7 []
  | 0, σ, x1, hF => by cases hF
  | n + 1, σ, x1, hF => by
    unfold K_Ro_newestInWork_7 at hF
    refine gw_iload_n C d_Ro_newestInWork_7 rfl 1 rfl ?_
    refine gw_if_lt (tgt := 40) C d_Ro_newestInWork_8 (by decide) (fun h1 => ?_) (fun h1 => ?_)
    · have hF := gw_pos h1 hF
      refine gw_iconst (v := (-1)) C d_Ro_newestInWork_40 (by decide) ?_
      cases hF
      exact gw_iret C hr rfl d_Ro_newestInWork_41
    · have hF := gw_neg h1 hF
      refine gw_iload_n C d_Ro_newestInWork_11 rfl 1 rfl ?_
      refine gw_sipush (v := 300) C d_Ro_newestInWork_12 (by decide) ?_
      refine gw_icmp_ge (tgt := 34) C d_Ro_newestInWork_15 (by decide) (fun h2 => ?_) (fun h2 => ?_)
      · have hF := gw_pos h2 hF
        refine gw_iinc (q := 1) (v := x1 + (-1)) (lv' := [(1, .int (x1 + (-1))), (0, .ref (ad 5))]) C d_Ro_newestInWork_34 rfl rfl (by decide) rfl ?_
        refine gw_goto (tgt := 7) C d_Ro_newestInWork_37 (by decide) ?_
        refine gw_less [1, 0] rfl ?_
        exact k_Ro_newestInWork_7 l C hr n _ _ hF
      · have hF := gw_neg h2 hF
        refine gw_aload_n C d_Ro_newestInWork_18 rfl 0 rfl ?_
        refine fg_Ro_9 C d_Ro_newestInWork_19 ?_
        refine gw_iload_n C d_Ro_newestInWork_22 rfl 1 rfl ?_
        obtain ⟨h3, hF⟩ := gw_grd hF
        refine alwC_28 (v := σ.2.1 19 x1.toNatClampNeg) C h3 rfl d_Ro_newestInWork_23 ?_
        refine gw_if_ne (tgt := 34) C d_Ro_newestInWork_24 (by decide) (fun h4 => ?_) (fun h4 => ?_)
        · have hF := gw_neg h4 hF
          refine gw_iinc (q := 1) (v := x1 + (-1)) (lv' := [(1, .int (x1 + (-1))), (0, .ref (ad 5))]) C d_Ro_newestInWork_34 rfl rfl (by decide) rfl ?_
          refine gw_goto (tgt := 7) C d_Ro_newestInWork_37 (by decide) ?_
          refine gw_less [1, 0] rfl ?_
          exact k_Ro_newestInWork_7 l C hr n _ _ hF
        · have hF := gw_pos h4 hF
          refine gw_aload_n C d_Ro_newestInWork_27 rfl 0 rfl ?_
          refine fg_Ro_15 C d_Ro_newestInWork_28 ?_
          refine gw_iload_n C d_Ro_newestInWork_31 rfl 1 rfl ?_
          obtain ⟨h5, hF⟩ := gw_grd hF
          refine alwC_29 (v := σ.2.1 20 x1.toNatClampNeg) C h5 rfl d_Ro_newestInWork_32 ?_
          cases hF
          exact gw_iret C hr rfl d_Ro_newestInWork_33
set_option maxRecDepth 100000 in
set_option maxHeartbeats 4000000 in
theorem c_Ro_newestInWork (l : Launch) (D : va_G) (cI cL cZ : ClassId) (ad : Nat → Nat) {σ : St} {r : Int32} {σ' : St} (hF : F_Ro_newestInWork σ = some (r, σ')) : gw_M l y_Ro_newestInWork w_Ro_newestInWork rm_Ro_newestInWork D gw_cl (gw_ty cI cL cZ) [.ref (ad 5)] (wC ad cI cL cZ σ) (wC ad cI cL cZ σ') (some (.int r)) := by
  refine gw_start (cc := b_Ro_newestInWork) (nL := 2) (ret := (some .int)) (by decide) rfl (Nat.le_of_ble_eq_true rfl) (fun p e s m below meth c A C hr _ => ?_)
  refine gw_eq (lv' := [(0, .ref (ad 5))]) rfl rfl ?_
  unfold F_Ro_newestInWork at hF
  refine gw_aload_n C d_Ro_newestInWork_0 rfl 0 rfl ?_
  refine fg_Ro_25 (v := σ.1 17) C rfl d_Ro_newestInWork_1 ?_
  refine gw_iconst (v := 1) C d_Ro_newestInWork_4 (by decide) ?_
  refine gw_isub C d_Ro_newestInWork_5 ?_
  refine gw_istore_n (lv' := [(1, .int ((σ.1 17) - 1)), (0, .ref (ad 5))]) C d_Ro_newestInWork_6 rfl (by decide) rfl ?_
  refine gw_less [1, 0] rfl ?_
  exact k_Ro_newestInWork_7 l C hr gw_N _ _ hF
