set_option maxRecDepth 100000 in
set_option maxHeartbeats 4000000 in
theorem c_Mo_thrown (l : Launch) (D : va_G) (cI cL cZ : ClassId) (ad : Nat → Nat) {σ : St} {r : Int32} {σ' : St} (hF : F_Mo_thrown σ = some (r, σ')) : gw_M l y_Mo_thrown w_Mo_thrown rm_Mo_thrown D gw_cl (gw_ty cI cL cZ) [.ref (ad 0)] (wM ad cI cL cZ σ) (wM ad cI cL cZ σ') (some (.int r)) := by
  refine gw_start (cc := b_Mo_thrown) (nL := 1) (ret := (some .int)) (by decide) rfl (Nat.le_of_ble_eq_true rfl) (fun p e s m below meth c A C hr _ => ?_)
  refine gw_eq (lv' := [(0, .ref (ad 0))]) rfl rfl ?_
  unfold F_Mo_thrown at hF
  refine gw_aload_n C d_Mo_thrown_0 rfl 0 rfl ?_
  refine fg_Mo_87 (v := σ.1 20) C rfl d_Mo_thrown_1 ?_
  cases hF
  exact gw_iret C hr rfl d_Mo_thrown_4
set_option maxRecDepth 100000 in
set_option maxHeartbeats 4000000 in
theorem c_Mo_isTerm (l : Launch) (D : va_G) (cI cL cZ : ClassId) (ad : Nat → Nat) {σ : St} {x1 : Int32} {r : Int32} {σ' : St} (hF : F_Mo_isTerm σ x1 = some (r, σ')) : gw_M l y_Mo_isTerm w_Mo_isTerm rm_Mo_isTerm D gw_cl (gw_ty cI cL cZ) [.ref (ad 0), .int x1] (wM ad cI cL cZ σ) (wM ad cI cL cZ σ') (some (.int r)) := by
  refine gw_start (cc := b_Mo_isTerm) (nL := 2) (ret := (some .boolean)) (by decide) rfl (Nat.le_of_ble_eq_true rfl) (fun p e s m below meth c A C hr _ => ?_)
  refine gw_eq (lv' := [(0, .ref (ad 0)), (1, .int x1)]) rfl rfl ?_
  unfold F_Mo_isTerm at hF
  refine gw_iload_n C d_Mo_isTerm_0 rfl 1 rfl ?_
  refine gw_if_lt (tgt := 16) C d_Mo_isTerm_1 (by decide) (fun h1 => ?_) (fun h1 => ?_)
  · have hF := gw_pos h1 hF
    refine gw_iconst (v := 0) C d_Mo_isTerm_16 (by decide) ?_
    cases hF
    exact gw_zret C hr rfl rfl d_Mo_isTerm_17
  · have hF := gw_neg h1 hF
    refine gw_iload_n C d_Mo_isTerm_4 rfl 1 rfl ?_
    refine gw_aload_n C d_Mo_isTerm_5 rfl 0 rfl ?_
    refine fg_Mo_91 (v := σ.1 0) C rfl d_Mo_isTerm_6 ?_
    refine gw_icmp_ge (tgt := 16) C d_Mo_isTerm_9 (by decide) (fun h2 => ?_) (fun h2 => ?_)
    · have hF := gw_pos h2 hF
      refine gw_iconst (v := 0) C d_Mo_isTerm_16 (by decide) ?_
      cases hF
      exact gw_zret C hr rfl rfl d_Mo_isTerm_17
    · have hF := gw_neg h2 hF
      refine gw_iconst (v := 1) C d_Mo_isTerm_12 (by decide) ?_
      refine gw_goto (tgt := 17) C d_Mo_isTerm_13 (by decide) ?_
      cases hF
      exact gw_zret C hr rfl rfl d_Mo_isTerm_17
set_option maxRecDepth 100000 in
set_option maxHeartbeats 4000000 in
theorem c_Mo_thrownBy (l : Launch) (D : va_G) (cI cL cZ : ClassId) (ad : Nat → Nat) {σ : St} {x1 : Int32} {r : Int32} {σ' : St} (hF : F_Mo_thrownBy σ x1 = some (r, σ')) : gw_M l y_Mo_thrownBy w_Mo_thrownBy rm_Mo_thrownBy D gw_cl (gw_ty cI cL cZ) [.ref (ad 0), .int x1] (wM ad cI cL cZ σ) (wM ad cI cL cZ σ') (some (.int r)) := by
  refine gw_start (cc := b_Mo_thrownBy) (nL := 2) (ret := (some .int)) (by decide) rfl (Nat.le_of_ble_eq_true rfl) (fun p e s m below meth c A C hr _ => ?_)
  refine gw_eq (lv' := [(0, .ref (ad 0)), (1, .int x1)]) rfl rfl ?_
  unfold F_Mo_thrownBy at hF
  refine gw_aload_n C d_Mo_thrownBy_0 rfl 0 rfl ?_
  refine gw_iload_n C d_Mo_thrownBy_1 rfl 1 rfl ?_
  refine fp_Mo_87 C d_Mo_thrownBy_2 ?_
  refine gw_iconst (v := 0) C d_Mo_thrownBy_5 (by decide) ?_
  cases hF
  exact gw_iret C hr rfl d_Mo_thrownBy_6
set_option maxRecDepth 100000 in
set_option maxHeartbeats 4000000 in
theorem c_Mo_term (l : Launch) (D : va_G) (cI cL cZ : ClassId) (ad : Nat → Nat) {σ : St} {x1 : Int32} {x2 : Int32} {x3 : Int32} {x4 : Int32} {r : Int32} {σ' : St} (hF : F_Mo_term σ x1 x2 x3 x4 = some (r, σ')) : gw_M l y_Mo_term w_Mo_term rm_Mo_term D gw_cl (gw_ty cI cL cZ) [.ref (ad 0), .int x1, .int x2, .int x3, .int x4] (wM ad cI cL cZ σ) (wM ad cI cL cZ σ') (some (.int r)) := by
  refine gw_start (cc := b_Mo_term) (nL := 5) (ret := (some .int)) (by decide) rfl (Nat.le_of_ble_eq_true rfl) (fun p e s m below meth c A C hr _ => ?_)
  refine gw_eq (lv' := [(0, .ref (ad 0)), (1, .int x1), (2, .int x2), (3, .int x3), (4, .int x4)]) rfl rfl ?_
  unfold F_Mo_term at hF
  refine gw_aload_n C d_Mo_term_0 rfl 0 rfl ?_
  refine gw_iconst (v := 0) C d_Mo_term_1 (by decide) ?_
  refine fp_Mo_87 C d_Mo_term_2 ?_
  refine gw_aload_n C d_Mo_term_5 rfl 0 rfl ?_
  refine fg_Mo_7 C d_Mo_term_6 ?_
  refine gw_aload_n C d_Mo_term_9 rfl 0 rfl ?_
  refine fg_Mo_91 (v := σ.1 0) C rfl d_Mo_term_10 ?_
  refine gw_iload_n C d_Mo_term_13 rfl 1 rfl ?_
  obtain ⟨h1, hF⟩ := gw_grd hF
  refine aswM_1 C h1 d_Mo_term_14 ?_
  refine gw_aload_n C d_Mo_term_15 rfl 0 rfl ?_
  refine fg_Mo_13 C d_Mo_term_16 ?_
  refine gw_aload_n C d_Mo_term_19 rfl 0 rfl ?_
  refine fg_Mo_91 (v := σ.1 0) C rfl d_Mo_term_20 ?_
  refine gw_iload_n C d_Mo_term_23 rfl 2 rfl ?_
  obtain ⟨h2, hF⟩ := gw_grd hF
  refine aswM_2 C h2 d_Mo_term_24 ?_
  refine gw_aload_n C d_Mo_term_25 rfl 0 rfl ?_
  refine fg_Mo_16 C d_Mo_term_26 ?_
  refine gw_aload_n C d_Mo_term_29 rfl 0 rfl ?_
  refine fg_Mo_91 (v := σ.1 0) C rfl d_Mo_term_30 ?_
  refine gw_iload_n C d_Mo_term_33 rfl 3 rfl ?_
  obtain ⟨h3, hF⟩ := gw_grd hF
  refine aswM_3 C h3 d_Mo_term_34 ?_
  refine gw_aload_n C d_Mo_term_35 rfl 0 rfl ?_
  refine fg_Mo_19 C d_Mo_term_36 ?_
  refine gw_aload_n C d_Mo_term_39 rfl 0 rfl ?_
  refine fg_Mo_91 (v := σ.1 0) C rfl d_Mo_term_40 ?_
  refine gw_iload C d_Mo_term_43 4 rfl ?_
  obtain ⟨h4, hF⟩ := gw_grd hF
  refine aswM_4 C h4 d_Mo_term_45 ?_
  refine gw_aload_n C d_Mo_term_46 rfl 0 rfl ?_
  refine gw_dup C d_Mo_term_47 rfl ?_
  refine fg_Mo_91 (v := σ.1 0) C rfl d_Mo_term_48 ?_
  refine gw_iconst (v := 1) C d_Mo_term_51 (by decide) ?_
  refine gw_iadd C d_Mo_term_52 ?_
  refine fp_Mo_91 C d_Mo_term_53 ?_
  refine gw_aload_n C d_Mo_term_56 rfl 0 rfl ?_
  refine fg_Mo_91 (v := (σ.1 0) + 1) C rfl d_Mo_term_57 ?_
  refine gw_iconst (v := 1) C d_Mo_term_60 (by decide) ?_
  refine gw_isub C d_Mo_term_61 ?_
  cases hF
  exact gw_iret C hr rfl d_Mo_term_62
set_option maxRecDepth 100000 in
set_option maxHeartbeats 4000000 in
theorem c_Mo_more (l : Launch) (D : va_G) (cI cL cZ : ClassId) (ad : Nat → Nat) {σ : St} {x0 : Int32} {x1 : Int32} {r : Int32} {σ' : St} (hF : F_Mo_more σ x0 x1 = some (r, σ')) : gw_M l y_Mo_more w_Mo_more rm_Mo_more D gw_cl (gw_ty cI cL cZ) [.int x0, .int x1] (wM ad cI cL cZ σ) (wM ad cI cL cZ σ') (some (.int r)) := by
  refine gw_start (cc := b_Mo_more) (nL := 2) (ret := (some .int)) (by decide) rfl (Nat.le_of_ble_eq_true rfl) (fun p e s m below meth c A C hr _ => ?_)
  refine gw_eq (lv' := [(0, .int x0), (1, .int x1)]) rfl rfl ?_
  unfold F_Mo_more at hF
  refine gw_iload_n C d_Mo_more_0 rfl 0 rfl ?_
  refine gw_iload_n C d_Mo_more_1 rfl 1 rfl ?_
  refine gw_icmp_le (tgt := 9) C d_Mo_more_2 (by decide) (fun h1 => ?_) (fun h1 => ?_)
  · have hF := gw_pos h1 hF
    refine gw_iload_n C d_Mo_more_9 rfl 1 rfl ?_
    cases hF
    exact gw_iret C hr rfl d_Mo_more_10
  · have hF := gw_neg h1 hF
    refine gw_iload_n C d_Mo_more_5 rfl 0 rfl ?_
    refine gw_goto (tgt := 10) C d_Mo_more_6 (by decide) ?_
    cases hF
    exact gw_iret C hr rfl d_Mo_more_10
set_option maxRecDepth 100000 in
set_option maxHeartbeats 4000000 in
theorem c_Mo_lessOne (l : Launch) (D : va_G) (cI cL cZ : ClassId) (ad : Nat → Nat) {σ : St} {x0 : Int32} {r : Int32} {σ' : St} (hF : F_Mo_lessOne σ x0 = some (r, σ')) : gw_M l y_Mo_lessOne w_Mo_lessOne rm_Mo_lessOne D gw_cl (gw_ty cI cL cZ) [.int x0] (wM ad cI cL cZ σ) (wM ad cI cL cZ σ') (some (.int r)) := by
  refine gw_start (cc := b_Mo_lessOne) (nL := 1) (ret := (some .int)) (by decide) rfl (Nat.le_of_ble_eq_true rfl) (fun p e s m below meth c A C hr _ => ?_)
  refine gw_eq (lv' := [(0, .int x0)]) rfl rfl ?_
  unfold F_Mo_lessOne at hF
  refine gw_iload_n C d_Mo_lessOne_0 rfl 0 rfl ?_
  refine gw_if_le (tgt := 10) C d_Mo_lessOne_1 (by decide) (fun h1 => ?_) (fun h1 => ?_)
  · have hF := gw_pos h1 hF
    refine gw_iconst (v := 0) C d_Mo_lessOne_10 (by decide) ?_
    cases hF
    exact gw_iret C hr rfl d_Mo_lessOne_11
  · have hF := gw_neg h1 hF
    refine gw_iload_n C d_Mo_lessOne_4 rfl 0 rfl ?_
    refine gw_iconst (v := 1) C d_Mo_lessOne_5 (by decide) ?_
    refine gw_isub C d_Mo_lessOne_6 ?_
    refine gw_goto (tgt := 11) C d_Mo_lessOne_7 (by decide) ?_
    cases hF
    exact gw_iret C hr rfl d_Mo_lessOne_11
set_option maxRecDepth 100000 in
set_option maxHeartbeats 4000000 in
theorem c_Mo_number (l : Launch) (D : va_G) (cI cL cZ : ClassId) (ad : Nat → Nat) {σ : St} {x1 : Int64} {r : Int32} {σ' : St} (hF : F_Mo_number σ x1 = some (r, σ')) : gw_M l y_Mo_number w_Mo_number rm_Mo_number D gw_cl (gw_ty cI cL cZ) [.ref (ad 0), .long x1] (wM ad cI cL cZ σ) (wM ad cI cL cZ σ') (some (.int r)) := by
  refine gw_start (cc := b_Mo_number) (nL := 4) (ret := (some .int)) (by decide) rfl (Nat.le_of_ble_eq_true rfl) (fun p e s m below meth c A C hr _ => ?_)
  refine gw_eq (lv' := [(0, .ref (ad 0)), (1, .long x1)]) rfl rfl ?_
  unfold F_Mo_number at hF
  refine gw_aload_n C d_Mo_number_0 rfl 0 rfl ?_
  refine fg_Mo_91 (v := σ.1 0) C rfl d_Mo_number_1 ?_
  refine gw_sipush (v := 200) C d_Mo_number_4 (by decide) ?_
  refine gw_icmp_ne (tgt := 16) C d_Mo_number_7 (by decide) (fun h1 => ?_) (fun h1 => ?_)
  · have hF := gw_neg h1 hF
    refine gw_aload_n C d_Mo_number_16 rfl 0 rfl ?_
    refine gw_iconst (v := 0) C d_Mo_number_17 (by decide) ?_
    refine gw_iconst (v := (-1)) C d_Mo_number_18 (by decide) ?_
    refine gw_iconst (v := (-1)) C d_Mo_number_19 (by decide) ?_
    refine gw_iconst (v := (-1)) C d_Mo_number_20 (by decide) ?_
    obtain ⟨r3, σ4, h2, hF⟩ := gw_bnd hF
    refine fc_Mo_98 (As := [.int 0, .int (-1), .int (-1), .int (-1)]) (st := []) (σ' := σ4) C (c_Mo_term l D cI cL cZ ad h2) ⟨Nat.le_of_ble_eq_true rfl, Nat.le_of_ble_eq_true rfl⟩ ⟨Nat.le_of_ble_eq_true rfl, Nat.le_of_ble_eq_true rfl⟩ rfl (Nat.le_of_ble_eq_true rfl) d_Mo_number_21 ?_
    refine gw_istore_n (lv' := [(3, .int r3), (0, .ref (ad 0)), (1, .long x1)]) C d_Mo_number_24 rfl (by decide) rfl ?_
    refine gw_aload_n C d_Mo_number_25 rfl 1 rfl ?_
    refine fg_Mo_22 C d_Mo_number_26 ?_
    refine gw_iload_n C d_Mo_number_29 rfl 0 rfl ?_
    refine gw_lload_n C d_Mo_number_30 rfl 2 rfl ?_
    obtain ⟨h5, hF⟩ := gw_grd hF
    refine aswM_5 C h5 d_Mo_number_31 ?_
    refine gw_aload_n C d_Mo_number_32 rfl 1 rfl ?_
    refine fg_Mo_26 C d_Mo_number_33 ?_
    refine gw_iload_n C d_Mo_number_36 rfl 0 rfl ?_
    refine gw_iconst (v := 0) C d_Mo_number_37 (by decide) ?_
    obtain ⟨h6, hF⟩ := gw_grd hF
    refine aswM_6 C h6 d_Mo_number_38 ?_
    refine gw_iload_n C d_Mo_number_39 rfl 0 rfl ?_
    cases hF
    exact gw_iret C hr rfl d_Mo_number_40
  · have hF := gw_pos h1 hF
    refine gw_aload_n C d_Mo_number_10 rfl 0 rfl ?_
    refine gw_iconst (v := 1) C d_Mo_number_11 (by decide) ?_
    obtain ⟨r8, σ9, h7, hF⟩ := gw_bnd hF
    refine fc_Mo_94 (As := [.int 1]) (st := []) (σ' := σ9) C (c_Mo_thrownBy l D cI cL cZ ad h7) ⟨Nat.le_of_ble_eq_true rfl, Nat.le_of_ble_eq_true rfl⟩ ⟨Nat.le_of_ble_eq_true rfl, Nat.le_of_ble_eq_true rfl⟩ rfl (Nat.le_of_ble_eq_true rfl) d_Mo_number_12 ?_
    cases hF
    exact gw_iret C hr rfl d_Mo_number_15
set_option maxRecDepth 100000 in
set_option maxHeartbeats 4000000 in
theorem c_Mo_variable (l : Launch) (D : va_G) (cI cL cZ : ClassId) (ad : Nat → Nat) {σ : St} {x1 : Int32} {r : Int32} {σ' : St} (hF : F_Mo_variable σ x1 = some (r, σ')) : gw_M l y_Mo_variable w_Mo_variable rm_Mo_variable D gw_cl (gw_ty cI cL cZ) [.ref (ad 0), .int x1] (wM ad cI cL cZ σ) (wM ad cI cL cZ σ') (some (.int r)) := by
  refine gw_start (cc := b_Mo_variable) (nL := 3) (ret := (some .int)) (by decide) rfl (Nat.le_of_ble_eq_true rfl) (fun p e s m below meth c A C hr _ => ?_)
  refine gw_eq (lv' := [(0, .ref (ad 0)), (1, .int x1)]) rfl rfl ?_
  unfold F_Mo_variable at hF
  refine gw_aload_n C d_Mo_variable_0 rfl 0 rfl ?_
  refine fg_Mo_91 (v := σ.1 0) C rfl d_Mo_variable_1 ?_
  refine gw_sipush (v := 200) C d_Mo_variable_4 (by decide) ?_
  refine gw_icmp_ne (tgt := 16) C d_Mo_variable_7 (by decide) (fun h1 => ?_) (fun h1 => ?_)
  · have hF := gw_neg h1 hF
    refine gw_iload_n C d_Mo_variable_16 rfl 1 rfl ?_
    refine gw_if_lt (tgt := 26) C d_Mo_variable_17 (by decide) (fun h2 => ?_) (fun h2 => ?_)
    · have hF := gw_pos h2 hF
      refine gw_aload_n C d_Mo_variable_26 rfl 0 rfl ?_
      refine gw_iconst (v := 2) C d_Mo_variable_27 (by decide) ?_
      obtain ⟨r4, σ5, h3, hF⟩ := gw_bnd hF
      refine fc_Mo_94 (As := [.int 2]) (st := []) (σ' := σ5) C (c_Mo_thrownBy l D cI cL cZ ad h3) ⟨Nat.le_of_ble_eq_true rfl, Nat.le_of_ble_eq_true rfl⟩ ⟨Nat.le_of_ble_eq_true rfl, Nat.le_of_ble_eq_true rfl⟩ rfl (Nat.le_of_ble_eq_true rfl) d_Mo_variable_28 ?_
      cases hF
      exact gw_iret C hr rfl d_Mo_variable_31
    · have hF := gw_neg h2 hF
      refine gw_iload_n C d_Mo_variable_20 rfl 1 rfl ?_
      refine gw_bipush (v := 60) C d_Mo_variable_21 (by decide) ?_
      refine gw_icmp_le (tgt := 32) C d_Mo_variable_23 (by decide) (fun h6 => ?_) (fun h6 => ?_)
      · have hF := gw_pos h6 hF
        refine gw_aload_n C d_Mo_variable_32 rfl 0 rfl ?_
        refine gw_iconst (v := 1) C d_Mo_variable_33 (by decide) ?_
        refine gw_iload_n C d_Mo_variable_34 rfl 1 rfl ?_
        refine gw_iconst (v := (-1)) C d_Mo_variable_35 (by decide) ?_
        refine gw_iconst (v := (-1)) C d_Mo_variable_36 (by decide) ?_
        obtain ⟨r8, σ9, h7, hF⟩ := gw_bnd hF
        refine fc_Mo_98 (As := [.int 1, .int x1, .int (-1), .int (-1)]) (st := []) (σ' := σ9) C (c_Mo_term l D cI cL cZ ad h7) ⟨Nat.le_of_ble_eq_true rfl, Nat.le_of_ble_eq_true rfl⟩ ⟨Nat.le_of_ble_eq_true rfl, Nat.le_of_ble_eq_true rfl⟩ rfl (Nat.le_of_ble_eq_true rfl) d_Mo_variable_37 ?_
        refine gw_istore_n (lv' := [(2, .int r8), (0, .ref (ad 0)), (1, .int x1)]) C d_Mo_variable_40 rfl (by decide) rfl ?_
        refine gw_aload_n C d_Mo_variable_41 rfl 1 rfl ?_
        refine fg_Mo_26 C d_Mo_variable_42 ?_
        refine gw_iload_n C d_Mo_variable_45 rfl 0 rfl ?_
        refine gw_iload_n C d_Mo_variable_46 rfl 2 rfl ?_
        refine gw_iconst (v := 1) C d_Mo_variable_47 (by decide) ?_
        refine gw_iadd C d_Mo_variable_48 ?_
        obtain ⟨h10, hF⟩ := gw_grd hF
        refine aswM_6 C h10 d_Mo_variable_49 ?_
        refine gw_iload_n C d_Mo_variable_50 rfl 0 rfl ?_
        cases hF
        exact gw_iret C hr rfl d_Mo_variable_51
      · have hF := gw_neg h6 hF
        refine gw_aload_n C d_Mo_variable_26 rfl 0 rfl ?_
        refine gw_iconst (v := 2) C d_Mo_variable_27 (by decide) ?_
        obtain ⟨r12, σ13, h11, hF⟩ := gw_bnd hF
        refine fc_Mo_94 (As := [.int 2]) (st := []) (σ' := σ13) C (c_Mo_thrownBy l D cI cL cZ ad h11) ⟨Nat.le_of_ble_eq_true rfl, Nat.le_of_ble_eq_true rfl⟩ ⟨Nat.le_of_ble_eq_true rfl, Nat.le_of_ble_eq_true rfl⟩ rfl (Nat.le_of_ble_eq_true rfl) d_Mo_variable_28 ?_
        cases hF
        exact gw_iret C hr rfl d_Mo_variable_31
  · have hF := gw_pos h1 hF
    refine gw_aload_n C d_Mo_variable_10 rfl 0 rfl ?_
    refine gw_iconst (v := 1) C d_Mo_variable_11 (by decide) ?_
    obtain ⟨r15, σ16, h14, hF⟩ := gw_bnd hF
    refine fc_Mo_94 (As := [.int 1]) (st := []) (σ' := σ16) C (c_Mo_thrownBy l D cI cL cZ ad h14) ⟨Nat.le_of_ble_eq_true rfl, Nat.le_of_ble_eq_true rfl⟩ ⟨Nat.le_of_ble_eq_true rfl, Nat.le_of_ble_eq_true rfl⟩ rfl (Nat.le_of_ble_eq_true rfl) d_Mo_variable_12 ?_
    cases hF
    exact gw_iret C hr rfl d_Mo_variable_15
set_option maxRecDepth 100000 in
set_option maxHeartbeats 4000000 in
theorem k_Mo_one_64 {p : Program} (l : Launch) {e : Env} {s : State} {m : MethodId} {args : Array Value} {below : List Frame} {meth : Method} {c : Code} {D : va_G} {A : Nat → Prop} {cI cL cZ : ClassId} {ad : Nat → Nat} (C : gw_C p s m args meth c b_Mo_one 4 R_Mo D gw_cl (gw_ty cI cL cZ) A) (hr : meth.sig.returnType = (some .int)) {σ : St} {x1 : Int32} {x2 : Int32} {y0 : Int32} {r : Int32} {σ' : St} (hF : K_Mo_one_64 σ x1 x2 y0 = some (r, σ')) : gw_W p l e rm_Mo_one s m args below meth c D gw_cl A (MQ below (gw_Qc D gw_cl (wM ad cI cL cZ σ') (some (.int r)) A) args s 0 0 A) 0 0 4 (wM ad cI cL cZ σ) [(0, .ref (ad 0)), (1, .int x1), (2, .int x2)] 64 [.int y0, .ref (ad 0)] := by
  unfold K_Mo_one_64 at hF
  refine gw_iload_n C d_Mo_one_64 rfl 2 rfl ?_
  refine gw_iconst (v := (-1)) C d_Mo_one_65 (by decide) ?_
  refine gw_iconst (v := (-1)) C d_Mo_one_66 (by decide) ?_
  obtain ⟨r14, σ15, h13, hF⟩ := gw_bnd hF
  refine fc_Mo_98 (As := [.int y0, .int x2, .int (-1), .int (-1)]) (st := []) (σ' := σ15) C (c_Mo_term l D cI cL cZ ad h13) ⟨Nat.le_of_ble_eq_true rfl, Nat.le_of_ble_eq_true rfl⟩ ⟨Nat.le_of_ble_eq_true rfl, Nat.le_of_ble_eq_true rfl⟩ rfl (Nat.le_of_ble_eq_true rfl) d_Mo_one_67 ?_
  refine gw_istore_n (lv' := [(3, .int r14), (0, .ref (ad 0)), (1, .int x1), (2, .int x2)]) C d_Mo_one_70 rfl (by decide) rfl ?_
  refine gw_aload_n C d_Mo_one_71 rfl 1 rfl ?_
  refine fg_Mo_26 C d_Mo_one_72 ?_
  refine gw_iload_n C d_Mo_one_75 rfl 0 rfl ?_
  refine gw_iload_n C d_Mo_one_76 rfl 2 rfl ?_
  refine gw_if_ne (tgt := 92) C d_Mo_one_77 (by decide) (fun h16 => ?_) (fun h16 => ?_)
  · have hF := gw_neg h16 hF
    refine gw_aload_n C d_Mo_one_92 rfl 1 rfl ?_
    refine fg_Mo_26 C d_Mo_one_93 ?_
    refine gw_iload_n C d_Mo_one_96 rfl 3 rfl ?_
    obtain ⟨h17, hF⟩ := gw_grd hF
    refine alwM_6 (v := σ15.2.1 4 x2.toNatClampNeg) C h17 rfl d_Mo_one_97 ?_
    obtain ⟨h18, hF⟩ := gw_grd hF
    refine aswM_6 C h18 d_Mo_one_98 ?_
    refine gw_iload_n C d_Mo_one_99 rfl 0 rfl ?_
    cases hF
    exact gw_iret C hr rfl d_Mo_one_100
  · have hF := gw_pos h16 hF
    refine gw_aload_n C d_Mo_one_80 rfl 1 rfl ?_
    refine fg_Mo_26 C d_Mo_one_81 ?_
    refine gw_iload_n C d_Mo_one_84 rfl 3 rfl ?_
    obtain ⟨h19, hF⟩ := gw_grd hF
    refine alwM_6 (v := σ15.2.1 4 x2.toNatClampNeg) C h19 rfl d_Mo_one_85 ?_
    obtain ⟨r21, σ22, h20, hF⟩ := gw_bnd hF
    refine fc_Mo_106 (As := [.int (σ15.2.1 4 x2.toNatClampNeg)]) (st := [.int r14, .ref (ad 6)]) (σ' := σ22) C (c_Mo_lessOne l D cI cL cZ ad h20) ⟨Nat.le_of_ble_eq_true rfl, Nat.le_of_ble_eq_true rfl⟩ ⟨Nat.le_of_ble_eq_true rfl, Nat.le_of_ble_eq_true rfl⟩ rfl (Nat.le_of_ble_eq_true rfl) d_Mo_one_86 ?_
    refine gw_goto (tgt := 98) C d_Mo_one_89 (by decide) ?_
    obtain ⟨h23, hF⟩ := gw_grd hF
    refine aswM_6 C h23 d_Mo_one_98 ?_
    refine gw_iload_n C d_Mo_one_99 rfl 0 rfl ?_
    cases hF
    exact gw_iret C hr rfl d_Mo_one_100
set_option maxRecDepth 100000 in
set_option maxHeartbeats 4000000 in
theorem c_Mo_one (l : Launch) (D : va_G) (cI cL cZ : ClassId) (ad : Nat → Nat) {σ : St} {x1 : Int32} {x2 : Int32} {r : Int32} {σ' : St} (hF : F_Mo_one σ x1 x2 = some (r, σ')) : gw_M l y_Mo_one w_Mo_one rm_Mo_one D gw_cl (gw_ty cI cL cZ) [.ref (ad 0), .int x1, .int x2] (wM ad cI cL cZ σ) (wM ad cI cL cZ σ') (some (.int r)) := by
  refine gw_start (cc := b_Mo_one) (nL := 4) (ret := (some .int)) (by decide) rfl (Nat.le_of_ble_eq_true rfl) (fun p e s m below meth c A C hr _ => ?_)
  refine gw_eq (lv' := [(0, .ref (ad 0)), (1, .int x1), (2, .int x2)]) rfl rfl ?_
  unfold F_Mo_one at hF
  refine gw_aload_n C d_Mo_one_0 rfl 0 rfl ?_
  refine gw_iload_n C d_Mo_one_1 rfl 2 rfl ?_
  obtain ⟨r2, σ3, h1, hF⟩ := gw_bnd hF
  refine fc_Mo_102 (As := [.int x2]) (st := []) (σ' := σ3) C (c_Mo_isTerm l D cI cL cZ ad h1) ⟨Nat.le_of_ble_eq_true rfl, Nat.le_of_ble_eq_true rfl⟩ ⟨Nat.le_of_ble_eq_true rfl, Nat.le_of_ble_eq_true rfl⟩ rfl (Nat.le_of_ble_eq_true rfl) d_Mo_one_2 ?_
  refine gw_if_ne (tgt := 14) C d_Mo_one_5 (by decide) (fun h4 => ?_) (fun h4 => ?_)
  · have hF := gw_neg h4 hF
    refine gw_aload_n C d_Mo_one_14 rfl 0 rfl ?_
    refine fg_Mo_91 (v := σ3.1 0) C rfl d_Mo_one_15 ?_
    refine gw_sipush (v := 200) C d_Mo_one_18 (by decide) ?_
    refine gw_icmp_ne (tgt := 30) C d_Mo_one_21 (by decide) (fun h5 => ?_) (fun h5 => ?_)
    · have hF := gw_neg h5 hF
      refine gw_iload_n C d_Mo_one_30 rfl 1 rfl ?_
      refine gw_if_lt (tgt := 39) C d_Mo_one_31 (by decide) (fun h6 => ?_) (fun h6 => ?_)
      · have hF := gw_pos h6 hF
        refine gw_aload_n C d_Mo_one_39 rfl 0 rfl ?_
        refine gw_iconst (v := 3) C d_Mo_one_40 (by decide) ?_
        obtain ⟨r8, σ9, h7, hF⟩ := gw_bnd hF
        refine fc_Mo_94 (As := [.int 3]) (st := []) (σ' := σ9) C (c_Mo_thrownBy l D cI cL cZ ad h7) ⟨Nat.le_of_ble_eq_true rfl, Nat.le_of_ble_eq_true rfl⟩ ⟨Nat.le_of_ble_eq_true rfl, Nat.le_of_ble_eq_true rfl⟩ rfl (Nat.le_of_ble_eq_true rfl) d_Mo_one_41 ?_
        cases hF
        exact gw_iret C hr rfl d_Mo_one_44
      · have hF := gw_neg h6 hF
        refine gw_iload_n C d_Mo_one_34 rfl 1 rfl ?_
        refine gw_iconst (v := 2) C d_Mo_one_35 (by decide) ?_
        refine gw_icmp_le (tgt := 45) C d_Mo_one_36 (by decide) (fun h10 => ?_) (fun h10 => ?_)
        · have hF := gw_pos h10 hF
          refine gw_aload_n C d_Mo_one_45 rfl 0 rfl ?_
          refine gw_iload_n C d_Mo_one_46 rfl 1 rfl ?_
          refine gw_if_ne (tgt := 54) C d_Mo_one_47 (by decide) (fun h11 => ?_) (fun h11 => ?_)
          · have hF := gw_neg h11 hF
            refine gw_iload_n C d_Mo_one_54 rfl 1 rfl ?_
            refine gw_iconst (v := 1) C d_Mo_one_55 (by decide) ?_
            refine gw_icmp_ne (tgt := 63) C d_Mo_one_56 (by decide) (fun h12 => ?_) (fun h12 => ?_)
            · have hF := gw_neg h12 hF
              refine gw_iconst (v := 4) C d_Mo_one_63 (by decide) ?_
              exact k_Mo_one_64 l C hr hF
            · have hF := gw_pos h12 hF
              refine gw_iconst (v := 3) C d_Mo_one_59 (by decide) ?_
              refine gw_goto (tgt := 64) C d_Mo_one_60 (by decide) ?_
              exact k_Mo_one_64 l C hr hF
          · have hF := gw_pos h11 hF
            refine gw_iconst (v := 2) C d_Mo_one_50 (by decide) ?_
            refine gw_goto (tgt := 64) C d_Mo_one_51 (by decide) ?_
            exact k_Mo_one_64 l C hr hF
        · have hF := gw_neg h10 hF
          refine gw_aload_n C d_Mo_one_39 rfl 0 rfl ?_
          refine gw_iconst (v := 3) C d_Mo_one_40 (by decide) ?_
          obtain ⟨r25, σ26, h24, hF⟩ := gw_bnd hF
          refine fc_Mo_94 (As := [.int 3]) (st := []) (σ' := σ26) C (c_Mo_thrownBy l D cI cL cZ ad h24) ⟨Nat.le_of_ble_eq_true rfl, Nat.le_of_ble_eq_true rfl⟩ ⟨Nat.le_of_ble_eq_true rfl, Nat.le_of_ble_eq_true rfl⟩ rfl (Nat.le_of_ble_eq_true rfl) d_Mo_one_41 ?_
          cases hF
          exact gw_iret C hr rfl d_Mo_one_44
    · have hF := gw_pos h5 hF
      refine gw_aload_n C d_Mo_one_24 rfl 0 rfl ?_
      refine gw_iconst (v := 2) C d_Mo_one_25 (by decide) ?_
      obtain ⟨r28, σ29, h27, hF⟩ := gw_bnd hF
      refine fc_Mo_94 (As := [.int 2]) (st := []) (σ' := σ29) C (c_Mo_thrownBy l D cI cL cZ ad h27) ⟨Nat.le_of_ble_eq_true rfl, Nat.le_of_ble_eq_true rfl⟩ ⟨Nat.le_of_ble_eq_true rfl, Nat.le_of_ble_eq_true rfl⟩ rfl (Nat.le_of_ble_eq_true rfl) d_Mo_one_26 ?_
      cases hF
      exact gw_iret C hr rfl d_Mo_one_29
  · have hF := gw_pos h4 hF
    refine gw_aload_n C d_Mo_one_8 rfl 0 rfl ?_
    refine gw_iconst (v := 1) C d_Mo_one_9 (by decide) ?_
    obtain ⟨r31, σ32, h30, hF⟩ := gw_bnd hF
    refine fc_Mo_94 (As := [.int 1]) (st := []) (σ' := σ32) C (c_Mo_thrownBy l D cI cL cZ ad h30) ⟨Nat.le_of_ble_eq_true rfl, Nat.le_of_ble_eq_true rfl⟩ ⟨Nat.le_of_ble_eq_true rfl, Nat.le_of_ble_eq_true rfl⟩ rfl (Nat.le_of_ble_eq_true rfl) d_Mo_one_10 ?_
    cases hF
    exact gw_iret C hr rfl d_Mo_one_13
set_option maxRecDepth 100000 in
set_option maxHeartbeats 4000000 in
theorem k_Mo_two_89 {p : Program} (l : Launch) {e : Env} {s : State} {m : MethodId} {args : Array Value} {below : List Frame} {meth : Method} {c : Code} {D : va_G} {A : Nat → Prop} {cI cL cZ : ClassId} {ad : Nat → Nat} (C : gw_C p s m args meth c b_Mo_two 6 R_Mo D gw_cl (gw_ty cI cL cZ) A) (hr : meth.sig.returnType = (some .int)) {σ : St} {x1 : Int32} {x2 : Int32} {x3 : Int32} {y0 : Int32} {r : Int32} {σ' : St} (hF : K_Mo_two_89 σ x1 x2 x3 y0 = some (r, σ')) : gw_W p l e rm_Mo_two s m args below meth c D gw_cl A (MQ below (gw_Qc D gw_cl (wM ad cI cL cZ σ') (some (.int r)) A) args s 0 0 A) 0 0 6 (wM ad cI cL cZ σ) [(0, .ref (ad 0)), (1, .int x1), (2, .int x2), (3, .int x3)] 89 [.int y0, .ref (ad 0)] := by
  unfold K_Mo_two_89 at hF
  refine gw_iload_n C d_Mo_two_89 rfl 2 rfl ?_
  refine gw_iload_n C d_Mo_two_90 rfl 3 rfl ?_
  refine gw_iconst (v := (-1)) C d_Mo_two_91 (by decide) ?_
  obtain ⟨r22, σ23, h21, hF⟩ := gw_bnd hF
  refine fc_Mo_98 (As := [.int y0, .int x2, .int x3, .int (-1)]) (st := []) (σ' := σ23) C (c_Mo_term l D cI cL cZ ad h21) ⟨Nat.le_of_ble_eq_true rfl, Nat.le_of_ble_eq_true rfl⟩ ⟨Nat.le_of_ble_eq_true rfl, Nat.le_of_ble_eq_true rfl⟩ rfl (Nat.le_of_ble_eq_true rfl) d_Mo_two_92 ?_
  refine gw_istore (lv' := [(4, .int r22), (0, .ref (ad 0)), (1, .int x1), (2, .int x2), (3, .int x3)]) C d_Mo_two_95 (by decide) rfl ?_
  refine gw_aload_n C d_Mo_two_97 rfl 1 rfl ?_
  refine fg_Mo_26 C d_Mo_two_98 ?_
  refine gw_iload_n C d_Mo_two_101 rfl 3 rfl ?_
  obtain ⟨h24, hF⟩ := gw_grd hF
  refine alwM_6 (v := σ23.2.1 4 x2.toNatClampNeg) C h24 rfl d_Mo_two_102 ?_
  refine gw_aload_n C d_Mo_two_103 rfl 1 rfl ?_
  refine fg_Mo_26 C d_Mo_two_104 ?_
  refine gw_iload_n C d_Mo_two_107 rfl 4 rfl ?_
  obtain ⟨h25, hF⟩ := gw_grd hF
  refine alwM_6 (v := σ23.2.1 4 x3.toNatClampNeg) C h25 rfl d_Mo_two_108 ?_
  obtain ⟨r27, σ28, h26, hF⟩ := gw_bnd hF
  refine fc_Mo_109 (As := [.int (σ23.2.1 4 x2.toNatClampNeg), .int (σ23.2.1 4 x3.toNatClampNeg)]) (st := []) (σ' := σ28) C (c_Mo_more l D cI cL cZ ad h26) ⟨Nat.le_of_ble_eq_true rfl, Nat.le_of_ble_eq_true rfl⟩ ⟨Nat.le_of_ble_eq_true rfl, Nat.le_of_ble_eq_true rfl⟩ rfl (Nat.le_of_ble_eq_true rfl) d_Mo_two_109 ?_
  refine gw_istore (lv' := [(5, .int r27), (4, .int r22), (0, .ref (ad 0)), (1, .int x1), (2, .int x2), (3, .int x3)]) C d_Mo_two_112 (by decide) rfl ?_
  refine gw_aload_n C d_Mo_two_114 rfl 2 rfl ?_
  refine fg_Mo_26 C d_Mo_two_115 ?_
  refine gw_iload C d_Mo_two_118 1 rfl ?_
  refine gw_iload_n C d_Mo_two_120 rfl 3 rfl ?_
  refine gw_iconst (v := 1) C d_Mo_two_121 (by decide) ?_
  refine gw_icmp_ne (tgt := 133) C d_Mo_two_122 (by decide) (fun h29 => ?_) (fun h29 => ?_)
  · have hF := gw_neg h29 hF
    refine gw_iload C d_Mo_two_133 0 rfl ?_
    obtain ⟨h30, hF⟩ := gw_grd hF
    refine aswM_6 C h30 d_Mo_two_135 ?_
    refine gw_iload C d_Mo_two_136 1 rfl ?_
    cases hF
    exact gw_iret C hr rfl d_Mo_two_138
  · have hF := gw_pos h29 hF
    refine gw_iload C d_Mo_two_125 0 rfl ?_
    obtain ⟨r32, σ33, h31, hF⟩ := gw_bnd hF
    refine fc_Mo_106 (As := [.int r27]) (st := [.int r22, .ref (ad 6)]) (σ' := σ33) C (c_Mo_lessOne l D cI cL cZ ad h31) ⟨Nat.le_of_ble_eq_true rfl, Nat.le_of_ble_eq_true rfl⟩ ⟨Nat.le_of_ble_eq_true rfl, Nat.le_of_ble_eq_true rfl⟩ rfl (Nat.le_of_ble_eq_true rfl) d_Mo_two_127 ?_
    refine gw_goto (tgt := 135) C d_Mo_two_130 (by decide) ?_
    obtain ⟨h34, hF⟩ := gw_grd hF
    refine aswM_6 C h34 d_Mo_two_135 ?_
    refine gw_iload C d_Mo_two_136 1 rfl ?_
    cases hF
    exact gw_iret C hr rfl d_Mo_two_138
set_option maxRecDepth 100000 in
set_option maxHeartbeats 4000000 in
theorem c_Mo_two (l : Launch) (D : va_G) (cI cL cZ : ClassId) (ad : Nat → Nat) {σ : St} {x1 : Int32} {x2 : Int32} {x3 : Int32} {r : Int32} {σ' : St} (hF : F_Mo_two σ x1 x2 x3 = some (r, σ')) : gw_M l y_Mo_two w_Mo_two rm_Mo_two D gw_cl (gw_ty cI cL cZ) [.ref (ad 0), .int x1, .int x2, .int x3] (wM ad cI cL cZ σ) (wM ad cI cL cZ σ') (some (.int r)) := by
  refine gw_start (cc := b_Mo_two) (nL := 6) (ret := (some .int)) (by decide) rfl (Nat.le_of_ble_eq_true rfl) (fun p e s m below meth c A C hr _ => ?_)
  refine gw_eq (lv' := [(0, .ref (ad 0)), (1, .int x1), (2, .int x2), (3, .int x3)]) rfl rfl ?_
  unfold F_Mo_two at hF
  refine gw_aload_n C d_Mo_two_0 rfl 0 rfl ?_
  refine gw_iload_n C d_Mo_two_1 rfl 2 rfl ?_
  obtain ⟨r2, σ3, h1, hF⟩ := gw_bnd hF
  refine fc_Mo_102 (As := [.int x2]) (st := []) (σ' := σ3) C (c_Mo_isTerm l D cI cL cZ ad h1) ⟨Nat.le_of_ble_eq_true rfl, Nat.le_of_ble_eq_true rfl⟩ ⟨Nat.le_of_ble_eq_true rfl, Nat.le_of_ble_eq_true rfl⟩ rfl (Nat.le_of_ble_eq_true rfl) d_Mo_two_2 ?_
  refine gw_if_eq (tgt := 16) C d_Mo_two_5 (by decide) (fun h4 => ?_) (fun h4 => ?_)
  · have hF := gw_pos h4 hF
    refine gw_aload_n C d_Mo_two_16 rfl 0 rfl ?_
    refine gw_iconst (v := 1) C d_Mo_two_17 (by decide) ?_
    obtain ⟨r6, σ7, h5, hF⟩ := gw_bnd hF
    refine fc_Mo_94 (As := [.int 1]) (st := []) (σ' := σ7) C (c_Mo_thrownBy l D cI cL cZ ad h5) ⟨Nat.le_of_ble_eq_true rfl, Nat.le_of_ble_eq_true rfl⟩ ⟨Nat.le_of_ble_eq_true rfl, Nat.le_of_ble_eq_true rfl⟩ rfl (Nat.le_of_ble_eq_true rfl) d_Mo_two_18 ?_
    cases hF
    exact gw_iret C hr rfl d_Mo_two_21
  · have hF := gw_neg h4 hF
    refine gw_aload_n C d_Mo_two_8 rfl 0 rfl ?_
    refine gw_iload_n C d_Mo_two_9 rfl 3 rfl ?_
    obtain ⟨r9, σ10, h8, hF⟩ := gw_bnd hF
    refine fc_Mo_102 (As := [.int x3]) (st := []) (σ' := σ10) C (c_Mo_isTerm l D cI cL cZ ad h8) ⟨Nat.le_of_ble_eq_true rfl, Nat.le_of_ble_eq_true rfl⟩ ⟨Nat.le_of_ble_eq_true rfl, Nat.le_of_ble_eq_true rfl⟩ rfl (Nat.le_of_ble_eq_true rfl) d_Mo_two_10 ?_
    refine gw_if_ne (tgt := 22) C d_Mo_two_13 (by decide) (fun h11 => ?_) (fun h11 => ?_)
    · have hF := gw_neg h11 hF
      refine gw_aload_n C d_Mo_two_22 rfl 0 rfl ?_
      refine fg_Mo_91 (v := σ10.1 0) C rfl d_Mo_two_23 ?_
      refine gw_sipush (v := 200) C d_Mo_two_26 (by decide) ?_
      refine gw_icmp_ne (tgt := 38) C d_Mo_two_29 (by decide) (fun h12 => ?_) (fun h12 => ?_)
      · have hF := gw_neg h12 hF
        refine gw_iload_n C d_Mo_two_38 rfl 1 rfl ?_
        refine gw_if_lt (tgt := 48) C d_Mo_two_39 (by decide) (fun h13 => ?_) (fun h13 => ?_)
        · have hF := gw_pos h13 hF
          refine gw_aload_n C d_Mo_two_48 rfl 0 rfl ?_
          refine gw_iconst (v := 3) C d_Mo_two_49 (by decide) ?_
          obtain ⟨r15, σ16, h14, hF⟩ := gw_bnd hF
          refine fc_Mo_94 (As := [.int 3]) (st := []) (σ' := σ16) C (c_Mo_thrownBy l D cI cL cZ ad h14) ⟨Nat.le_of_ble_eq_true rfl, Nat.le_of_ble_eq_true rfl⟩ ⟨Nat.le_of_ble_eq_true rfl, Nat.le_of_ble_eq_true rfl⟩ rfl (Nat.le_of_ble_eq_true rfl) d_Mo_two_50 ?_
          cases hF
          exact gw_iret C hr rfl d_Mo_two_53
        · have hF := gw_neg h13 hF
          refine gw_iload_n C d_Mo_two_42 rfl 1 rfl ?_
          refine gw_bipush (v := 8) C d_Mo_two_43 (by decide) ?_
          refine gw_icmp_le (tgt := 54) C d_Mo_two_45 (by decide) (fun h17 => ?_) (fun h17 => ?_)
          · have hF := gw_pos h17 hF
            refine gw_aload_n C d_Mo_two_54 rfl 0 rfl ?_
            refine gw_iload_n C d_Mo_two_55 rfl 1 rfl ?_
            refine gw_if_ne (tgt := 63) C d_Mo_two_56 (by decide) (fun h18 => ?_) (fun h18 => ?_)
            · have hF := gw_neg h18 hF
              refine gw_iload_n C d_Mo_two_63 rfl 1 rfl ?_
              refine gw_iconst (v := 1) C d_Mo_two_64 (by decide) ?_
              refine gw_icmp_ne (tgt := 73) C d_Mo_two_65 (by decide) (fun h19 => ?_) (fun h19 => ?_)
              · have hF := gw_neg h19 hF
                refine gw_iload_n C d_Mo_two_73 rfl 1 rfl ?_
                refine gw_iconst (v := 2) C d_Mo_two_74 (by decide) ?_
                refine gw_icmp_ne (tgt := 83) C d_Mo_two_75 (by decide) (fun h20 => ?_) (fun h20 => ?_)
                · have hF := gw_neg h20 hF
                  refine gw_bipush (v := 8) C d_Mo_two_83 (by decide) ?_
                  refine gw_iload_n C d_Mo_two_85 rfl 1 rfl ?_
                  refine gw_iadd C d_Mo_two_86 ?_
                  refine gw_iconst (v := 3) C d_Mo_two_87 (by decide) ?_
                  refine gw_isub C d_Mo_two_88 ?_
                  exact k_Mo_two_89 l C hr hF
                · have hF := gw_pos h20 hF
                  refine gw_bipush (v := 7) C d_Mo_two_78 (by decide) ?_
                  refine gw_goto (tgt := 89) C d_Mo_two_80 (by decide) ?_
                  exact k_Mo_two_89 l C hr hF
              · have hF := gw_pos h19 hF
                refine gw_bipush (v := 6) C d_Mo_two_68 (by decide) ?_
                refine gw_goto (tgt := 89) C d_Mo_two_70 (by decide) ?_
                exact k_Mo_two_89 l C hr hF
            · have hF := gw_pos h18 hF
              refine gw_iconst (v := 5) C d_Mo_two_59 (by decide) ?_
              refine gw_goto (tgt := 89) C d_Mo_two_60 (by decide) ?_
              exact k_Mo_two_89 l C hr hF
          · have hF := gw_neg h17 hF
            refine gw_aload_n C d_Mo_two_48 rfl 0 rfl ?_
            refine gw_iconst (v := 3) C d_Mo_two_49 (by decide) ?_
            obtain ⟨r36, σ37, h35, hF⟩ := gw_bnd hF
            refine fc_Mo_94 (As := [.int 3]) (st := []) (σ' := σ37) C (c_Mo_thrownBy l D cI cL cZ ad h35) ⟨Nat.le_of_ble_eq_true rfl, Nat.le_of_ble_eq_true rfl⟩ ⟨Nat.le_of_ble_eq_true rfl, Nat.le_of_ble_eq_true rfl⟩ rfl (Nat.le_of_ble_eq_true rfl) d_Mo_two_50 ?_
            cases hF
            exact gw_iret C hr rfl d_Mo_two_53
      · have hF := gw_pos h12 hF
        refine gw_aload_n C d_Mo_two_32 rfl 0 rfl ?_
        refine gw_iconst (v := 2) C d_Mo_two_33 (by decide) ?_
        obtain ⟨r39, σ40, h38, hF⟩ := gw_bnd hF
        refine fc_Mo_94 (As := [.int 2]) (st := []) (σ' := σ40) C (c_Mo_thrownBy l D cI cL cZ ad h38) ⟨Nat.le_of_ble_eq_true rfl, Nat.le_of_ble_eq_true rfl⟩ ⟨Nat.le_of_ble_eq_true rfl, Nat.le_of_ble_eq_true rfl⟩ rfl (Nat.le_of_ble_eq_true rfl) d_Mo_two_34 ?_
        cases hF
        exact gw_iret C hr rfl d_Mo_two_37
    · have hF := gw_pos h11 hF
      refine gw_aload_n C d_Mo_two_16 rfl 0 rfl ?_
      refine gw_iconst (v := 1) C d_Mo_two_17 (by decide) ?_
      obtain ⟨r42, σ43, h41, hF⟩ := gw_bnd hF
      refine fc_Mo_94 (As := [.int 1]) (st := []) (σ' := σ43) C (c_Mo_thrownBy l D cI cL cZ ad h41) ⟨Nat.le_of_ble_eq_true rfl, Nat.le_of_ble_eq_true rfl⟩ ⟨Nat.le_of_ble_eq_true rfl, Nat.le_of_ble_eq_true rfl⟩ rfl (Nat.le_of_ble_eq_true rfl) d_Mo_two_18 ?_
      cases hF
      exact gw_iret C hr rfl d_Mo_two_21
set_option maxRecDepth 100000 in
set_option maxHeartbeats 4000000 in
theorem c_Mo_choose (l : Launch) (D : va_G) (cI cL cZ : ClassId) (ad : Nat → Nat) {σ : St} {x1 : Int32} {x2 : Int32} {x3 : Int32} {r : Int32} {σ' : St} (hF : F_Mo_choose σ x1 x2 x3 = some (r, σ')) : gw_M l y_Mo_choose w_Mo_choose rm_Mo_choose D gw_cl (gw_ty cI cL cZ) [.ref (ad 0), .int x1, .int x2, .int x3] (wM ad cI cL cZ σ) (wM ad cI cL cZ σ') (some (.int r)) := by
  refine gw_start (cc := b_Mo_choose) (nL := 5) (ret := (some .int)) (by decide) rfl (Nat.le_of_ble_eq_true rfl) (fun p e s m below meth c A C hr _ => ?_)
  refine gw_eq (lv' := [(0, .ref (ad 0)), (1, .int x1), (2, .int x2), (3, .int x3)]) rfl rfl ?_
  unfold F_Mo_choose at hF
  refine gw_aload_n C d_Mo_choose_0 rfl 0 rfl ?_
  refine gw_iload_n C d_Mo_choose_1 rfl 1 rfl ?_
  obtain ⟨r2, σ3, h1, hF⟩ := gw_bnd hF
  refine fc_Mo_102 (As := [.int x1]) (st := []) (σ' := σ3) C (c_Mo_isTerm l D cI cL cZ ad h1) ⟨Nat.le_of_ble_eq_true rfl, Nat.le_of_ble_eq_true rfl⟩ ⟨Nat.le_of_ble_eq_true rfl, Nat.le_of_ble_eq_true rfl⟩ rfl (Nat.le_of_ble_eq_true rfl) d_Mo_choose_2 ?_
  refine gw_if_eq (tgt := 24) C d_Mo_choose_5 (by decide) (fun h4 => ?_) (fun h4 => ?_)
  · have hF := gw_pos h4 hF
    refine gw_aload_n C d_Mo_choose_24 rfl 0 rfl ?_
    refine gw_iconst (v := 1) C d_Mo_choose_25 (by decide) ?_
    obtain ⟨r6, σ7, h5, hF⟩ := gw_bnd hF
    refine fc_Mo_94 (As := [.int 1]) (st := []) (σ' := σ7) C (c_Mo_thrownBy l D cI cL cZ ad h5) ⟨Nat.le_of_ble_eq_true rfl, Nat.le_of_ble_eq_true rfl⟩ ⟨Nat.le_of_ble_eq_true rfl, Nat.le_of_ble_eq_true rfl⟩ rfl (Nat.le_of_ble_eq_true rfl) d_Mo_choose_26 ?_
    cases hF
    exact gw_iret C hr rfl d_Mo_choose_29
  · have hF := gw_neg h4 hF
    refine gw_aload_n C d_Mo_choose_8 rfl 0 rfl ?_
    refine gw_iload_n C d_Mo_choose_9 rfl 2 rfl ?_
    obtain ⟨r9, σ10, h8, hF⟩ := gw_bnd hF
    refine fc_Mo_102 (As := [.int x2]) (st := []) (σ' := σ10) C (c_Mo_isTerm l D cI cL cZ ad h8) ⟨Nat.le_of_ble_eq_true rfl, Nat.le_of_ble_eq_true rfl⟩ ⟨Nat.le_of_ble_eq_true rfl, Nat.le_of_ble_eq_true rfl⟩ rfl (Nat.le_of_ble_eq_true rfl) d_Mo_choose_10 ?_
    refine gw_if_eq (tgt := 24) C d_Mo_choose_13 (by decide) (fun h11 => ?_) (fun h11 => ?_)
    · have hF := gw_pos h11 hF
      refine gw_aload_n C d_Mo_choose_24 rfl 0 rfl ?_
      refine gw_iconst (v := 1) C d_Mo_choose_25 (by decide) ?_
      obtain ⟨r13, σ14, h12, hF⟩ := gw_bnd hF
      refine fc_Mo_94 (As := [.int 1]) (st := []) (σ' := σ14) C (c_Mo_thrownBy l D cI cL cZ ad h12) ⟨Nat.le_of_ble_eq_true rfl, Nat.le_of_ble_eq_true rfl⟩ ⟨Nat.le_of_ble_eq_true rfl, Nat.le_of_ble_eq_true rfl⟩ rfl (Nat.le_of_ble_eq_true rfl) d_Mo_choose_26 ?_
      cases hF
      exact gw_iret C hr rfl d_Mo_choose_29
    · have hF := gw_neg h11 hF
      refine gw_aload_n C d_Mo_choose_16 rfl 0 rfl ?_
      refine gw_iload_n C d_Mo_choose_17 rfl 3 rfl ?_
      obtain ⟨r16, σ17, h15, hF⟩ := gw_bnd hF
      refine fc_Mo_102 (As := [.int x3]) (st := []) (σ' := σ17) C (c_Mo_isTerm l D cI cL cZ ad h15) ⟨Nat.le_of_ble_eq_true rfl, Nat.le_of_ble_eq_true rfl⟩ ⟨Nat.le_of_ble_eq_true rfl, Nat.le_of_ble_eq_true rfl⟩ rfl (Nat.le_of_ble_eq_true rfl) d_Mo_choose_18 ?_
      refine gw_if_ne (tgt := 30) C d_Mo_choose_21 (by decide) (fun h18 => ?_) (fun h18 => ?_)
      · have hF := gw_neg h18 hF
        refine gw_aload_n C d_Mo_choose_30 rfl 0 rfl ?_
        refine fg_Mo_91 (v := σ17.1 0) C rfl d_Mo_choose_31 ?_
        refine gw_sipush (v := 200) C d_Mo_choose_34 (by decide) ?_
        refine gw_icmp_ne (tgt := 46) C d_Mo_choose_37 (by decide) (fun h19 => ?_) (fun h19 => ?_)
        · have hF := gw_neg h19 hF
          refine gw_aload_n C d_Mo_choose_46 rfl 0 rfl ?_
          refine gw_bipush (v := 14) C d_Mo_choose_47 (by decide) ?_
          refine gw_iload_n C d_Mo_choose_49 rfl 2 rfl ?_
          refine gw_iload_n C d_Mo_choose_50 rfl 3 rfl ?_
          refine gw_iload_n C d_Mo_choose_51 rfl 1 rfl ?_
          obtain ⟨r21, σ22, h20, hF⟩ := gw_bnd hF
          refine fc_Mo_98 (As := [.int 14, .int x2, .int x3, .int x1]) (st := []) (σ' := σ22) C (c_Mo_term l D cI cL cZ ad h20) ⟨Nat.le_of_ble_eq_true rfl, Nat.le_of_ble_eq_true rfl⟩ ⟨Nat.le_of_ble_eq_true rfl, Nat.le_of_ble_eq_true rfl⟩ rfl (Nat.le_of_ble_eq_true rfl) d_Mo_choose_52 ?_
          refine gw_istore (lv' := [(4, .int r21), (0, .ref (ad 0)), (1, .int x1), (2, .int x2), (3, .int x3)]) C d_Mo_choose_55 (by decide) rfl ?_
          refine gw_aload_n C d_Mo_choose_57 rfl 1 rfl ?_
          refine fg_Mo_26 C d_Mo_choose_58 ?_
          refine gw_iload C d_Mo_choose_61 0 rfl ?_
          refine gw_aload_n C d_Mo_choose_63 rfl 1 rfl ?_
          refine fg_Mo_26 C d_Mo_choose_64 ?_
          refine gw_iload_n C d_Mo_choose_67 rfl 2 rfl ?_
          obtain ⟨h23, hF⟩ := gw_grd hF
          refine alwM_6 (v := σ22.2.1 4 x1.toNatClampNeg) C h23 rfl d_Mo_choose_68 ?_
          refine gw_aload_n C d_Mo_choose_69 rfl 1 rfl ?_
          refine fg_Mo_26 C d_Mo_choose_70 ?_
          refine gw_iload_n C d_Mo_choose_73 rfl 3 rfl ?_
          obtain ⟨h24, hF⟩ := gw_grd hF
          refine alwM_6 (v := σ22.2.1 4 x2.toNatClampNeg) C h24 rfl d_Mo_choose_74 ?_
          refine gw_aload_n C d_Mo_choose_75 rfl 1 rfl ?_
          refine fg_Mo_26 C d_Mo_choose_76 ?_
          refine gw_iload_n C d_Mo_choose_79 rfl 4 rfl ?_
          obtain ⟨h25, hF⟩ := gw_grd hF
          refine alwM_6 (v := σ22.2.1 4 x3.toNatClampNeg) C h25 rfl d_Mo_choose_80 ?_
          obtain ⟨r27, σ28, h26, hF⟩ := gw_bnd hF
          refine fc_Mo_109 (As := [.int (σ22.2.1 4 x2.toNatClampNeg), .int (σ22.2.1 4 x3.toNatClampNeg)]) (st := [.int (σ22.2.1 4 x1.toNatClampNeg), .int r21, .ref (ad 6)]) (σ' := σ28) C (c_Mo_more l D cI cL cZ ad h26) ⟨Nat.le_of_ble_eq_true rfl, Nat.le_of_ble_eq_true rfl⟩ ⟨Nat.le_of_ble_eq_true rfl, Nat.le_of_ble_eq_true rfl⟩ rfl (Nat.le_of_ble_eq_true rfl) d_Mo_choose_81 ?_
          obtain ⟨r30, σ31, h29, hF⟩ := gw_bnd hF
          refine fc_Mo_109 (As := [.int (σ22.2.1 4 x1.toNatClampNeg), .int r27]) (st := [.int r21, .ref (ad 6)]) (σ' := σ31) C (c_Mo_more l D cI cL cZ ad h29) ⟨Nat.le_of_ble_eq_true rfl, Nat.le_of_ble_eq_true rfl⟩ ⟨Nat.le_of_ble_eq_true rfl, Nat.le_of_ble_eq_true rfl⟩ rfl (Nat.le_of_ble_eq_true rfl) d_Mo_choose_84 ?_
          obtain ⟨h32, hF⟩ := gw_grd hF
          refine aswM_6 C h32 d_Mo_choose_87 ?_
          refine gw_iload C d_Mo_choose_88 0 rfl ?_
          cases hF
          exact gw_iret C hr rfl d_Mo_choose_90
        · have hF := gw_pos h19 hF
          refine gw_aload_n C d_Mo_choose_40 rfl 0 rfl ?_
          refine gw_iconst (v := 2) C d_Mo_choose_41 (by decide) ?_
          obtain ⟨r34, σ35, h33, hF⟩ := gw_bnd hF
          refine fc_Mo_94 (As := [.int 2]) (st := []) (σ' := σ35) C (c_Mo_thrownBy l D cI cL cZ ad h33) ⟨Nat.le_of_ble_eq_true rfl, Nat.le_of_ble_eq_true rfl⟩ ⟨Nat.le_of_ble_eq_true rfl, Nat.le_of_ble_eq_true rfl⟩ rfl (Nat.le_of_ble_eq_true rfl) d_Mo_choose_42 ?_
          cases hF
          exact gw_iret C hr rfl d_Mo_choose_45
      · have hF := gw_pos h18 hF
        refine gw_aload_n C d_Mo_choose_24 rfl 0 rfl ?_
        refine gw_iconst (v := 1) C d_Mo_choose_25 (by decide) ?_
        obtain ⟨r37, σ38, h36, hF⟩ := gw_bnd hF
        refine fc_Mo_94 (As := [.int 1]) (st := []) (σ' := σ38) C (c_Mo_thrownBy l D cI cL cZ ad h36) ⟨Nat.le_of_ble_eq_true rfl, Nat.le_of_ble_eq_true rfl⟩ ⟨Nat.le_of_ble_eq_true rfl, Nat.le_of_ble_eq_true rfl⟩ rfl (Nat.le_of_ble_eq_true rfl) d_Mo_choose_26 ?_
        cases hF
        exact gw_iret C hr rfl d_Mo_choose_29
set_option maxRecDepth 100000 in
set_option maxHeartbeats 4000000 in
theorem c_Mo_lacks (l : Launch) (D : va_G) (cI cL cZ : ClassId) (ad : Nat → Nat) {σ : St} {x1 : Int32} {r : Int32} {σ' : St} (hF : F_Mo_lacks σ x1 = some (r, σ')) : gw_M l y_Mo_lacks w_Mo_lacks rm_Mo_lacks D gw_cl (gw_ty cI cL cZ) [.ref (ad 0), .int x1] (wM ad cI cL cZ σ) (wM ad cI cL cZ σ') (some (.int r)) := by
  refine gw_start (cc := b_Mo_lacks) (nL := 2) (ret := (some .int)) (by decide) rfl (Nat.le_of_ble_eq_true rfl) (fun p e s m below meth c A C hr _ => ?_)
  refine gw_eq (lv' := [(0, .ref (ad 0)), (1, .int x1)]) rfl rfl ?_
  unfold F_Mo_lacks at hF
  refine gw_aload_n C d_Mo_lacks_0 rfl 0 rfl ?_
  refine gw_iload_n C d_Mo_lacks_1 rfl 1 rfl ?_
  obtain ⟨r2, σ3, h1, hF⟩ := gw_bnd hF
  refine fc_Mo_102 (As := [.int x1]) (st := []) (σ' := σ3) C (c_Mo_isTerm l D cI cL cZ ad h1) ⟨Nat.le_of_ble_eq_true rfl, Nat.le_of_ble_eq_true rfl⟩ ⟨Nat.le_of_ble_eq_true rfl, Nat.le_of_ble_eq_true rfl⟩ rfl (Nat.le_of_ble_eq_true rfl) d_Mo_lacks_2 ?_
  refine gw_if_ne (tgt := 14) C d_Mo_lacks_5 (by decide) (fun h4 => ?_) (fun h4 => ?_)
  · have hF := gw_neg h4 hF
    refine gw_aload_n C d_Mo_lacks_14 rfl 0 rfl ?_
    refine gw_iconst (v := 0) C d_Mo_lacks_15 (by decide) ?_
    refine fp_Mo_87 C d_Mo_lacks_16 ?_
    refine gw_aload_n C d_Mo_lacks_19 rfl 0 rfl ?_
    refine fg_Mo_26 C d_Mo_lacks_20 ?_
    refine gw_iload_n C d_Mo_lacks_23 rfl 1 rfl ?_
    obtain ⟨h5, hF⟩ := gw_grd hF
    refine alwM_6 (v := σ3.2.1 4 x1.toNatClampNeg) C h5 rfl d_Mo_lacks_24 ?_
    cases hF
    exact gw_iret C hr rfl d_Mo_lacks_25
  · have hF := gw_pos h4 hF
    refine gw_aload_n C d_Mo_lacks_8 rfl 0 rfl ?_
    refine gw_iconst (v := 1) C d_Mo_lacks_9 (by decide) ?_
    obtain ⟨r7, σ8, h6, hF⟩ := gw_bnd hF
    refine fc_Mo_94 (As := [.int 1]) (st := []) (σ' := σ8) C (c_Mo_thrownBy l D cI cL cZ ad h6) ⟨Nat.le_of_ble_eq_true rfl, Nat.le_of_ble_eq_true rfl⟩ ⟨Nat.le_of_ble_eq_true rfl, Nat.le_of_ble_eq_true rfl⟩ rfl (Nat.le_of_ble_eq_true rfl) d_Mo_lacks_10 ?_
    cases hF
    exact gw_iret C hr rfl d_Mo_lacks_13
set_option maxRecDepth 100000 in
set_option maxHeartbeats 4000000 in
theorem c_Mo_atHand (l : Launch) (D : va_G) (cI cL cZ : ClassId) (ad : Nat → Nat) {σ : St} {x1 : Int32} {x2 : Int32} {σ' : St} (hF : F_Mo_atHand σ x1 x2 = some σ') : gw_M l y_Mo_atHand w_Mo_atHand rm_Mo_atHand D gw_cl (gw_ty cI cL cZ) [.ref (ad 0), .int x1, .int x2] (wM ad cI cL cZ σ) (wM ad cI cL cZ σ') none := by
  refine gw_start (cc := b_Mo_atHand) (nL := 3) (ret := none) (by decide) rfl (Nat.le_of_ble_eq_true rfl) (fun p e s m below meth c A C hr _ => ?_)
  refine gw_eq (lv' := [(0, .ref (ad 0)), (1, .int x1), (2, .int x2)]) rfl rfl ?_
  unfold F_Mo_atHand at hF
  refine gw_aload_n C d_Mo_atHand_0 rfl 0 rfl ?_
  refine gw_iconst (v := 0) C d_Mo_atHand_1 (by decide) ?_
  refine fp_Mo_148 C d_Mo_atHand_2 ?_
  refine gw_aload_n C d_Mo_atHand_5 rfl 0 rfl ?_
  refine gw_iload_n C d_Mo_atHand_6 rfl 1 rfl ?_
  refine fp_Mo_151 C d_Mo_atHand_7 ?_
  refine gw_aload_n C d_Mo_atHand_10 rfl 0 rfl ?_
  refine gw_iload_n C d_Mo_atHand_11 rfl 2 rfl ?_
  refine fp_Mo_154 C d_Mo_atHand_12 ?_
  cases hF
  exact gw_vret C hr rfl d_Mo_atHand_15
set_option maxRecDepth 100000 in
set_option maxHeartbeats 4000000 in
theorem c_Mo_begin (l : Launch) (D : va_G) (cI cL cZ : ClassId) (ad : Nat → Nat) {σ : St} {x1 : Int32} {x2 : Int32} {σ' : St} (hF : F_Mo_begin σ x1 x2 = some σ') : gw_M l y_Mo_begin w_Mo_begin rm_Mo_begin D gw_cl (gw_ty cI cL cZ) [.ref (ad 0), .int x1, .int x2] (wM ad cI cL cZ σ) (wM ad cI cL cZ σ') none := by
  refine gw_start (cc := b_Mo_begin) (nL := 3) (ret := none) (by decide) rfl (Nat.le_of_ble_eq_true rfl) (fun p e s m below meth c A C hr _ => ?_)
  refine gw_eq (lv' := [(0, .ref (ad 0)), (1, .int x1), (2, .int x2)]) rfl rfl ?_
  unfold F_Mo_begin at hF
  refine gw_aload_n C d_Mo_begin_0 rfl 0 rfl ?_
  refine gw_iload_n C d_Mo_begin_1 rfl 1 rfl ?_
  obtain ⟨r2, σ3, h1, hF⟩ := gw_bnd hF
  refine fc_Mo_102 (As := [.int x1]) (st := []) (σ' := σ3) C (c_Mo_isTerm l D cI cL cZ ad h1) ⟨Nat.le_of_ble_eq_true rfl, Nat.le_of_ble_eq_true rfl⟩ ⟨Nat.le_of_ble_eq_true rfl, Nat.le_of_ble_eq_true rfl⟩ rfl (Nat.le_of_ble_eq_true rfl) d_Mo_begin_2 ?_
  refine gw_if_ne (tgt := 14) C d_Mo_begin_5 (by decide) (fun h4 => ?_) (fun h4 => ?_)
  · have hF := gw_neg h4 hF
    refine gw_aload_n C d_Mo_begin_14 rfl 0 rfl ?_
    refine fg_Mo_26 C d_Mo_begin_15 ?_
    refine gw_iload_n C d_Mo_begin_18 rfl 1 rfl ?_
    obtain ⟨h5, hF⟩ := gw_grd hF
    refine alwM_6 (v := σ3.2.1 4 x1.toNatClampNeg) C h5 rfl d_Mo_begin_19 ?_
    refine gw_if_le (tgt := 29) C d_Mo_begin_20 (by decide) (fun h6 => ?_) (fun h6 => ?_)
    · have hF := gw_pos h6 hF
      refine gw_aload_n C d_Mo_begin_29 rfl 0 rfl ?_
      refine gw_iconst (v := 0) C d_Mo_begin_30 (by decide) ?_
      refine fp_Mo_87 C d_Mo_begin_31 ?_
      refine gw_aload_n C d_Mo_begin_34 rfl 0 rfl ?_
      refine gw_iconst (v := 0) C d_Mo_begin_35 (by decide) ?_
      refine fp_Mo_113 C d_Mo_begin_36 ?_
      refine gw_aload_n C d_Mo_begin_39 rfl 0 rfl ?_
      refine gw_iconst (v := 0) C d_Mo_begin_40 (by decide) ?_
      refine fp_Mo_116 C d_Mo_begin_41 ?_
      refine gw_aload_n C d_Mo_begin_44 rfl 0 rfl ?_
      refine gw_iconst (v := 0) C d_Mo_begin_45 (by decide) ?_
      refine fp_Mo_119 C d_Mo_begin_46 ?_
      refine gw_aload_n C d_Mo_begin_49 rfl 0 rfl ?_
      refine gw_iconst (v := 0) C d_Mo_begin_50 (by decide) ?_
      refine fp_Mo_122 C d_Mo_begin_51 ?_
      refine gw_aload_n C d_Mo_begin_54 rfl 0 rfl ?_
      refine gw_iconst (v := 0) C d_Mo_begin_55 (by decide) ?_
      refine fp_Mo_125 C d_Mo_begin_56 ?_
      refine gw_aload_n C d_Mo_begin_59 rfl 0 rfl ?_
      refine gw_iconst (v := 0) C d_Mo_begin_60 (by decide) ?_
      refine fp_Mo_128 C d_Mo_begin_61 ?_
      refine gw_aload_n C d_Mo_begin_64 rfl 0 rfl ?_
      refine gw_iconst (v := 0) C d_Mo_begin_65 (by decide) ?_
      refine fp_Mo_131 C d_Mo_begin_66 ?_
      refine gw_aload_n C d_Mo_begin_69 rfl 0 rfl ?_
      refine gw_iconst (v := 0) C d_Mo_begin_70 (by decide) ?_
      refine fp_Mo_134 C d_Mo_begin_71 ?_
      refine gw_aload_n C d_Mo_begin_74 rfl 0 rfl ?_
      refine gw_iload_n C d_Mo_begin_75 rfl 2 rfl ?_
      obtain ⟨h7, hF⟩ := gw_grd hF
      refine fp_Mo_137 C h7 d_Mo_begin_76 ?_
      refine gw_aload_n C d_Mo_begin_79 rfl 0 rfl ?_
      refine gw_iconst (v := 1) C d_Mo_begin_80 (by decide) ?_
      refine fp_Mo_141 C d_Mo_begin_81 ?_
      refine gw_aload_n C d_Mo_begin_84 rfl 0 rfl ?_
      refine gw_iload_n C d_Mo_begin_85 rfl 1 rfl ?_
      refine gw_iconst (v := (-1)) C d_Mo_begin_86 (by decide) ?_
      obtain ⟨σ9, h8, hF⟩ := gw_bndv hF
      refine fc_Mo_144 (As := [.int x1, .int (-1)]) (st := []) (σ' := σ9) C (c_Mo_atHand l D cI cL cZ ad h8) ⟨Nat.le_of_ble_eq_true rfl, Nat.le_of_ble_eq_true rfl⟩ ⟨Nat.le_of_ble_eq_true rfl, Nat.le_of_ble_eq_true rfl⟩ rfl (Nat.le_of_ble_eq_true rfl) d_Mo_begin_87 ?_
      cases hF
      exact gw_vret C hr rfl d_Mo_begin_90
    · have hF := gw_neg h6 hF
      refine gw_aload_n C d_Mo_begin_23 rfl 0 rfl ?_
      refine gw_iconst (v := 2) C d_Mo_begin_24 (by decide) ?_
      refine fp_Mo_87 C d_Mo_begin_25 ?_
      cases hF
      exact gw_vret C hr rfl d_Mo_begin_28
  · have hF := gw_pos h4 hF
    refine gw_aload_n C d_Mo_begin_8 rfl 0 rfl ?_
    refine gw_iconst (v := 1) C d_Mo_begin_9 (by decide) ?_
    refine fp_Mo_87 C d_Mo_begin_10 ?_
    cases hF
    exact gw_vret C hr rfl d_Mo_begin_13
set_option maxRecDepth 100000 in
set_option maxHeartbeats 4000000 in
theorem c_Mo_valueAtHand (l : Launch) (D : va_G) (cI cL cZ : ClassId) (ad : Nat → Nat) {σ : St} {x1 : Int32} {x2 : Int64} {x4 : Int32} {x5 : Int32} {σ' : St} (hF : F_Mo_valueAtHand σ x1 x2 x4 x5 = some σ') : gw_M l y_Mo_valueAtHand w_Mo_valueAtHand rm_Mo_valueAtHand D gw_cl (gw_ty cI cL cZ) [.ref (ad 0), .int x1, .long x2, .int x4, .int x5] (wM ad cI cL cZ σ) (wM ad cI cL cZ σ') none := by
  refine gw_start (cc := b_Mo_valueAtHand) (nL := 6) (ret := none) (by decide) rfl (Nat.le_of_ble_eq_true rfl) (fun p e s m below meth c A C hr _ => ?_)
  refine gw_eq (lv' := [(0, .ref (ad 0)), (1, .int x1), (2, .long x2), (4, .int x4), (5, .int x5)]) rfl rfl ?_
  unfold F_Mo_valueAtHand at hF
  refine gw_aload_n C d_Mo_valueAtHand_0 rfl 0 rfl ?_
  refine gw_iconst (v := 1) C d_Mo_valueAtHand_1 (by decide) ?_
  refine fp_Mo_148 C d_Mo_valueAtHand_2 ?_
  refine gw_aload_n C d_Mo_valueAtHand_5 rfl 0 rfl ?_
  refine gw_iload_n C d_Mo_valueAtHand_6 rfl 1 rfl ?_
  refine fp_Mo_157 C d_Mo_valueAtHand_7 ?_
  refine gw_aload_n C d_Mo_valueAtHand_10 rfl 0 rfl ?_
  refine gw_lload_n C d_Mo_valueAtHand_11 rfl 2 rfl ?_
  refine fp_Mo_160 C d_Mo_valueAtHand_12 ?_
  refine gw_aload_n C d_Mo_valueAtHand_15 rfl 0 rfl ?_
  refine gw_iload C d_Mo_valueAtHand_16 3 rfl ?_
  refine fp_Mo_164 C d_Mo_valueAtHand_18 ?_
  refine gw_aload_n C d_Mo_valueAtHand_21 rfl 0 rfl ?_
  refine gw_iload C d_Mo_valueAtHand_22 4 rfl ?_
  refine fp_Mo_167 C d_Mo_valueAtHand_24 ?_
  cases hF
  exact gw_vret C hr rfl d_Mo_valueAtHand_27
set_option maxRecDepth 100000 in
set_option maxHeartbeats 4000000 in
theorem c_Mo_reach (l : Launch) (D : va_G) (cI cL cZ : ClassId) (ad : Nat → Nat) {σ : St} {x1 : Int32} {σ' : St} (hF : F_Mo_reach σ x1 = some σ') : gw_M l y_Mo_reach w_Mo_reach rm_Mo_reach D gw_cl (gw_ty cI cL cZ) [.ref (ad 0), .int x1] (wM ad cI cL cZ σ) (wM ad cI cL cZ σ') none := by
  refine gw_start (cc := b_Mo_reach) (nL := 2) (ret := none) (by decide) rfl (Nat.le_of_ble_eq_true rfl) (fun p e s m below meth c A C hr _ => ?_)
  refine gw_eq (lv' := [(0, .ref (ad 0)), (1, .int x1)]) rfl rfl ?_
  unfold F_Mo_reach at hF
  refine gw_aload_n C d_Mo_reach_0 rfl 0 rfl ?_
  refine fg_Mo_78 C d_Mo_reach_1 ?_
  refine gw_iload_n C d_Mo_reach_4 rfl 1 rfl ?_
  obtain ⟨h1, hF⟩ := gw_grd hF
  refine alwM_23 (v := σ.2.1 19 x1.toNatClampNeg) C h1 rfl d_Mo_reach_5 ?_
  refine gw_if_ne (tgt := 36) C d_Mo_reach_6 (by decide) (fun h2 => ?_) (fun h2 => ?_)
  · have hF := gw_neg h2 hF
    cases hF
    exact gw_vret C hr rfl d_Mo_reach_36
  · have hF := gw_pos h2 hF
    refine gw_aload_n C d_Mo_reach_9 rfl 0 rfl ?_
    refine fg_Mo_78 C d_Mo_reach_10 ?_
    refine gw_iload_n C d_Mo_reach_13 rfl 1 rfl ?_
    refine gw_iconst (v := 1) C d_Mo_reach_14 (by decide) ?_
    obtain ⟨h3, hF⟩ := gw_grd hF
    refine aswM_23 C h3 rfl d_Mo_reach_15 ?_
    refine gw_aload_n C d_Mo_reach_16 rfl 0 rfl ?_
    refine fg_Mo_84 C d_Mo_reach_17 ?_
    refine gw_aload_n C d_Mo_reach_20 rfl 0 rfl ?_
    refine fg_Mo_233 (v := σ.1 21) C rfl d_Mo_reach_21 ?_
    refine gw_iload_n C d_Mo_reach_24 rfl 1 rfl ?_
    obtain ⟨h4, hF⟩ := gw_grd hF
    refine aswM_25 C h4 d_Mo_reach_25 ?_
    refine gw_aload_n C d_Mo_reach_26 rfl 0 rfl ?_
    refine gw_dup C d_Mo_reach_27 rfl ?_
    refine fg_Mo_233 (v := σ.1 21) C rfl d_Mo_reach_28 ?_
    refine gw_iconst (v := 1) C d_Mo_reach_31 (by decide) ?_
    refine gw_iadd C d_Mo_reach_32 ?_
    refine fp_Mo_233 C d_Mo_reach_33 ?_
    cases hF
    exact gw_vret C hr rfl d_Mo_reach_36
