set_option maxRecDepth 100000 in
set_option maxHeartbeats 4000000 in
theorem c_Gw_refuseTermBeyondMost (l : Launch) (hfl : l.flags = pinnedFlags ++ [noTraceFlag]) (D : va_G) (cI cL cZ : ClassId) (ad : Nat → Nat) {σ : St} {k : Nat} {r : Int32} {σ' : St} (hF : F_Gw_refuseTermBeyondMost σ = some ((k, r), σ')) : gw_MT l y_Gw_refuseTermBeyondMost w_Gw_refuseTermBeyondMost rm_Gw_refuseTermBeyondMost D gw_cl (gw_ty cI cL cZ) [.ref (ad 0)] (wC ad cI cL cZ σ) (wC ad cI cL cZ σ') k none := by
  refine gw_startT (cc := b_Gw_refuseTermBeyondMost) (nL := 1) (ret := none) hfl (by decide) rfl (Nat.le_of_ble_eq_true rfl) (fun p e s m below meth c A CT hr hem => ?_)
  have C := CT.1
  refine gw_eq (lv' := [(0, .ref (ad 0))]) rfl rfl ?_
  unfold F_Gw_refuseTermBeyondMost at hF
  refine gw_aload_n C d_Gw_refuseTermBeyondMost_0 rfl 0 rfl ?_
  refine fg_Gw_10 C d_Gw_refuseTermBeyondMost_1 ?_
  refine fg_Gw_19 C d_Gw_refuseTermBeyondMost_4 ?_
  obtain ⟨r2, σ3, h1, hF⟩ := gw_bnd hF
  refine fc_Gw_172 (As := []) (st := []) (σ' := σ3) C (c_Te_isFull l D cI cL cZ ad h1) ⟨Nat.le_of_ble_eq_true rfl, Nat.le_of_ble_eq_true rfl⟩ ⟨Nat.le_of_ble_eq_true rfl, Nat.le_of_ble_eq_true rfl⟩ rfl (Nat.le_of_ble_eq_true rfl) d_Gw_refuseTermBeyondMost_7 ?_
  refine gw_if_eq (tgt := 23) C d_Gw_refuseTermBeyondMost_10 (by decide) (fun h4 => ?_) (fun h4 => ?_)
  · have hF := gw_pos h4 hF
    cases hF
    exact gw_vretT CT hr rfl d_Gw_refuseTermBeyondMost_23
  · have hF := gw_neg h4 hF
    cases hF
    exact gw_throw (k := 2) CT rfl rfl (by decide) (by decide +kernel) gw_own_ISE tb_283 tb_284 tb_12 tbS_324 d_Gw_refuseTermBeyondMost_13 d_Gw_refuseTermBeyondMost_16 d_Gw_refuseTermBeyondMost_17 d_Gw_refuseTermBeyondMost_19 d_Gw_refuseTermBeyondMost_22 hem rfl (Nat.le_of_ble_eq_true rfl) (Nat.le_of_ble_eq_true rfl) (Nat.le_of_ble_eq_true rfl) (Nat.le_of_ble_eq_true rfl)
set_option maxRecDepth 100000 in
set_option maxHeartbeats 4000000 in
theorem c_Gw_number (l : Launch) (hfl : l.flags = pinnedFlags ++ [noTraceFlag]) (D : va_G) (cI cL cZ : ClassId) (ad : Nat → Nat) {σ : St} {x1 : Int64} {k : Nat} {r : Int32} {σ' : St} (hF : F_Gw_number σ x1 = some ((k, r), σ')) : gw_MT l y_Gw_number w_Gw_number rm_Gw_number D gw_cl (gw_ty cI cL cZ) [.ref (ad 0), .long x1] (wC ad cI cL cZ σ) (wC ad cI cL cZ σ') k (some (.int r)) := by
  refine gw_startT (cc := b_Gw_number) (nL := 3) (ret := (some .int)) hfl (by decide) rfl (Nat.le_of_ble_eq_true rfl) (fun p e s m below meth c A CT hr hem => ?_)
  have C := CT.1
  refine gw_eq (lv' := [(0, .ref (ad 0)), (1, .long x1)]) rfl rfl ?_
  unfold F_Gw_number at hF
  refine gw_aload_n C d_Gw_number_0 rfl 0 rfl ?_
  obtain ⟨k2, r3, σ4, h1, hF⟩ := gw_bndT hF
  refine fcT_Gw_16 (As := []) (st := []) (σ' := σ4) CT (c_Gw_refuseTermBeyondMost l CT.2.2.2 D cI cL cZ ad h1) ⟨Nat.le_of_ble_eq_true rfl, Nat.le_of_ble_eq_true rfl⟩ ⟨Nat.le_of_ble_eq_true rfl, Nat.le_of_ble_eq_true rfl⟩ rfl (Nat.le_of_ble_eq_true rfl) d_Gw_number_1 hem (fun h5 => ?_) (fun h5 => ?_)
  · have hF := gw_pos h5 hF
    refine gw_aload_n C d_Gw_number_4 rfl 0 rfl ?_
    refine fg_Gw_10 C d_Gw_number_5 ?_
    refine fg_Gw_19 C d_Gw_number_8 ?_
    refine gw_lload_n C d_Gw_number_11 rfl 1 rfl ?_
    obtain ⟨r7, σ8, h6, hF⟩ := gw_bnd hF
    refine fc_Gw_23 (As := [.long x1]) (st := []) (σ' := σ8) C (c_Te_addNumber l D cI cL cZ ad h6) ⟨Nat.le_of_ble_eq_true rfl, Nat.le_of_ble_eq_true rfl⟩ ⟨Nat.le_of_ble_eq_true rfl, Nat.le_of_ble_eq_true rfl⟩ rfl (Nat.le_of_ble_eq_true rfl) d_Gw_number_12 ?_
    cases hF
    exact gw_iretT CT hr rfl d_Gw_number_15
  · have hF := gw_neg h5 hF
    cases hF
    exact ⟨rfl, rfl⟩
set_option maxRecDepth 100000 in
set_option maxHeartbeats 4000000 in
theorem c_Gw_variable (l : Launch) (hfl : l.flags = pinnedFlags ++ [noTraceFlag]) (D : va_G) (cI cL cZ : ClassId) (ad : Nat → Nat) {σ : St} {x1 : Int32} {k : Nat} {r : Int32} {σ' : St} (hF : F_Gw_variable σ x1 = some ((k, r), σ')) : gw_MT l y_Gw_variable w_Gw_variable rm_Gw_variable D gw_cl (gw_ty cI cL cZ) [.ref (ad 0), .int x1] (wC ad cI cL cZ σ) (wC ad cI cL cZ σ') k (some (.int r)) := by
  refine gw_startT (cc := b_Gw_variable) (nL := 2) (ret := (some .int)) hfl (by decide) rfl (Nat.le_of_ble_eq_true rfl) (fun p e s m below meth c A CT hr hem => ?_)
  have C := CT.1
  refine gw_eq (lv' := [(0, .ref (ad 0)), (1, .int x1)]) rfl rfl ?_
  unfold F_Gw_variable at hF
  refine gw_aload_n C d_Gw_variable_0 rfl 0 rfl ?_
  obtain ⟨k2, r3, σ4, h1, hF⟩ := gw_bndT hF
  refine fcT_Gw_16 (As := []) (st := []) (σ' := σ4) CT (c_Gw_refuseTermBeyondMost l CT.2.2.2 D cI cL cZ ad h1) ⟨Nat.le_of_ble_eq_true rfl, Nat.le_of_ble_eq_true rfl⟩ ⟨Nat.le_of_ble_eq_true rfl, Nat.le_of_ble_eq_true rfl⟩ rfl (Nat.le_of_ble_eq_true rfl) d_Gw_variable_1 hem (fun h5 => ?_) (fun h5 => ?_)
  · have hF := gw_pos h5 hF
    refine gw_iload_n C d_Gw_variable_4 rfl 1 rfl ?_
    refine gw_if_lt (tgt := 14) C d_Gw_variable_5 (by decide) (fun h6 => ?_) (fun h6 => ?_)
    · have hF := gw_pos h6 hF
      cases hF
      exact gw_throw (k := 3) CT rfl rfl (by decide) (by decide +kernel) gw_own_IAE tb_367 tb_368 tb_13 tbS_376 d_Gw_variable_14 d_Gw_variable_17 d_Gw_variable_18 d_Gw_variable_20 d_Gw_variable_23 hem rfl (Nat.le_of_ble_eq_true rfl) (Nat.le_of_ble_eq_true rfl) (Nat.le_of_ble_eq_true rfl) (Nat.le_of_ble_eq_true rfl)
    · have hF := gw_neg h6 hF
      refine gw_iload_n C d_Gw_variable_8 rfl 1 rfl ?_
      refine gw_bipush (v := 60) C d_Gw_variable_9 (by decide) ?_
      refine gw_icmp_le (tgt := 24) C d_Gw_variable_11 (by decide) (fun h7 => ?_) (fun h7 => ?_)
      · have hF := gw_pos h7 hF
        refine gw_aload_n C d_Gw_variable_24 rfl 0 rfl ?_
        refine fg_Gw_10 C d_Gw_variable_25 ?_
        refine fg_Gw_19 C d_Gw_variable_28 ?_
        refine gw_iload_n C d_Gw_variable_31 rfl 1 rfl ?_
        obtain ⟨r9, σ10, h8, hF⟩ := gw_bnd hF
        refine fc_Gw_36 (As := [.int x1]) (st := []) (σ' := σ10) C (c_Te_addVariable l D cI cL cZ ad h8) ⟨Nat.le_of_ble_eq_true rfl, Nat.le_of_ble_eq_true rfl⟩ ⟨Nat.le_of_ble_eq_true rfl, Nat.le_of_ble_eq_true rfl⟩ rfl (Nat.le_of_ble_eq_true rfl) d_Gw_variable_32 ?_
        cases hF
        exact gw_iretT CT hr rfl d_Gw_variable_35
      · have hF := gw_neg h7 hF
        cases hF
        exact gw_throw (k := 3) CT rfl rfl (by decide) (by decide +kernel) gw_own_IAE tb_367 tb_368 tb_13 tbS_376 d_Gw_variable_14 d_Gw_variable_17 d_Gw_variable_18 d_Gw_variable_20 d_Gw_variable_23 hem rfl (Nat.le_of_ble_eq_true rfl) (Nat.le_of_ble_eq_true rfl) (Nat.le_of_ble_eq_true rfl) (Nat.le_of_ble_eq_true rfl)
  · have hF := gw_neg h5 hF
    cases hF
    exact ⟨rfl, rfl⟩
set_option maxRecDepth 100000 in
set_option maxHeartbeats 4000000 in
theorem c_Gw_refuseMissingTerm (l : Launch) (hfl : l.flags = pinnedFlags ++ [noTraceFlag]) (D : va_G) (cI cL cZ : ClassId) (ad : Nat → Nat) {σ : St} {x1 : Int32} {k : Nat} {r : Int32} {σ' : St} (hF : F_Gw_refuseMissingTerm σ x1 = some ((k, r), σ')) : gw_MT l y_Gw_refuseMissingTerm w_Gw_refuseMissingTerm rm_Gw_refuseMissingTerm D gw_cl (gw_ty cI cL cZ) [.ref (ad 0), .int x1] (wC ad cI cL cZ σ) (wC ad cI cL cZ σ') k none := by
  refine gw_startT (cc := b_Gw_refuseMissingTerm) (nL := 2) (ret := none) hfl (by decide) rfl (Nat.le_of_ble_eq_true rfl) (fun p e s m below meth c A CT hr hem => ?_)
  have C := CT.1
  refine gw_eq (lv' := [(0, .ref (ad 0)), (1, .int x1)]) rfl rfl ?_
  unfold F_Gw_refuseMissingTerm at hF
  refine gw_aload_n C d_Gw_refuseMissingTerm_0 rfl 0 rfl ?_
  refine fg_Gw_10 C d_Gw_refuseMissingTerm_1 ?_
  refine fg_Gw_19 C d_Gw_refuseMissingTerm_4 ?_
  refine gw_iload_n C d_Gw_refuseMissingTerm_7 rfl 1 rfl ?_
  obtain ⟨r2, σ3, h1, hF⟩ := gw_bnd hF
  refine fc_Gw_169 (As := [.int x1]) (st := []) (σ' := σ3) C (c_Te_has l D cI cL cZ ad h1) ⟨Nat.le_of_ble_eq_true rfl, Nat.le_of_ble_eq_true rfl⟩ ⟨Nat.le_of_ble_eq_true rfl, Nat.le_of_ble_eq_true rfl⟩ rfl (Nat.le_of_ble_eq_true rfl) d_Gw_refuseMissingTerm_8 ?_
  refine gw_if_ne (tgt := 24) C d_Gw_refuseMissingTerm_11 (by decide) (fun h4 => ?_) (fun h4 => ?_)
  · have hF := gw_neg h4 hF
    cases hF
    exact gw_vretT CT hr rfl d_Gw_refuseMissingTerm_24
  · have hF := gw_pos h4 hF
    cases hF
    exact gw_throw (k := 1) CT rfl rfl (by decide) (by decide +kernel) gw_own_IOB tb_403 tb_404 tb_14 tbS_412 d_Gw_refuseMissingTerm_14 d_Gw_refuseMissingTerm_17 d_Gw_refuseMissingTerm_18 d_Gw_refuseMissingTerm_20 d_Gw_refuseMissingTerm_23 hem rfl (Nat.le_of_ble_eq_true rfl) (Nat.le_of_ble_eq_true rfl) (Nat.le_of_ble_eq_true rfl) (Nat.le_of_ble_eq_true rfl)
set_option maxRecDepth 100000 in
set_option maxHeartbeats 4000000 in
theorem c_Gw_one (l : Launch) (hfl : l.flags = pinnedFlags ++ [noTraceFlag]) (D : va_G) (cI cL cZ : ClassId) (ad : Nat → Nat) {σ : St} {x1 : Int32} {x2 : Int32} {k : Nat} {r : Int32} {σ' : St} (hF : F_Gw_one σ x1 x2 = some ((k, r), σ')) : gw_MT l y_Gw_one w_Gw_one rm_Gw_one D gw_cl (gw_ty cI cL cZ) [.ref (ad 0), .int x1, .int x2] (wC ad cI cL cZ σ) (wC ad cI cL cZ σ') k (some (.int r)) := by
  refine gw_startT (cc := b_Gw_one) (nL := 3) (ret := (some .int)) hfl (by decide) rfl (Nat.le_of_ble_eq_true rfl) (fun p e s m below meth c A CT hr hem => ?_)
  have C := CT.1
  refine gw_eq (lv' := [(0, .ref (ad 0)), (1, .int x1), (2, .int x2)]) rfl rfl ?_
  unfold F_Gw_one at hF
  refine gw_aload_n C d_Gw_one_0 rfl 0 rfl ?_
  refine gw_iload_n C d_Gw_one_1 rfl 2 rfl ?_
  obtain ⟨k2, r3, σ4, h1, hF⟩ := gw_bndT hF
  refine fcT_Gw_40 (As := [.int x2]) (st := []) (σ' := σ4) CT (c_Gw_refuseMissingTerm l CT.2.2.2 D cI cL cZ ad h1) ⟨Nat.le_of_ble_eq_true rfl, Nat.le_of_ble_eq_true rfl⟩ ⟨Nat.le_of_ble_eq_true rfl, Nat.le_of_ble_eq_true rfl⟩ rfl (Nat.le_of_ble_eq_true rfl) d_Gw_one_2 hem (fun h5 => ?_) (fun h5 => ?_)
  · have hF := gw_pos h5 hF
    refine gw_aload_n C d_Gw_one_5 rfl 0 rfl ?_
    obtain ⟨k7, r8, σ9, h6, hF⟩ := gw_bndT hF
    refine fcT_Gw_16 (As := []) (st := []) (σ' := σ9) CT (c_Gw_refuseTermBeyondMost l CT.2.2.2 D cI cL cZ ad h6) ⟨Nat.le_of_ble_eq_true rfl, Nat.le_of_ble_eq_true rfl⟩ ⟨Nat.le_of_ble_eq_true rfl, Nat.le_of_ble_eq_true rfl⟩ rfl (Nat.le_of_ble_eq_true rfl) d_Gw_one_6 hem (fun h10 => ?_) (fun h10 => ?_)
    · have hF := gw_pos h10 hF
      refine gw_iload_n C d_Gw_one_9 rfl 1 rfl ?_
      refine gw_if_lt (tgt := 18) C d_Gw_one_10 (by decide) (fun h11 => ?_) (fun h11 => ?_)
      · have hF := gw_pos h11 hF
        cases hF
        exact gw_throw (k := 3) CT rfl rfl (by decide) (by decide +kernel) gw_own_IAE tb_367 tb_368 tb_13 tbS_419 d_Gw_one_18 d_Gw_one_21 d_Gw_one_22 d_Gw_one_24 d_Gw_one_27 hem rfl (Nat.le_of_ble_eq_true rfl) (Nat.le_of_ble_eq_true rfl) (Nat.le_of_ble_eq_true rfl) (Nat.le_of_ble_eq_true rfl)
      · have hF := gw_neg h11 hF
        refine gw_iload_n C d_Gw_one_13 rfl 1 rfl ?_
        refine gw_iconst (v := 2) C d_Gw_one_14 (by decide) ?_
        refine gw_icmp_le (tgt := 28) C d_Gw_one_15 (by decide) (fun h12 => ?_) (fun h12 => ?_)
        · have hF := gw_pos h12 hF
          refine gw_aload_n C d_Gw_one_28 rfl 0 rfl ?_
          refine fg_Gw_10 C d_Gw_one_29 ?_
          refine fg_Gw_19 C d_Gw_one_32 ?_
          refine gw_iload_n C d_Gw_one_35 rfl 1 rfl ?_
          refine gw_iload_n C d_Gw_one_36 rfl 2 rfl ?_
          obtain ⟨r14, σ15, h13, hF⟩ := gw_bnd hF
          refine fc_Gw_46 (As := [.int x1, .int x2]) (st := []) (σ' := σ15) C (c_Te_addOne l D cI cL cZ ad h13) ⟨Nat.le_of_ble_eq_true rfl, Nat.le_of_ble_eq_true rfl⟩ ⟨Nat.le_of_ble_eq_true rfl, Nat.le_of_ble_eq_true rfl⟩ rfl (Nat.le_of_ble_eq_true rfl) d_Gw_one_37 ?_
          cases hF
          exact gw_iretT CT hr rfl d_Gw_one_40
        · have hF := gw_neg h12 hF
          cases hF
          exact gw_throw (k := 3) CT rfl rfl (by decide) (by decide +kernel) gw_own_IAE tb_367 tb_368 tb_13 tbS_419 d_Gw_one_18 d_Gw_one_21 d_Gw_one_22 d_Gw_one_24 d_Gw_one_27 hem rfl (Nat.le_of_ble_eq_true rfl) (Nat.le_of_ble_eq_true rfl) (Nat.le_of_ble_eq_true rfl) (Nat.le_of_ble_eq_true rfl)
    · have hF := gw_neg h10 hF
      cases hF
      exact ⟨rfl, rfl⟩
  · have hF := gw_neg h5 hF
    cases hF
    exact ⟨rfl, rfl⟩
set_option maxRecDepth 100000 in
set_option maxHeartbeats 4000000 in
theorem c_Gw_two (l : Launch) (hfl : l.flags = pinnedFlags ++ [noTraceFlag]) (D : va_G) (cI cL cZ : ClassId) (ad : Nat → Nat) {σ : St} {x1 : Int32} {x2 : Int32} {x3 : Int32} {k : Nat} {r : Int32} {σ' : St} (hF : F_Gw_two σ x1 x2 x3 = some ((k, r), σ')) : gw_MT l y_Gw_two w_Gw_two rm_Gw_two D gw_cl (gw_ty cI cL cZ) [.ref (ad 0), .int x1, .int x2, .int x3] (wC ad cI cL cZ σ) (wC ad cI cL cZ σ') k (some (.int r)) := by
  refine gw_startT (cc := b_Gw_two) (nL := 4) (ret := (some .int)) hfl (by decide) rfl (Nat.le_of_ble_eq_true rfl) (fun p e s m below meth c A CT hr hem => ?_)
  have C := CT.1
  refine gw_eq (lv' := [(0, .ref (ad 0)), (1, .int x1), (2, .int x2), (3, .int x3)]) rfl rfl ?_
  unfold F_Gw_two at hF
  refine gw_aload_n C d_Gw_two_0 rfl 0 rfl ?_
  refine gw_iload_n C d_Gw_two_1 rfl 2 rfl ?_
  obtain ⟨k2, r3, σ4, h1, hF⟩ := gw_bndT hF
  refine fcT_Gw_40 (As := [.int x2]) (st := []) (σ' := σ4) CT (c_Gw_refuseMissingTerm l CT.2.2.2 D cI cL cZ ad h1) ⟨Nat.le_of_ble_eq_true rfl, Nat.le_of_ble_eq_true rfl⟩ ⟨Nat.le_of_ble_eq_true rfl, Nat.le_of_ble_eq_true rfl⟩ rfl (Nat.le_of_ble_eq_true rfl) d_Gw_two_2 hem (fun h5 => ?_) (fun h5 => ?_)
  · have hF := gw_pos h5 hF
    refine gw_aload_n C d_Gw_two_5 rfl 0 rfl ?_
    refine gw_iload_n C d_Gw_two_6 rfl 3 rfl ?_
    obtain ⟨k7, r8, σ9, h6, hF⟩ := gw_bndT hF
    refine fcT_Gw_40 (As := [.int x3]) (st := []) (σ' := σ9) CT (c_Gw_refuseMissingTerm l CT.2.2.2 D cI cL cZ ad h6) ⟨Nat.le_of_ble_eq_true rfl, Nat.le_of_ble_eq_true rfl⟩ ⟨Nat.le_of_ble_eq_true rfl, Nat.le_of_ble_eq_true rfl⟩ rfl (Nat.le_of_ble_eq_true rfl) d_Gw_two_7 hem (fun h10 => ?_) (fun h10 => ?_)
    · have hF := gw_pos h10 hF
      refine gw_aload_n C d_Gw_two_10 rfl 0 rfl ?_
      obtain ⟨k12, r13, σ14, h11, hF⟩ := gw_bndT hF
      refine fcT_Gw_16 (As := []) (st := []) (σ' := σ14) CT (c_Gw_refuseTermBeyondMost l CT.2.2.2 D cI cL cZ ad h11) ⟨Nat.le_of_ble_eq_true rfl, Nat.le_of_ble_eq_true rfl⟩ ⟨Nat.le_of_ble_eq_true rfl, Nat.le_of_ble_eq_true rfl⟩ rfl (Nat.le_of_ble_eq_true rfl) d_Gw_two_11 hem (fun h15 => ?_) (fun h15 => ?_)
      · have hF := gw_pos h15 hF
        refine gw_iload_n C d_Gw_two_14 rfl 1 rfl ?_
        refine gw_if_lt (tgt := 24) C d_Gw_two_15 (by decide) (fun h16 => ?_) (fun h16 => ?_)
        · have hF := gw_pos h16 hF
          cases hF
          exact gw_throw (k := 3) CT rfl rfl (by decide) (by decide +kernel) gw_own_IAE tb_367 tb_368 tb_13 tbS_442 d_Gw_two_24 d_Gw_two_27 d_Gw_two_28 d_Gw_two_30 d_Gw_two_33 hem rfl (Nat.le_of_ble_eq_true rfl) (Nat.le_of_ble_eq_true rfl) (Nat.le_of_ble_eq_true rfl) (Nat.le_of_ble_eq_true rfl)
        · have hF := gw_neg h16 hF
          refine gw_iload_n C d_Gw_two_18 rfl 1 rfl ?_
          refine gw_bipush (v := 8) C d_Gw_two_19 (by decide) ?_
          refine gw_icmp_le (tgt := 34) C d_Gw_two_21 (by decide) (fun h17 => ?_) (fun h17 => ?_)
          · have hF := gw_pos h17 hF
            refine gw_aload_n C d_Gw_two_34 rfl 0 rfl ?_
            refine fg_Gw_10 C d_Gw_two_35 ?_
            refine fg_Gw_19 C d_Gw_two_38 ?_
            refine gw_iload_n C d_Gw_two_41 rfl 1 rfl ?_
            refine gw_iload_n C d_Gw_two_42 rfl 2 rfl ?_
            refine gw_iload_n C d_Gw_two_43 rfl 3 rfl ?_
            obtain ⟨r19, σ20, h18, hF⟩ := gw_bnd hF
            refine fc_Gw_52 (As := [.int x1, .int x2, .int x3]) (st := []) (σ' := σ20) C (c_Te_addTwo l D cI cL cZ ad h18) ⟨Nat.le_of_ble_eq_true rfl, Nat.le_of_ble_eq_true rfl⟩ ⟨Nat.le_of_ble_eq_true rfl, Nat.le_of_ble_eq_true rfl⟩ rfl (Nat.le_of_ble_eq_true rfl) d_Gw_two_44 ?_
            cases hF
            exact gw_iretT CT hr rfl d_Gw_two_47
          · have hF := gw_neg h17 hF
            cases hF
            exact gw_throw (k := 3) CT rfl rfl (by decide) (by decide +kernel) gw_own_IAE tb_367 tb_368 tb_13 tbS_442 d_Gw_two_24 d_Gw_two_27 d_Gw_two_28 d_Gw_two_30 d_Gw_two_33 hem rfl (Nat.le_of_ble_eq_true rfl) (Nat.le_of_ble_eq_true rfl) (Nat.le_of_ble_eq_true rfl) (Nat.le_of_ble_eq_true rfl)
      · have hF := gw_neg h15 hF
        cases hF
        exact ⟨rfl, rfl⟩
    · have hF := gw_neg h10 hF
      cases hF
      exact ⟨rfl, rfl⟩
  · have hF := gw_neg h5 hF
    cases hF
    exact ⟨rfl, rfl⟩
set_option maxRecDepth 100000 in
set_option maxHeartbeats 4000000 in
theorem c_Gw_choose (l : Launch) (hfl : l.flags = pinnedFlags ++ [noTraceFlag]) (D : va_G) (cI cL cZ : ClassId) (ad : Nat → Nat) {σ : St} {x1 : Int32} {x2 : Int32} {x3 : Int32} {k : Nat} {r : Int32} {σ' : St} (hF : F_Gw_choose σ x1 x2 x3 = some ((k, r), σ')) : gw_MT l y_Gw_choose w_Gw_choose rm_Gw_choose D gw_cl (gw_ty cI cL cZ) [.ref (ad 0), .int x1, .int x2, .int x3] (wC ad cI cL cZ σ) (wC ad cI cL cZ σ') k (some (.int r)) := by
  refine gw_startT (cc := b_Gw_choose) (nL := 4) (ret := (some .int)) hfl (by decide) rfl (Nat.le_of_ble_eq_true rfl) (fun p e s m below meth c A CT hr hem => ?_)
  have C := CT.1
  refine gw_eq (lv' := [(0, .ref (ad 0)), (1, .int x1), (2, .int x2), (3, .int x3)]) rfl rfl ?_
  unfold F_Gw_choose at hF
  refine gw_aload_n C d_Gw_choose_0 rfl 0 rfl ?_
  refine gw_iload_n C d_Gw_choose_1 rfl 1 rfl ?_
  obtain ⟨k2, r3, σ4, h1, hF⟩ := gw_bndT hF
  refine fcT_Gw_40 (As := [.int x1]) (st := []) (σ' := σ4) CT (c_Gw_refuseMissingTerm l CT.2.2.2 D cI cL cZ ad h1) ⟨Nat.le_of_ble_eq_true rfl, Nat.le_of_ble_eq_true rfl⟩ ⟨Nat.le_of_ble_eq_true rfl, Nat.le_of_ble_eq_true rfl⟩ rfl (Nat.le_of_ble_eq_true rfl) d_Gw_choose_2 hem (fun h5 => ?_) (fun h5 => ?_)
  · have hF := gw_pos h5 hF
    refine gw_aload_n C d_Gw_choose_5 rfl 0 rfl ?_
    refine gw_iload_n C d_Gw_choose_6 rfl 2 rfl ?_
    obtain ⟨k7, r8, σ9, h6, hF⟩ := gw_bndT hF
    refine fcT_Gw_40 (As := [.int x2]) (st := []) (σ' := σ9) CT (c_Gw_refuseMissingTerm l CT.2.2.2 D cI cL cZ ad h6) ⟨Nat.le_of_ble_eq_true rfl, Nat.le_of_ble_eq_true rfl⟩ ⟨Nat.le_of_ble_eq_true rfl, Nat.le_of_ble_eq_true rfl⟩ rfl (Nat.le_of_ble_eq_true rfl) d_Gw_choose_7 hem (fun h10 => ?_) (fun h10 => ?_)
    · have hF := gw_pos h10 hF
      refine gw_aload_n C d_Gw_choose_10 rfl 0 rfl ?_
      refine gw_iload_n C d_Gw_choose_11 rfl 3 rfl ?_
      obtain ⟨k12, r13, σ14, h11, hF⟩ := gw_bndT hF
      refine fcT_Gw_40 (As := [.int x3]) (st := []) (σ' := σ14) CT (c_Gw_refuseMissingTerm l CT.2.2.2 D cI cL cZ ad h11) ⟨Nat.le_of_ble_eq_true rfl, Nat.le_of_ble_eq_true rfl⟩ ⟨Nat.le_of_ble_eq_true rfl, Nat.le_of_ble_eq_true rfl⟩ rfl (Nat.le_of_ble_eq_true rfl) d_Gw_choose_12 hem (fun h15 => ?_) (fun h15 => ?_)
      · have hF := gw_pos h15 hF
        refine gw_aload_n C d_Gw_choose_15 rfl 0 rfl ?_
        obtain ⟨k17, r18, σ19, h16, hF⟩ := gw_bndT hF
        refine fcT_Gw_16 (As := []) (st := []) (σ' := σ19) CT (c_Gw_refuseTermBeyondMost l CT.2.2.2 D cI cL cZ ad h16) ⟨Nat.le_of_ble_eq_true rfl, Nat.le_of_ble_eq_true rfl⟩ ⟨Nat.le_of_ble_eq_true rfl, Nat.le_of_ble_eq_true rfl⟩ rfl (Nat.le_of_ble_eq_true rfl) d_Gw_choose_16 hem (fun h20 => ?_) (fun h20 => ?_)
        · have hF := gw_pos h20 hF
          refine gw_aload_n C d_Gw_choose_19 rfl 0 rfl ?_
          refine fg_Gw_10 C d_Gw_choose_20 ?_
          refine fg_Gw_19 C d_Gw_choose_23 ?_
          refine gw_iload_n C d_Gw_choose_26 rfl 1 rfl ?_
          refine gw_iload_n C d_Gw_choose_27 rfl 2 rfl ?_
          refine gw_iload_n C d_Gw_choose_28 rfl 3 rfl ?_
          obtain ⟨r22, σ23, h21, hF⟩ := gw_bnd hF
          refine fc_Gw_56 (As := [.int x1, .int x2, .int x3]) (st := []) (σ' := σ23) C (c_Te_addChoose l D cI cL cZ ad h21) ⟨Nat.le_of_ble_eq_true rfl, Nat.le_of_ble_eq_true rfl⟩ ⟨Nat.le_of_ble_eq_true rfl, Nat.le_of_ble_eq_true rfl⟩ rfl (Nat.le_of_ble_eq_true rfl) d_Gw_choose_29 ?_
          cases hF
          exact gw_iretT CT hr rfl d_Gw_choose_32
        · have hF := gw_neg h20 hF
          cases hF
          exact ⟨rfl, rfl⟩
      · have hF := gw_neg h15 hF
        cases hF
        exact ⟨rfl, rfl⟩
    · have hF := gw_neg h10 hF
      cases hF
      exact ⟨rfl, rfl⟩
  · have hF := gw_neg h5 hF
    cases hF
    exact ⟨rfl, rfl⟩
set_option maxRecDepth 100000 in
set_option maxHeartbeats 4000000 in
theorem c_Gw_lacks (l : Launch) (hfl : l.flags = pinnedFlags ++ [noTraceFlag]) (D : va_G) (cI cL cZ : ClassId) (ad : Nat → Nat) {σ : St} {x1 : Int32} {k : Nat} {r : Int32} {σ' : St} (hF : F_Gw_lacks σ x1 = some ((k, r), σ')) : gw_MT l y_Gw_lacks w_Gw_lacks rm_Gw_lacks D gw_cl (gw_ty cI cL cZ) [.ref (ad 0), .int x1] (wC ad cI cL cZ σ) (wC ad cI cL cZ σ') k (some (.int r)) := by
  refine gw_startT (cc := b_Gw_lacks) (nL := 2) (ret := (some .int)) hfl (by decide) rfl (Nat.le_of_ble_eq_true rfl) (fun p e s m below meth c A CT hr hem => ?_)
  have C := CT.1
  refine gw_eq (lv' := [(0, .ref (ad 0)), (1, .int x1)]) rfl rfl ?_
  unfold F_Gw_lacks at hF
  refine gw_aload_n C d_Gw_lacks_0 rfl 0 rfl ?_
  refine gw_iload_n C d_Gw_lacks_1 rfl 1 rfl ?_
  obtain ⟨k2, r3, σ4, h1, hF⟩ := gw_bndT hF
  refine fcT_Gw_40 (As := [.int x1]) (st := []) (σ' := σ4) CT (c_Gw_refuseMissingTerm l CT.2.2.2 D cI cL cZ ad h1) ⟨Nat.le_of_ble_eq_true rfl, Nat.le_of_ble_eq_true rfl⟩ ⟨Nat.le_of_ble_eq_true rfl, Nat.le_of_ble_eq_true rfl⟩ rfl (Nat.le_of_ble_eq_true rfl) d_Gw_lacks_2 hem (fun h5 => ?_) (fun h5 => ?_)
  · have hF := gw_pos h5 hF
    refine gw_aload_n C d_Gw_lacks_5 rfl 0 rfl ?_
    refine fg_Gw_10 C d_Gw_lacks_6 ?_
    refine fg_Gw_19 C d_Gw_lacks_9 ?_
    refine gw_iload_n C d_Gw_lacks_12 rfl 1 rfl ?_
    obtain ⟨r7, σ8, h6, hF⟩ := gw_bnd hF
    refine fc_Gw_59 (As := [.int x1]) (st := []) (σ' := σ8) C (c_Te_lackOf l D cI cL cZ ad h6) ⟨Nat.le_of_ble_eq_true rfl, Nat.le_of_ble_eq_true rfl⟩ ⟨Nat.le_of_ble_eq_true rfl, Nat.le_of_ble_eq_true rfl⟩ rfl (Nat.le_of_ble_eq_true rfl) d_Gw_lacks_13 ?_
    cases hF
    exact gw_iretT CT hr rfl d_Gw_lacks_16
  · have hF := gw_neg h5 hF
    cases hF
    exact ⟨rfl, rfl⟩
set_option maxRecDepth 100000 in
set_option maxHeartbeats 4000000 in
theorem c_Gw_begin (l : Launch) (hfl : l.flags = pinnedFlags ++ [noTraceFlag]) (D : va_G) (cI cL cZ : ClassId) (ad : Nat → Nat) {σ : St} {x1 : Int32} {x2 : Int32} {k : Nat} {r : Int32} {σ' : St} (hF : F_Gw_begin σ x1 x2 = some ((k, r), σ')) : gw_MT l y_Gw_begin w_Gw_begin rm_Gw_begin D gw_cl (gw_ty cI cL cZ) [.ref (ad 0), .int x1, .int x2] (wC ad cI cL cZ σ) (wC ad cI cL cZ σ') k none := by
  refine gw_startT (cc := b_Gw_begin) (nL := 3) (ret := none) hfl (by decide) rfl (Nat.le_of_ble_eq_true rfl) (fun p e s m below meth c A CT hr hem => ?_)
  have C := CT.1
  refine gw_eq (lv' := [(0, .ref (ad 0)), (1, .int x1), (2, .int x2)]) rfl rfl ?_
  unfold F_Gw_begin at hF
  refine gw_aload_n C d_Gw_begin_0 rfl 0 rfl ?_
  refine gw_iload_n C d_Gw_begin_1 rfl 1 rfl ?_
  obtain ⟨k2, r3, σ4, h1, hF⟩ := gw_bndT hF
  refine fcT_Gw_40 (As := [.int x1]) (st := []) (σ' := σ4) CT (c_Gw_refuseMissingTerm l CT.2.2.2 D cI cL cZ ad h1) ⟨Nat.le_of_ble_eq_true rfl, Nat.le_of_ble_eq_true rfl⟩ ⟨Nat.le_of_ble_eq_true rfl, Nat.le_of_ble_eq_true rfl⟩ rfl (Nat.le_of_ble_eq_true rfl) d_Gw_begin_2 hem (fun h5 => ?_) (fun h5 => ?_)
  · have hF := gw_pos h5 hF
    refine gw_aload_n C d_Gw_begin_5 rfl 0 rfl ?_
    refine fg_Gw_10 C d_Gw_begin_6 ?_
    refine fg_Gw_19 C d_Gw_begin_9 ?_
    refine gw_iload_n C d_Gw_begin_12 rfl 1 rfl ?_
    obtain ⟨r7, σ8, h6, hF⟩ := gw_bnd hF
    refine fc_Gw_59 (As := [.int x1]) (st := []) (σ' := σ8) C (c_Te_lackOf l D cI cL cZ ad h6) ⟨Nat.le_of_ble_eq_true rfl, Nat.le_of_ble_eq_true rfl⟩ ⟨Nat.le_of_ble_eq_true rfl, Nat.le_of_ble_eq_true rfl⟩ rfl (Nat.le_of_ble_eq_true rfl) d_Gw_begin_13 ?_
    refine gw_if_eq (tgt := 29) C d_Gw_begin_16 (by decide) (fun h9 => ?_) (fun h9 => ?_)
    · have hF := gw_pos h9 hF
      refine gw_aload_n C d_Gw_begin_29 rfl 0 rfl ?_
      refine fg_Gw_10 C d_Gw_begin_30 ?_
      refine gw_iload_n C d_Gw_begin_33 rfl 1 rfl ?_
      refine gw_iload_n C d_Gw_begin_34 rfl 2 rfl ?_
      obtain ⟨σ11, h10, hF⟩ := gw_bndv hF
      refine fc_Gw_67 (As := [.int x1, .int x2]) (st := []) (σ' := σ11) C (c_Wa_start l D cI cL cZ ad h10) ⟨Nat.le_of_ble_eq_true rfl, Nat.le_of_ble_eq_true rfl⟩ ⟨Nat.le_of_ble_eq_true rfl, Nat.le_of_ble_eq_true rfl⟩ rfl (Nat.le_of_ble_eq_true rfl) d_Gw_begin_35 ?_
      cases hF
      exact gw_vretT CT hr rfl d_Gw_begin_38
    · have hF := gw_neg h9 hF
      cases hF
      exact gw_throw (k := 2) CT rfl rfl (by decide) (by decide +kernel) gw_own_ISE tb_283 tb_284 tb_12 tbS_473 d_Gw_begin_19 d_Gw_begin_22 d_Gw_begin_23 d_Gw_begin_25 d_Gw_begin_28 hem rfl (Nat.le_of_ble_eq_true rfl) (Nat.le_of_ble_eq_true rfl) (Nat.le_of_ble_eq_true rfl) (Nat.le_of_ble_eq_true rfl)
  · have hF := gw_neg h5 hF
    cases hF
    exact ⟨rfl, rfl⟩
set_option maxRecDepth 100000 in
set_option maxHeartbeats 4000000 in
theorem c_Gw_refuseMissingRun (l : Launch) (hfl : l.flags = pinnedFlags ++ [noTraceFlag]) (D : va_G) (cI cL cZ : ClassId) (ad : Nat → Nat) {σ : St} {k : Nat} {r : Int32} {σ' : St} (hF : F_Gw_refuseMissingRun σ = some ((k, r), σ')) : gw_MT l y_Gw_refuseMissingRun w_Gw_refuseMissingRun rm_Gw_refuseMissingRun D gw_cl (gw_ty cI cL cZ) [.ref (ad 0)] (wC ad cI cL cZ σ) (wC ad cI cL cZ σ') k none := by
  refine gw_startT (cc := b_Gw_refuseMissingRun) (nL := 1) (ret := none) hfl (by decide) rfl (Nat.le_of_ble_eq_true rfl) (fun p e s m below meth c A CT hr hem => ?_)
  have C := CT.1
  refine gw_eq (lv' := [(0, .ref (ad 0))]) rfl rfl ?_
  unfold F_Gw_refuseMissingRun at hF
  refine gw_aload_n C d_Gw_refuseMissingRun_0 rfl 0 rfl ?_
  refine fg_Gw_10 C d_Gw_refuseMissingRun_1 ?_
  refine fg_Gw_76 (v := σ.1 0) C rfl d_Gw_refuseMissingRun_4 ?_
  refine gw_if_ne (tgt := 20) C d_Gw_refuseMissingRun_7 (by decide) (fun h1 => ?_) (fun h1 => ?_)
  · have hF := gw_neg h1 hF
    cases hF
    exact gw_vretT CT hr rfl d_Gw_refuseMissingRun_20
  · have hF := gw_pos h1 hF
    cases hF
    exact gw_throw (k := 2) CT rfl rfl (by decide) (by decide +kernel) gw_own_ISE tb_283 tb_284 tb_12 tbS_513 d_Gw_refuseMissingRun_10 d_Gw_refuseMissingRun_13 d_Gw_refuseMissingRun_14 d_Gw_refuseMissingRun_16 d_Gw_refuseMissingRun_19 hem rfl (Nat.le_of_ble_eq_true rfl) (Nat.le_of_ble_eq_true rfl) (Nat.le_of_ble_eq_true rfl) (Nat.le_of_ble_eq_true rfl)
set_option maxRecDepth 100000 in
set_option maxHeartbeats 4000000 in
theorem k_Gw_run_27 {p : Program} (l : Launch) {e : Env} {s : State} {m : MethodId} {args : Array Value} {below : List Frame} {meth : Method} {c : Code} {D : va_G} {A : Nat → Prop} {cI cL cZ : ClassId} {ad : Nat → Nat} (CT : gw_CT l p s m args meth c b_Gw_run 3 R_Gw D gw_cl (gw_ty cI cL cZ) A) (hr : meth.sig.returnType = (some .int)) (hem : c.exceptionTable.isEmpty = true) {k : Nat} {r : Int32} {σ' : St} : ∀ (n : Nat) (σ : St) (x1 : Int32) (x2 : Int32) (hF : K_Gw_run_27 n σ x1 x2 = some ((k, r), σ')), gw_W p l e rm_Gw_run s m args below meth c D gw_cl A (MQT below (gw_QcT D gw_cl (wC ad cI cL cZ σ') k (some (.int r)) A) args s (gw_kc k) (gw_ks k) A) 0 0 3 (wC ad cI cL cZ σ) [(0, .ref (ad 0)), (1, .int x1), (2, .int x2)] 27 []
  | 0, σ, x1, x2, hF => by cases hF
  | n + 1, σ, x1, x2, hF => by
    have C := CT.1
    unfold K_Gw_run_27 at hF
    refine gw_iload_n C d_Gw_run_27 rfl 2 rfl ?_
    refine gw_iload_n C d_Gw_run_28 rfl 1 rfl ?_
    refine gw_icmp_ge (tgt := 56) C d_Gw_run_29 (by decide) (fun h8 => ?_) (fun h8 => ?_)
    · have hF := gw_pos h8 hF
      refine gw_iload_n C d_Gw_run_56 rfl 2 rfl ?_
      cases hF
      exact gw_iretT CT hr rfl d_Gw_run_57
    · have hF := gw_neg h8 hF
      refine gw_aload_n C d_Gw_run_32 rfl 0 rfl ?_
      refine fg_Gw_10 C d_Gw_run_33 ?_
      refine fg_Gw_76 (v := σ.1 0) C rfl d_Gw_run_36 ?_
      refine gw_iconst (v := 1) C d_Gw_run_39 (by decide) ?_
      refine gw_icmp_ne (tgt := 56) C d_Gw_run_40 (by decide) (fun h9 => ?_) (fun h9 => ?_)
      · have hF := gw_neg h9 hF
        refine gw_iload_n C d_Gw_run_56 rfl 2 rfl ?_
        cases hF
        exact gw_iretT CT hr rfl d_Gw_run_57
      · have hF := gw_pos h9 hF
        refine gw_aload_n C d_Gw_run_43 rfl 0 rfl ?_
        refine fg_Gw_10 C d_Gw_run_44 ?_
        obtain ⟨σ11, h10, hF⟩ := gw_bndv hF
        refine fc_Gw_80 (As := []) (st := []) (σ' := σ11) C (c_Wa_step l D cI cL cZ ad h10) ⟨Nat.le_of_ble_eq_true rfl, Nat.le_of_ble_eq_true rfl⟩ ⟨Nat.le_of_ble_eq_true rfl, Nat.le_of_ble_eq_true rfl⟩ rfl (Nat.le_of_ble_eq_true rfl) d_Gw_run_47 ?_
        refine gw_iinc (q := 2) (v := x2 + 1) (lv' := [(2, .int (x2 + 1)), (0, .ref (ad 0)), (1, .int x1)]) C d_Gw_run_50 rfl rfl (by decide) rfl ?_
        refine gw_goto (tgt := 27) C d_Gw_run_53 (by decide) ?_
        refine gw_less [1, 2, 0] rfl ?_
        exact k_Gw_run_27 l CT hr hem n _ _ _ hF
set_option maxRecDepth 100000 in
set_option maxHeartbeats 4000000 in
theorem c_Gw_run (l : Launch) (hfl : l.flags = pinnedFlags ++ [noTraceFlag]) (D : va_G) (cI cL cZ : ClassId) (ad : Nat → Nat) {σ : St} {x1 : Int32} {k : Nat} {r : Int32} {σ' : St} (hF : F_Gw_run σ x1 = some ((k, r), σ')) : gw_MT l y_Gw_run w_Gw_run rm_Gw_run D gw_cl (gw_ty cI cL cZ) [.ref (ad 0), .int x1] (wC ad cI cL cZ σ) (wC ad cI cL cZ σ') k (some (.int r)) := by
  refine gw_startT (cc := b_Gw_run) (nL := 3) (ret := (some .int)) hfl (by decide) rfl (Nat.le_of_ble_eq_true rfl) (fun p e s m below meth c A CT hr hem => ?_)
  have C := CT.1
  refine gw_eq (lv' := [(0, .ref (ad 0)), (1, .int x1)]) rfl rfl ?_
  unfold F_Gw_run at hF
  refine gw_aload_n C d_Gw_run_0 rfl 0 rfl ?_
  obtain ⟨k2, r3, σ4, h1, hF⟩ := gw_bndT hF
  refine fcT_Gw_71 (As := []) (st := []) (σ' := σ4) CT (c_Gw_refuseMissingRun l CT.2.2.2 D cI cL cZ ad h1) ⟨Nat.le_of_ble_eq_true rfl, Nat.le_of_ble_eq_true rfl⟩ ⟨Nat.le_of_ble_eq_true rfl, Nat.le_of_ble_eq_true rfl⟩ rfl (Nat.le_of_ble_eq_true rfl) d_Gw_run_1 hem (fun h5 => ?_) (fun h5 => ?_)
  · have hF := gw_pos h5 hF
    refine gw_iload_n C d_Gw_run_4 rfl 1 rfl ?_
    refine gw_if_lt (tgt := 15) C d_Gw_run_5 (by decide) (fun h6 => ?_) (fun h6 => ?_)
    · have hF := gw_pos h6 hF
      cases hF
      exact gw_throw (k := 3) CT rfl rfl (by decide) (by decide +kernel) gw_own_IAE tb_367 tb_368 tb_13 tbS_514 d_Gw_run_15 d_Gw_run_18 d_Gw_run_19 d_Gw_run_21 d_Gw_run_24 hem rfl (Nat.le_of_ble_eq_true rfl) (Nat.le_of_ble_eq_true rfl) (Nat.le_of_ble_eq_true rfl) (Nat.le_of_ble_eq_true rfl)
    · have hF := gw_neg h6 hF
      refine gw_iload_n C d_Gw_run_8 rfl 1 rfl ?_
      refine gw_sipush (v := 5000) C d_Gw_run_9 (by decide) ?_
      refine gw_icmp_le (tgt := 25) C d_Gw_run_12 (by decide) (fun h7 => ?_) (fun h7 => ?_)
      · have hF := gw_pos h7 hF
        refine gw_iconst (v := 0) C d_Gw_run_25 (by decide) ?_
        refine gw_istore_n (lv' := [(2, .int 0), (0, .ref (ad 0)), (1, .int x1)]) C d_Gw_run_26 rfl (by decide) rfl ?_
        refine gw_less [1, 2, 0] rfl ?_
        exact k_Gw_run_27 l CT hr hem gw_N _ _ _ hF
      · have hF := gw_neg h7 hF
        cases hF
        exact gw_throw (k := 3) CT rfl rfl (by decide) (by decide +kernel) gw_own_IAE tb_367 tb_368 tb_13 tbS_514 d_Gw_run_15 d_Gw_run_18 d_Gw_run_19 d_Gw_run_21 d_Gw_run_24 hem rfl (Nat.le_of_ble_eq_true rfl) (Nat.le_of_ble_eq_true rfl) (Nat.le_of_ble_eq_true rfl) (Nat.le_of_ble_eq_true rfl)
  · have hF := gw_neg h5 hF
    cases hF
    exact ⟨rfl, rfl⟩
set_option maxRecDepth 100000 in
set_option maxHeartbeats 4000000 in
theorem c_Gw_into (l : Launch) (hfl : l.flags = pinnedFlags ++ [noTraceFlag]) (D : va_G) (cI cL cZ : ClassId) (ad : Nat → Nat) {σ : St} {x1 : Int32} {k : Nat} {r : Int32} {σ' : St} (hF : F_Gw_into σ x1 = some ((k, r), σ')) : gw_MT l y_Gw_into w_Gw_into rm_Gw_into D gw_cl (gw_ty cI cL cZ) [.ref (ad 0), .int x1] (wC ad cI cL cZ σ) (wC ad cI cL cZ σ') k none := by
  refine gw_startT (cc := b_Gw_into) (nL := 2) (ret := none) hfl (by decide) rfl (Nat.le_of_ble_eq_true rfl) (fun p e s m below meth c A CT hr hem => ?_)
  have C := CT.1
  refine gw_eq (lv' := [(0, .ref (ad 0)), (1, .int x1)]) rfl rfl ?_
  unfold F_Gw_into at hF
  refine gw_aload_n C d_Gw_into_0 rfl 0 rfl ?_
  refine fg_Gw_10 C d_Gw_into_1 ?_
  refine fg_Gw_76 (v := σ.1 0) C rfl d_Gw_into_4 ?_
  refine gw_iconst (v := 2) C d_Gw_into_7 (by decide) ?_
  refine gw_icmp_ne (tgt := 25) C d_Gw_into_8 (by decide) (fun h1 => ?_) (fun h1 => ?_)
  · have hF := gw_neg h1 hF
    cases hF
    exact gw_throw (k := 2) CT rfl rfl (by decide) (by decide +kernel) gw_own_ISE tb_283 tb_284 tb_12 tbS_778 d_Gw_into_25 d_Gw_into_28 d_Gw_into_29 d_Gw_into_31 d_Gw_into_34 hem rfl (Nat.le_of_ble_eq_true rfl) (Nat.le_of_ble_eq_true rfl) (Nat.le_of_ble_eq_true rfl) (Nat.le_of_ble_eq_true rfl)
  · have hF := gw_pos h1 hF
    refine gw_aload_n C d_Gw_into_11 rfl 0 rfl ?_
    refine fg_Gw_10 C d_Gw_into_12 ?_
    refine fg_Gw_83 C d_Gw_into_15 ?_
    refine fg_Gw_87 (v := σ.1 19) C rfl d_Gw_into_18 ?_
    refine gw_iconst (v := 2) C d_Gw_into_21 (by decide) ?_
    refine gw_icmp_eq (tgt := 35) C d_Gw_into_22 (by decide) (fun h2 => ?_) (fun h2 => ?_)
    · have hF := gw_pos h2 hF
      refine gw_iload_n C d_Gw_into_35 rfl 1 rfl ?_
      refine gw_if_lt (tgt := 44) C d_Gw_into_36 (by decide) (fun h3 => ?_) (fun h3 => ?_)
      · have hF := gw_pos h3 hF
        cases hF
        exact gw_throw (k := 3) CT rfl rfl (by decide) (by decide +kernel) gw_own_IAE tb_367 tb_368 tb_13 tbS_779 d_Gw_into_44 d_Gw_into_47 d_Gw_into_48 d_Gw_into_50 d_Gw_into_53 hem rfl (Nat.le_of_ble_eq_true rfl) (Nat.le_of_ble_eq_true rfl) (Nat.le_of_ble_eq_true rfl) (Nat.le_of_ble_eq_true rfl)
      · have hF := gw_neg h3 hF
        refine gw_iload_n C d_Gw_into_39 rfl 1 rfl ?_
        refine gw_iconst (v := 1) C d_Gw_into_40 (by decide) ?_
        refine gw_icmp_le (tgt := 54) C d_Gw_into_41 (by decide) (fun h4 => ?_) (fun h4 => ?_)
        · have hF := gw_pos h4 hF
          refine gw_aload_n C d_Gw_into_54 rfl 0 rfl ?_
          refine fg_Gw_10 C d_Gw_into_55 ?_
          refine gw_iload_n C d_Gw_into_58 rfl 1 rfl ?_
          refine gw_if_ne (tgt := 75) C d_Gw_into_59 (by decide) (fun h5 => ?_) (fun h5 => ?_)
          · have hF := gw_neg h5 hF
            refine gw_aload_n C d_Gw_into_75 rfl 0 rfl ?_
            refine fg_Gw_10 C d_Gw_into_76 ?_
            refine fg_Gw_83 C d_Gw_into_79 ?_
            refine fg_Gw_99 (v := σ.1 21) C rfl d_Gw_into_82 ?_
            obtain ⟨σ7, h6, hF⟩ := gw_bndv hF
            refine fc_Gw_102 (As := [.int (σ.1 21)]) (st := []) (σ' := σ7) C (c_Wa_turnTo l D cI cL cZ ad h6) ⟨Nat.le_of_ble_eq_true rfl, Nat.le_of_ble_eq_true rfl⟩ ⟨Nat.le_of_ble_eq_true rfl, Nat.le_of_ble_eq_true rfl⟩ rfl (Nat.le_of_ble_eq_true rfl) d_Gw_into_85 ?_
            cases hF
            exact gw_vretT CT hr rfl d_Gw_into_88
          · have hF := gw_pos h5 hF
            refine gw_aload_n C d_Gw_into_62 rfl 0 rfl ?_
            refine fg_Gw_10 C d_Gw_into_63 ?_
            refine fg_Gw_83 C d_Gw_into_66 ?_
            refine fg_Gw_96 (v := σ.1 20) C rfl d_Gw_into_69 ?_
            refine gw_goto (tgt := 85) C d_Gw_into_72 (by decide) ?_
            obtain ⟨σ9, h8, hF⟩ := gw_bndv hF
            refine fc_Gw_102 (As := [.int (σ.1 20)]) (st := []) (σ' := σ9) C (c_Wa_turnTo l D cI cL cZ ad h8) ⟨Nat.le_of_ble_eq_true rfl, Nat.le_of_ble_eq_true rfl⟩ ⟨Nat.le_of_ble_eq_true rfl, Nat.le_of_ble_eq_true rfl⟩ rfl (Nat.le_of_ble_eq_true rfl) d_Gw_into_85 ?_
            cases hF
            exact gw_vretT CT hr rfl d_Gw_into_88
        · have hF := gw_neg h4 hF
          cases hF
          exact gw_throw (k := 3) CT rfl rfl (by decide) (by decide +kernel) gw_own_IAE tb_367 tb_368 tb_13 tbS_779 d_Gw_into_44 d_Gw_into_47 d_Gw_into_48 d_Gw_into_50 d_Gw_into_53 hem rfl (Nat.le_of_ble_eq_true rfl) (Nat.le_of_ble_eq_true rfl) (Nat.le_of_ble_eq_true rfl) (Nat.le_of_ble_eq_true rfl)
    · have hF := gw_neg h2 hF
      cases hF
      exact gw_throw (k := 2) CT rfl rfl (by decide) (by decide +kernel) gw_own_ISE tb_283 tb_284 tb_12 tbS_778 d_Gw_into_25 d_Gw_into_28 d_Gw_into_29 d_Gw_into_31 d_Gw_into_34 hem rfl (Nat.le_of_ble_eq_true rfl) (Nat.le_of_ble_eq_true rfl) (Nat.le_of_ble_eq_true rfl) (Nat.le_of_ble_eq_true rfl)
set_option maxRecDepth 100000 in
set_option maxHeartbeats 4000000 in
theorem c_Gw_told (l : Launch) (hfl : l.flags = pinnedFlags ++ [noTraceFlag]) (D : va_G) (cI cL cZ : ClassId) (ad : Nat → Nat) {σ : St} {x1 : Int32} {k : Nat} {r : Int32} {σ' : St} (hF : F_Gw_told σ x1 = some ((k, r), σ')) : gw_MT l y_Gw_told w_Gw_told rm_Gw_told D gw_cl (gw_ty cI cL cZ) [.ref (ad 0), .int x1] (wC ad cI cL cZ σ) (wC ad cI cL cZ σ') k (some (.int r)) := by
  refine gw_startT (cc := b_Gw_told) (nL := 2) (ret := (some .int)) hfl (by decide) rfl (Nat.le_of_ble_eq_true rfl) (fun p e s m below meth c A CT hr hem => ?_)
  have C := CT.1
  refine gw_eq (lv' := [(0, .ref (ad 0)), (1, .int x1)]) rfl rfl ?_
  unfold F_Gw_told at hF
  refine gw_iload_n C d_Gw_told_0 rfl 1 rfl ?_
  refine gw_if_lt (tgt := 10) C d_Gw_told_1 (by decide) (fun h1 => ?_) (fun h1 => ?_)
  · have hF := gw_pos h1 hF
    cases hF
    exact gw_throw (k := 3) CT rfl rfl (by decide) (by decide +kernel) gw_own_IAE tb_367 tb_368 tb_13 tbS_791 d_Gw_told_10 d_Gw_told_13 d_Gw_told_14 d_Gw_told_16 d_Gw_told_19 hem rfl (Nat.le_of_ble_eq_true rfl) (Nat.le_of_ble_eq_true rfl) (Nat.le_of_ble_eq_true rfl) (Nat.le_of_ble_eq_true rfl)
  · have hF := gw_neg h1 hF
    refine gw_iload_n C d_Gw_told_4 rfl 1 rfl ?_
    refine gw_bipush (v := 7) C d_Gw_told_5 (by decide) ?_
    refine gw_icmp_le (tgt := 20) C d_Gw_told_7 (by decide) (fun h2 => ?_) (fun h2 => ?_)
    · have hF := gw_pos h2 hF
      refine gw_aload_n C d_Gw_told_20 rfl 0 rfl ?_
      refine fg_Gw_10 C d_Gw_told_21 ?_
      refine fg_Gw_76 (v := σ.1 0) C rfl d_Gw_told_24 ?_
      refine gw_if_ne (tgt := 34) C d_Gw_told_27 (by decide) (fun h3 => ?_) (fun h3 => ?_)
      · have hF := gw_neg h3 hF
        refine gw_aload_n C d_Gw_told_34 rfl 0 rfl ?_
        refine fg_Gw_10 C d_Gw_told_35 ?_
        refine gw_iload_n C d_Gw_told_38 rfl 1 rfl ?_
        obtain ⟨r5, σ6, h4, hF⟩ := gw_bnd hF
        refine fc_Gw_111 (As := [.int x1]) (st := []) (σ' := σ6) C (c_Wa_tally l D cI cL cZ ad h4) ⟨Nat.le_of_ble_eq_true rfl, Nat.le_of_ble_eq_true rfl⟩ ⟨Nat.le_of_ble_eq_true rfl, Nat.le_of_ble_eq_true rfl⟩ rfl (Nat.le_of_ble_eq_true rfl) d_Gw_told_39 ?_
        cases hF
        exact gw_iretT CT hr rfl d_Gw_told_42
      · have hF := gw_pos h3 hF
        refine gw_iconst (v := (-1)) C d_Gw_told_30 (by decide) ?_
        refine gw_goto (tgt := 42) C d_Gw_told_31 (by decide) ?_
        cases hF
        exact gw_iretT CT hr rfl d_Gw_told_42
    · have hF := gw_neg h2 hF
      cases hF
      exact gw_throw (k := 3) CT rfl rfl (by decide) (by decide +kernel) gw_own_IAE tb_367 tb_368 tb_13 tbS_791 d_Gw_told_10 d_Gw_told_13 d_Gw_told_14 d_Gw_told_16 d_Gw_told_19 hem rfl (Nat.le_of_ble_eq_true rfl) (Nat.le_of_ble_eq_true rfl) (Nat.le_of_ble_eq_true rfl) (Nat.le_of_ble_eq_true rfl)
set_option maxRecDepth 100000 in
set_option maxHeartbeats 4000000 in
theorem c_Gw_refuseMissingThing (l : Launch) (hfl : l.flags = pinnedFlags ++ [noTraceFlag]) (D : va_G) (cI cL cZ : ClassId) (ad : Nat → Nat) {σ : St} {x1 : Int32} {k : Nat} {r : Int32} {σ' : St} (hF : F_Gw_refuseMissingThing σ x1 = some ((k, r), σ')) : gw_MT l y_Gw_refuseMissingThing w_Gw_refuseMissingThing rm_Gw_refuseMissingThing D gw_cl (gw_ty cI cL cZ) [.ref (ad 0), .int x1] (wC ad cI cL cZ σ) (wC ad cI cL cZ σ') k none := by
  refine gw_startT (cc := b_Gw_refuseMissingThing) (nL := 2) (ret := none) hfl (by decide) rfl (Nat.le_of_ble_eq_true rfl) (fun p e s m below meth c A CT hr hem => ?_)
  have C := CT.1
  refine gw_eq (lv' := [(0, .ref (ad 0)), (1, .int x1)]) rfl rfl ?_
  unfold F_Gw_refuseMissingThing at hF
  refine gw_aload_n C d_Gw_refuseMissingThing_0 rfl 0 rfl ?_
  refine fg_Gw_10 C d_Gw_refuseMissingThing_1 ?_
  refine fg_Gw_117 C d_Gw_refuseMissingThing_4 ?_
  refine gw_iload_n C d_Gw_refuseMissingThing_7 rfl 1 rfl ?_
  obtain ⟨r2, σ3, h1, hF⟩ := gw_bnd hF
  refine fc_Gw_180 (As := [.int x1]) (st := []) (σ' := σ3) C (c_Th_has l D cI cL cZ ad h1) ⟨Nat.le_of_ble_eq_true rfl, Nat.le_of_ble_eq_true rfl⟩ ⟨Nat.le_of_ble_eq_true rfl, Nat.le_of_ble_eq_true rfl⟩ rfl (Nat.le_of_ble_eq_true rfl) d_Gw_refuseMissingThing_8 ?_
  refine gw_if_ne (tgt := 24) C d_Gw_refuseMissingThing_11 (by decide) (fun h4 => ?_) (fun h4 => ?_)
  · have hF := gw_neg h4 hF
    cases hF
    exact gw_vretT CT hr rfl d_Gw_refuseMissingThing_24
  · have hF := gw_pos h4 hF
    cases hF
    exact gw_throw (k := 1) CT rfl rfl (by decide) (by decide +kernel) gw_own_IOB tb_403 tb_404 tb_14 tbS_808 d_Gw_refuseMissingThing_14 d_Gw_refuseMissingThing_17 d_Gw_refuseMissingThing_18 d_Gw_refuseMissingThing_20 d_Gw_refuseMissingThing_23 hem rfl (Nat.le_of_ble_eq_true rfl) (Nat.le_of_ble_eq_true rfl) (Nat.le_of_ble_eq_true rfl) (Nat.le_of_ble_eq_true rfl)
set_option maxRecDepth 100000 in
set_option maxHeartbeats 4000000 in
theorem c_Gw_thing (l : Launch) (hfl : l.flags = pinnedFlags ++ [noTraceFlag]) (D : va_G) (cI cL cZ : ClassId) (ad : Nat → Nat) {σ : St} {x1 : Int32} {k : Nat} {r : Int32} {σ' : St} (hF : F_Gw_thing σ x1 = some ((k, r), σ')) : gw_MT l y_Gw_thing w_Gw_thing rm_Gw_thing D gw_cl (gw_ty cI cL cZ) [.ref (ad 0), .int x1] (wC ad cI cL cZ σ) (wC ad cI cL cZ σ') k (some (.int r)) := by
  refine gw_startT (cc := b_Gw_thing) (nL := 2) (ret := (some .int)) hfl (by decide) rfl (Nat.le_of_ble_eq_true rfl) (fun p e s m below meth c A CT hr hem => ?_)
  have C := CT.1
  refine gw_eq (lv' := [(0, .ref (ad 0)), (1, .int x1)]) rfl rfl ?_
  unfold F_Gw_thing at hF
  refine gw_aload_n C d_Gw_thing_0 rfl 0 rfl ?_
  refine gw_iload_n C d_Gw_thing_1 rfl 1 rfl ?_
  obtain ⟨k2, r3, σ4, h1, hF⟩ := gw_bndT hF
  refine fcT_Gw_114 (As := [.int x1]) (st := []) (σ' := σ4) CT (c_Gw_refuseMissingThing l CT.2.2.2 D cI cL cZ ad h1) ⟨Nat.le_of_ble_eq_true rfl, Nat.le_of_ble_eq_true rfl⟩ ⟨Nat.le_of_ble_eq_true rfl, Nat.le_of_ble_eq_true rfl⟩ rfl (Nat.le_of_ble_eq_true rfl) d_Gw_thing_2 hem (fun h5 => ?_) (fun h5 => ?_)
  · have hF := gw_pos h5 hF
    refine gw_aload_n C d_Gw_thing_5 rfl 0 rfl ?_
    refine fg_Gw_10 C d_Gw_thing_6 ?_
    refine fg_Gw_117 C d_Gw_thing_9 ?_
    refine gw_iload_n C d_Gw_thing_12 rfl 1 rfl ?_
    obtain ⟨r7, σ8, h6, hF⟩ := gw_bnd hF
    refine fc_Gw_121 (As := [.int x1]) (st := []) (σ' := σ8) C (c_Th_stateOf l D cI cL cZ ad h6) ⟨Nat.le_of_ble_eq_true rfl, Nat.le_of_ble_eq_true rfl⟩ ⟨Nat.le_of_ble_eq_true rfl, Nat.le_of_ble_eq_true rfl⟩ rfl (Nat.le_of_ble_eq_true rfl) d_Gw_thing_13 ?_
    cases hF
    exact gw_iretT CT hr rfl d_Gw_thing_16
  · have hF := gw_neg h5 hF
    cases hF
    exact ⟨rfl, rfl⟩
set_option maxRecDepth 100000 in
set_option maxHeartbeats 4000000 in
theorem c_Gw_worked (l : Launch) (hfl : l.flags = pinnedFlags ++ [noTraceFlag]) (D : va_G) (cI cL cZ : ClassId) (ad : Nat → Nat) {σ : St} {x1 : Int32} {x2 : Int32} {k : Nat} {r : Int32} {σ' : St} (hF : F_Gw_worked σ x1 x2 = some ((k, r), σ')) : gw_MT l y_Gw_worked w_Gw_worked rm_Gw_worked D gw_cl (gw_ty cI cL cZ) [.ref (ad 0), .int x1, .int x2] (wC ad cI cL cZ σ) (wC ad cI cL cZ σ') k (some (.int r)) := by
  refine gw_startT (cc := b_Gw_worked) (nL := 3) (ret := (some .int)) hfl (by decide) rfl (Nat.le_of_ble_eq_true rfl) (fun p e s m below meth c A CT hr hem => ?_)
  have C := CT.1
  refine gw_eq (lv' := [(0, .ref (ad 0)), (1, .int x1), (2, .int x2)]) rfl rfl ?_
  unfold F_Gw_worked at hF
  refine gw_aload_n C d_Gw_worked_0 rfl 0 rfl ?_
  refine gw_iload_n C d_Gw_worked_1 rfl 1 rfl ?_
  obtain ⟨k2, r3, σ4, h1, hF⟩ := gw_bndT hF
  refine fcT_Gw_114 (As := [.int x1]) (st := []) (σ' := σ4) CT (c_Gw_refuseMissingThing l CT.2.2.2 D cI cL cZ ad h1) ⟨Nat.le_of_ble_eq_true rfl, Nat.le_of_ble_eq_true rfl⟩ ⟨Nat.le_of_ble_eq_true rfl, Nat.le_of_ble_eq_true rfl⟩ rfl (Nat.le_of_ble_eq_true rfl) d_Gw_worked_2 hem (fun h5 => ?_) (fun h5 => ?_)
  · have hF := gw_pos h5 hF
    refine gw_iload_n C d_Gw_worked_5 rfl 2 rfl ?_
    refine gw_if_lt (tgt := 14) C d_Gw_worked_6 (by decide) (fun h6 => ?_) (fun h6 => ?_)
    · have hF := gw_pos h6 hF
      cases hF
      exact gw_throw (k := 3) CT rfl rfl (by decide) (by decide +kernel) gw_own_IAE tb_367 tb_368 tb_13 tbS_817 d_Gw_worked_14 d_Gw_worked_17 d_Gw_worked_18 d_Gw_worked_20 d_Gw_worked_23 hem rfl (Nat.le_of_ble_eq_true rfl) (Nat.le_of_ble_eq_true rfl) (Nat.le_of_ble_eq_true rfl) (Nat.le_of_ble_eq_true rfl)
    · have hF := gw_neg h6 hF
      refine gw_iload_n C d_Gw_worked_9 rfl 2 rfl ?_
      refine gw_iconst (v := 2) C d_Gw_worked_10 (by decide) ?_
      refine gw_icmp_le (tgt := 24) C d_Gw_worked_11 (by decide) (fun h7 => ?_) (fun h7 => ?_)
      · have hF := gw_pos h7 hF
        refine gw_iload_n C d_Gw_worked_24 rfl 2 rfl ?_
        refine gw_if_ne (tgt := 40) C d_Gw_worked_25 (by decide) (fun h8 => ?_) (fun h8 => ?_)
        · have hF := gw_neg h8 hF
          refine gw_iload_n C d_Gw_worked_40 rfl 2 rfl ?_
          refine gw_iconst (v := 1) C d_Gw_worked_41 (by decide) ?_
          refine gw_icmp_ne (tgt := 59) C d_Gw_worked_42 (by decide) (fun h9 => ?_) (fun h9 => ?_)
          · have hF := gw_neg h9 hF
            refine gw_aload_n C d_Gw_worked_59 rfl 0 rfl ?_
            refine fg_Gw_10 C d_Gw_worked_60 ?_
            refine fg_Gw_117 C d_Gw_worked_63 ?_
            refine gw_iload_n C d_Gw_worked_66 rfl 1 rfl ?_
            obtain ⟨r11, σ12, h10, hF⟩ := gw_bnd hF
            refine fc_Gw_134 (As := [.int x1]) (st := []) (σ' := σ12) C (c_Th_termOf l D cI cL cZ ad h10) ⟨Nat.le_of_ble_eq_true rfl, Nat.le_of_ble_eq_true rfl⟩ ⟨Nat.le_of_ble_eq_true rfl, Nat.le_of_ble_eq_true rfl⟩ rfl (Nat.le_of_ble_eq_true rfl) d_Gw_worked_67 ?_
            cases hF
            exact gw_iretT CT hr rfl d_Gw_worked_70
          · have hF := gw_pos h9 hF
            refine gw_aload_n C d_Gw_worked_45 rfl 0 rfl ?_
            refine fg_Gw_10 C d_Gw_worked_46 ?_
            refine fg_Gw_117 C d_Gw_worked_49 ?_
            refine gw_iload_n C d_Gw_worked_52 rfl 1 rfl ?_
            obtain ⟨r14, σ15, h13, hF⟩ := gw_bnd hF
            refine fc_Gw_131 (As := [.int x1]) (st := []) (σ' := σ15) C (c_Th_neederOf l D cI cL cZ ad h13) ⟨Nat.le_of_ble_eq_true rfl, Nat.le_of_ble_eq_true rfl⟩ ⟨Nat.le_of_ble_eq_true rfl, Nat.le_of_ble_eq_true rfl⟩ rfl (Nat.le_of_ble_eq_true rfl) d_Gw_worked_53 ?_
            refine gw_goto (tgt := 70) C d_Gw_worked_56 (by decide) ?_
            cases hF
            exact gw_iretT CT hr rfl d_Gw_worked_70
        · have hF := gw_pos h8 hF
          refine gw_aload_n C d_Gw_worked_28 rfl 0 rfl ?_
          refine fg_Gw_10 C d_Gw_worked_29 ?_
          refine fg_Gw_117 C d_Gw_worked_32 ?_
          refine gw_iload_n C d_Gw_worked_35 rfl 1 rfl ?_
          obtain ⟨r17, σ18, h16, hF⟩ := gw_bnd hF
          refine fc_Gw_128 (As := [.int x1]) (st := []) (σ' := σ18) C (c_Th_timesOf l D cI cL cZ ad h16) ⟨Nat.le_of_ble_eq_true rfl, Nat.le_of_ble_eq_true rfl⟩ ⟨Nat.le_of_ble_eq_true rfl, Nat.le_of_ble_eq_true rfl⟩ rfl (Nat.le_of_ble_eq_true rfl) d_Gw_worked_36 ?_
          cases hF
          exact gw_iretT CT hr rfl d_Gw_worked_39
      · have hF := gw_neg h7 hF
        cases hF
        exact gw_throw (k := 3) CT rfl rfl (by decide) (by decide +kernel) gw_own_IAE tb_367 tb_368 tb_13 tbS_817 d_Gw_worked_14 d_Gw_worked_17 d_Gw_worked_18 d_Gw_worked_20 d_Gw_worked_23 hem rfl (Nat.le_of_ble_eq_true rfl) (Nat.le_of_ble_eq_true rfl) (Nat.le_of_ble_eq_true rfl) (Nat.le_of_ble_eq_true rfl)
  · have hF := gw_neg h5 hF
    cases hF
    exact ⟨rfl, rfl⟩
set_option maxRecDepth 100000 in
set_option maxHeartbeats 4000000 in
theorem c_Gw_ring (l : Launch) (hfl : l.flags = pinnedFlags ++ [noTraceFlag]) (D : va_G) (cI cL cZ : ClassId) (ad : Nat → Nat) {σ : St} {x1 : Int32} {k : Nat} {r : Int32} {σ' : St} (hF : F_Gw_ring σ x1 = some ((k, r), σ')) : gw_MT l y_Gw_ring w_Gw_ring rm_Gw_ring D gw_cl (gw_ty cI cL cZ) [.ref (ad 0), .int x1] (wC ad cI cL cZ σ) (wC ad cI cL cZ σ') k (some (.int r)) := by
  refine gw_startT (cc := b_Gw_ring) (nL := 3) (ret := (some .int)) hfl (by decide) rfl (Nat.le_of_ble_eq_true rfl) (fun p e s m below meth c A CT hr hem => ?_)
  have C := CT.1
  refine gw_eq (lv' := [(0, .ref (ad 0)), (1, .int x1)]) rfl rfl ?_
  unfold F_Gw_ring at hF
  refine gw_aload_n C d_Gw_ring_0 rfl 0 rfl ?_
  refine fg_Gw_10 C d_Gw_ring_1 ?_
  refine gw_iload_n C d_Gw_ring_4 rfl 1 rfl ?_
  obtain ⟨r2, σ3, h1, hF⟩ := gw_bnd hF
  refine fc_Gw_137 (As := [.int x1]) (st := []) (σ' := σ3) C (c_Wa_ringThing l D cI cL cZ ad h1) ⟨Nat.le_of_ble_eq_true rfl, Nat.le_of_ble_eq_true rfl⟩ ⟨Nat.le_of_ble_eq_true rfl, Nat.le_of_ble_eq_true rfl⟩ rfl (Nat.le_of_ble_eq_true rfl) d_Gw_ring_5 ?_
  refine gw_istore_n (lv' := [(2, .int r2), (0, .ref (ad 0)), (1, .int x1)]) C d_Gw_ring_8 rfl (by decide) rfl ?_
  refine gw_iload_n C d_Gw_ring_9 rfl 0 rfl ?_
  refine gw_iconst (v := (-1)) C d_Gw_ring_10 (by decide) ?_
  refine gw_icmp_ne (tgt := 24) C d_Gw_ring_11 (by decide) (fun h4 => ?_) (fun h4 => ?_)
  · have hF := gw_neg h4 hF
    refine gw_iload_n C d_Gw_ring_24 rfl 0 rfl ?_
    cases hF
    exact gw_iretT CT hr rfl d_Gw_ring_25
  · have hF := gw_pos h4 hF
    cases hF
    exact gw_throw (k := 1) CT rfl rfl (by decide) (by decide +kernel) gw_own_IOB tb_403 tb_404 tb_14 tbS_838 d_Gw_ring_14 d_Gw_ring_17 d_Gw_ring_18 d_Gw_ring_20 d_Gw_ring_23 hem rfl (Nat.le_of_ble_eq_true rfl) (Nat.le_of_ble_eq_true rfl) (Nat.le_of_ble_eq_true rfl) (Nat.le_of_ble_eq_true rfl)
set_option maxRecDepth 100000 in
set_option maxHeartbeats 4000000 in
theorem c_Gw_entry (l : Launch) (hfl : l.flags = pinnedFlags ++ [noTraceFlag]) (D : va_G) (cI cL cZ : ClassId) (ad : Nat → Nat) {σ : St} {x1 : Int32} {k : Nat} {r : Int32} {σ' : St} (hF : F_Gw_entry σ x1 = some ((k, r), σ')) : gw_MT l y_Gw_entry w_Gw_entry rm_Gw_entry D gw_cl (gw_ty cI cL cZ) [.ref (ad 0), .int x1] (wC ad cI cL cZ σ) (wC ad cI cL cZ σ') k (some (.int r)) := by
  refine gw_startT (cc := b_Gw_entry) (nL := 2) (ret := (some .int)) hfl (by decide) rfl (Nat.le_of_ble_eq_true rfl) (fun p e s m below meth c A CT hr hem => ?_)
  have C := CT.1
  refine gw_eq (lv' := [(0, .ref (ad 0)), (1, .int x1)]) rfl rfl ?_
  unfold F_Gw_entry at hF
  refine gw_aload_n C d_Gw_entry_0 rfl 0 rfl ?_
  refine fg_Gw_10 C d_Gw_entry_1 ?_
  refine fg_Gw_145 C d_Gw_entry_4 ?_
  refine gw_iload_n C d_Gw_entry_7 rfl 1 rfl ?_
  obtain ⟨r2, σ3, h1, hF⟩ := gw_bnd hF
  refine fc_Gw_149 (As := [.int x1]) (st := []) (σ' := σ3) C (c_Ro_has l D cI cL cZ ad h1) ⟨Nat.le_of_ble_eq_true rfl, Nat.le_of_ble_eq_true rfl⟩ ⟨Nat.le_of_ble_eq_true rfl, Nat.le_of_ble_eq_true rfl⟩ rfl (Nat.le_of_ble_eq_true rfl) d_Gw_entry_8 ?_
  refine gw_if_ne (tgt := 24) C d_Gw_entry_11 (by decide) (fun h4 => ?_) (fun h4 => ?_)
  · have hF := gw_neg h4 hF
    refine gw_aload_n C d_Gw_entry_24 rfl 0 rfl ?_
    refine fg_Gw_10 C d_Gw_entry_25 ?_
    refine fg_Gw_145 C d_Gw_entry_28 ?_
    refine gw_iload_n C d_Gw_entry_31 rfl 1 rfl ?_
    obtain ⟨r6, σ7, h5, hF⟩ := gw_bnd hF
    refine fc_Gw_157 (As := [.int x1]) (st := []) (σ' := σ7) C (c_Ro_kindOf l D cI cL cZ ad h5) ⟨Nat.le_of_ble_eq_true rfl, Nat.le_of_ble_eq_true rfl⟩ ⟨Nat.le_of_ble_eq_true rfl, Nat.le_of_ble_eq_true rfl⟩ rfl (Nat.le_of_ble_eq_true rfl) d_Gw_entry_32 ?_
    cases hF
    exact gw_iretT CT hr rfl d_Gw_entry_35
  · have hF := gw_pos h4 hF
    cases hF
    exact gw_throw (k := 1) CT rfl rfl (by decide) (by decide +kernel) gw_own_IOB tb_403 tb_404 tb_14 tbS_847 d_Gw_entry_14 d_Gw_entry_17 d_Gw_entry_18 d_Gw_entry_20 d_Gw_entry_23 hem rfl (Nat.le_of_ble_eq_true rfl) (Nat.le_of_ble_eq_true rfl) (Nat.le_of_ble_eq_true rfl) (Nat.le_of_ble_eq_true rfl)
