set_option maxRecDepth 100000 in
set_option maxHeartbeats 4000000 in
theorem h_La_number_0 (l : Launch) (hfl : l.flags = pinnedFlags ++ [noTraceFlag]) (D : va_G) (cI cL cZ : ClassId) (ad : Nat → Nat) (qo : Nat) (f : Nat → Int64) {σ σ' : St} {x1 : Int64} {r : Int32} (hF : F_Gw_number σ x1 = some ((0, r), σ')) : gw_MH l y_La_number w_La_number rm_La_number D gw_cl (gw_ty cI cL cZ) [.ref (ad 0), .long x1, .ref qo] (wH ad cI cL cZ qo f σ) (wH ad cI cL cZ qo (vp_updL f (0 : Int32).toNatClampNeg r.toInt64) σ') 0 (some (.int 0)) := by
  refine gw_startH (cc := b_La_number) (nL := 5) (ret := some .int) (hh := [(0, 9, 12, 13)]) hfl (by decide) rfl (Nat.le_of_ble_eq_true rfl) (fun p e s m below meth c A CT hN hr htab => ?_)
  have C := CT.1
  refine gw_eq (lv' := [(0, .ref (ad 0)), (1, .long x1), (3, .ref qo)]) rfl rfl ?_
  refine gw_aload_n C d_La_number_0 rfl 2 rfl ?_
  refine gw_iconst (v := 0) C d_La_number_1 (by decide) ?_
  refine gw_aload_n C d_La_number_2 rfl 0 rfl ?_
  refine gw_lload_n C d_La_number_3 rfl 1 rfl ?_
  refine gw_callVC (T := T_Gw) (N := 1) (n := 1) (q0 := 0) (As := [.long x1]) (st := [.int 0, .ref qo]) (hs := [((0, 9, 12, 13), gw_ISE)]) CT (c_Gw_number l hfl D cI cL cZ ad hF) tb_274 tb_271 tb_272 tb_273 tbI_Gw (by decide +kernel) ⟨Nat.le_of_ble_eq_true rfl, Nat.le_of_ble_eq_true rfl⟩ ⟨Nat.le_of_ble_eq_true rfl, Nat.le_of_ble_eq_true rfl⟩ [1, 2, 3, 4, 5, 6, 7, 8, 9, 10, 11, 12, 13, 14, 15, 16, 17, 18, 19, 20, 21, 22, 23, 24, 25, 26, 27, 28, 29, 30, 31, 32] [0] (wH_C ad cI cL cZ qo f σ) (wH_Cf ad cI cL cZ qo f σ) (by decide) (wH_R ad cI cL cZ qo f σ) (by decide) (by decide) rfl rfl rfl (Nat.le_of_ble_eq_true rfl) d_La_number_4 htab (fun hk => ?_) (fun hk => ?_)
  · refine gw_eq (ws' := (wH ad cI cL cZ qo f σ')) rfl rfl ?_
    refine gw_i2l C d_La_number_7 ?_
    refine gw_last (ws' := (wH ad cI cL cZ qo (vp_updL f (0 : Int32).toNatClampNeg r.toInt64) σ')) C 0 1 rfl rfl (vp_in_nI (n := 0) (N := 1) (by decide) (by decide)) d_La_number_8 rfl ?_
    refine gw_goto (tgt := 16) C d_La_number_9 (by decide) ?_
    refine gw_iconst (v := 0) C d_La_number_16 (by decide) ?_
    exact gw_iretT CT hr rfl d_La_number_17
  · exact absurd rfl hk
set_option maxRecDepth 100000 in
set_option maxHeartbeats 4000000 in
theorem h_La_number_2 (l : Launch) (hfl : l.flags = pinnedFlags ++ [noTraceFlag]) (D : va_G) (cI cL cZ : ClassId) (ad : Nat → Nat) (qo : Nat) (f : Nat → Int64) {σ σ' : St} {x1 : Int64} {r : Int32} (hF : F_Gw_number σ x1 = some ((2, r), σ')) : gw_MH l y_La_number w_La_number rm_La_number D gw_cl (gw_ty cI cL cZ) [.ref (ad 0), .long x1, .ref qo] (wH ad cI cL cZ qo f σ) (wH ad cI cL cZ qo f σ') 2 (some (.int 1)) := by
  refine gw_startH (cc := b_La_number) (nL := 5) (ret := some .int) (hh := [(0, 9, 12, 13)]) hfl (by decide) rfl (Nat.le_of_ble_eq_true rfl) (fun p e s m below meth c A CT hN hr htab => ?_)
  have C := CT.1
  refine gw_eq (lv' := [(0, .ref (ad 0)), (1, .long x1), (3, .ref qo)]) rfl rfl ?_
  refine gw_aload_n C d_La_number_0 rfl 2 rfl ?_
  refine gw_iconst (v := 0) C d_La_number_1 (by decide) ?_
  refine gw_aload_n C d_La_number_2 rfl 0 rfl ?_
  refine gw_lload_n C d_La_number_3 rfl 1 rfl ?_
  refine gw_callVC (T := T_Gw) (N := 1) (n := 1) (q0 := 0) (As := [.long x1]) (st := [.int 0, .ref qo]) (hs := [((0, 9, 12, 13), gw_ISE)]) CT (c_Gw_number l hfl D cI cL cZ ad hF) tb_274 tb_271 tb_272 tb_273 tbI_Gw (by decide +kernel) ⟨Nat.le_of_ble_eq_true rfl, Nat.le_of_ble_eq_true rfl⟩ ⟨Nat.le_of_ble_eq_true rfl, Nat.le_of_ble_eq_true rfl⟩ [1, 2, 3, 4, 5, 6, 7, 8, 9, 10, 11, 12, 13, 14, 15, 16, 17, 18, 19, 20, 21, 22, 23, 24, 25, 26, 27, 28, 29, 30, 31, 32] [0] (wH_C ad cI cL cZ qo f σ) (wH_Cf ad cI cL cZ qo f σ) (by decide) (wH_R ad cI cL cZ qo f σ) (by decide) (by decide) rfl rfl rfl (Nat.le_of_ble_eq_true rfl) d_La_number_4 htab (fun hk => ?_) (fun hk => ?_)
  · exact absurd hk (by decide)
  · refine ⟨?_, 12, by decide +kernel, fun x => ?_⟩
    · intro q hq
      simp only [List.mem_cons, List.not_mem_nil, or_false] at hq
      subst hq
      exact ⟨by decide, by decide, tb_270, fun h => absurd rfl h⟩
    · refine gw_eq (ws' := (wH ad cI cL cZ qo f σ')) rfl rfl ?_
      refine gw_astore (lv' := [(4, .ref x), (0, .ref (ad 0)), (1, .long x1), (3, .ref qo)]) C d_La_number_12 (by decide) rfl ?_
      refine gw_iconst (v := 1) C d_La_number_14 (by decide) ?_
      exact gw_iretT CT hr rfl d_La_number_15
set_option maxRecDepth 100000 in
set_option maxHeartbeats 4000000 in
theorem h_La_variable_0 (l : Launch) (hfl : l.flags = pinnedFlags ++ [noTraceFlag]) (D : va_G) (cI cL cZ : ClassId) (ad : Nat → Nat) (qo : Nat) (f : Nat → Int64) {σ σ' : St} {x1 : Int32} {r : Int32} (hF : F_Gw_variable σ x1 = some ((0, r), σ')) : gw_MH l y_La_variable w_La_variable rm_La_variable D gw_cl (gw_ty cI cL cZ) [.ref (ad 0), .int x1, .ref qo] (wH ad cI cL cZ qo f σ) (wH ad cI cL cZ qo (vp_updL f (0 : Int32).toNatClampNeg r.toInt64) σ') 0 (some (.int 0)) := by
  refine gw_startH (cc := b_La_variable) (nL := 4) (ret := some .int) (hh := [(0, 9, 12, 13), (0, 9, 15, 19)]) hfl (by decide) rfl (Nat.le_of_ble_eq_true rfl) (fun p e s m below meth c A CT hN hr htab => ?_)
  have C := CT.1
  refine gw_eq (lv' := [(0, .ref (ad 0)), (1, .int x1), (2, .ref qo)]) rfl rfl ?_
  refine gw_aload_n C d_La_variable_0 rfl 2 rfl ?_
  refine gw_iconst (v := 0) C d_La_variable_1 (by decide) ?_
  refine gw_aload_n C d_La_variable_2 rfl 0 rfl ?_
  refine gw_iload_n C d_La_variable_3 rfl 1 rfl ?_
  refine gw_callVC (T := T_Gw) (N := 1) (n := 1) (q0 := 0) (As := [.int x1]) (st := [.int 0, .ref qo]) (hs := [((0, 9, 12, 13), gw_ISE), ((0, 9, 15, 19), gw_IAE)]) CT (c_Gw_variable l hfl D cI cL cZ ad hF) tb_366 tb_363 tb_364 tb_365 tbI_Gw (by decide +kernel) ⟨Nat.le_of_ble_eq_true rfl, Nat.le_of_ble_eq_true rfl⟩ ⟨Nat.le_of_ble_eq_true rfl, Nat.le_of_ble_eq_true rfl⟩ [1, 2, 3, 4, 5, 6, 7, 8, 9, 10, 11, 12, 13, 14, 15, 16, 17, 18, 19, 20, 21, 22, 23, 24, 25, 26, 27, 28, 29, 30, 31, 32] [0] (wH_C ad cI cL cZ qo f σ) (wH_Cf ad cI cL cZ qo f σ) (by decide) (wH_R ad cI cL cZ qo f σ) (by decide) (by decide) rfl rfl rfl (Nat.le_of_ble_eq_true rfl) d_La_variable_4 htab (fun hk => ?_) (fun hk => ?_)
  · refine gw_eq (ws' := (wH ad cI cL cZ qo f σ')) rfl rfl ?_
    refine gw_i2l C d_La_variable_7 ?_
    refine gw_last (ws' := (wH ad cI cL cZ qo (vp_updL f (0 : Int32).toNatClampNeg r.toInt64) σ')) C 0 1 rfl rfl (vp_in_nI (n := 0) (N := 1) (by decide) (by decide)) d_La_variable_8 rfl ?_
    refine gw_goto (tgt := 18) C d_La_variable_9 (by decide) ?_
    refine gw_iconst (v := 0) C d_La_variable_18 (by decide) ?_
    exact gw_iretT CT hr rfl d_La_variable_19
  · exact absurd rfl hk
set_option maxRecDepth 100000 in
set_option maxHeartbeats 4000000 in
theorem h_La_variable_2 (l : Launch) (hfl : l.flags = pinnedFlags ++ [noTraceFlag]) (D : va_G) (cI cL cZ : ClassId) (ad : Nat → Nat) (qo : Nat) (f : Nat → Int64) {σ σ' : St} {x1 : Int32} {r : Int32} (hF : F_Gw_variable σ x1 = some ((2, r), σ')) : gw_MH l y_La_variable w_La_variable rm_La_variable D gw_cl (gw_ty cI cL cZ) [.ref (ad 0), .int x1, .ref qo] (wH ad cI cL cZ qo f σ) (wH ad cI cL cZ qo f σ') 2 (some (.int 1)) := by
  refine gw_startH (cc := b_La_variable) (nL := 4) (ret := some .int) (hh := [(0, 9, 12, 13), (0, 9, 15, 19)]) hfl (by decide) rfl (Nat.le_of_ble_eq_true rfl) (fun p e s m below meth c A CT hN hr htab => ?_)
  have C := CT.1
  refine gw_eq (lv' := [(0, .ref (ad 0)), (1, .int x1), (2, .ref qo)]) rfl rfl ?_
  refine gw_aload_n C d_La_variable_0 rfl 2 rfl ?_
  refine gw_iconst (v := 0) C d_La_variable_1 (by decide) ?_
  refine gw_aload_n C d_La_variable_2 rfl 0 rfl ?_
  refine gw_iload_n C d_La_variable_3 rfl 1 rfl ?_
  refine gw_callVC (T := T_Gw) (N := 1) (n := 1) (q0 := 0) (As := [.int x1]) (st := [.int 0, .ref qo]) (hs := [((0, 9, 12, 13), gw_ISE), ((0, 9, 15, 19), gw_IAE)]) CT (c_Gw_variable l hfl D cI cL cZ ad hF) tb_366 tb_363 tb_364 tb_365 tbI_Gw (by decide +kernel) ⟨Nat.le_of_ble_eq_true rfl, Nat.le_of_ble_eq_true rfl⟩ ⟨Nat.le_of_ble_eq_true rfl, Nat.le_of_ble_eq_true rfl⟩ [1, 2, 3, 4, 5, 6, 7, 8, 9, 10, 11, 12, 13, 14, 15, 16, 17, 18, 19, 20, 21, 22, 23, 24, 25, 26, 27, 28, 29, 30, 31, 32] [0] (wH_C ad cI cL cZ qo f σ) (wH_Cf ad cI cL cZ qo f σ) (by decide) (wH_R ad cI cL cZ qo f σ) (by decide) (by decide) rfl rfl rfl (Nat.le_of_ble_eq_true rfl) d_La_variable_4 htab (fun hk => ?_) (fun hk => ?_)
  · exact absurd hk (by decide)
  · refine ⟨?_, 12, by decide +kernel, fun x => ?_⟩
    · intro q hq
      simp only [List.mem_cons, List.not_mem_nil, or_false] at hq
      rcases hq with rfl | rfl
      · exact ⟨by decide, by decide, tb_270, fun h => absurd rfl h⟩
      · exact ⟨by decide, by decide, tb_362, fun _ => hN.2.2.2.1⟩
    · refine gw_eq (ws' := (wH ad cI cL cZ qo f σ')) rfl rfl ?_
      refine gw_astore_n (lv' := [(3, .ref x), (0, .ref (ad 0)), (1, .int x1), (2, .ref qo)]) C d_La_variable_12 rfl (by decide) rfl ?_
      refine gw_iconst (v := 1) C d_La_variable_13 (by decide) ?_
      exact gw_iretT CT hr rfl d_La_variable_14
set_option maxRecDepth 100000 in
set_option maxHeartbeats 4000000 in
theorem h_La_variable_3 (l : Launch) (hfl : l.flags = pinnedFlags ++ [noTraceFlag]) (D : va_G) (cI cL cZ : ClassId) (ad : Nat → Nat) (qo : Nat) (f : Nat → Int64) {σ σ' : St} {x1 : Int32} {r : Int32} (hF : F_Gw_variable σ x1 = some ((3, r), σ')) : gw_MH l y_La_variable w_La_variable rm_La_variable D gw_cl (gw_ty cI cL cZ) [.ref (ad 0), .int x1, .ref qo] (wH ad cI cL cZ qo f σ) (wH ad cI cL cZ qo f σ') 3 (some (.int 2)) := by
  refine gw_startH (cc := b_La_variable) (nL := 4) (ret := some .int) (hh := [(0, 9, 12, 13), (0, 9, 15, 19)]) hfl (by decide) rfl (Nat.le_of_ble_eq_true rfl) (fun p e s m below meth c A CT hN hr htab => ?_)
  have C := CT.1
  refine gw_eq (lv' := [(0, .ref (ad 0)), (1, .int x1), (2, .ref qo)]) rfl rfl ?_
  refine gw_aload_n C d_La_variable_0 rfl 2 rfl ?_
  refine gw_iconst (v := 0) C d_La_variable_1 (by decide) ?_
  refine gw_aload_n C d_La_variable_2 rfl 0 rfl ?_
  refine gw_iload_n C d_La_variable_3 rfl 1 rfl ?_
  refine gw_callVC (T := T_Gw) (N := 1) (n := 1) (q0 := 0) (As := [.int x1]) (st := [.int 0, .ref qo]) (hs := [((0, 9, 12, 13), gw_ISE), ((0, 9, 15, 19), gw_IAE)]) CT (c_Gw_variable l hfl D cI cL cZ ad hF) tb_366 tb_363 tb_364 tb_365 tbI_Gw (by decide +kernel) ⟨Nat.le_of_ble_eq_true rfl, Nat.le_of_ble_eq_true rfl⟩ ⟨Nat.le_of_ble_eq_true rfl, Nat.le_of_ble_eq_true rfl⟩ [1, 2, 3, 4, 5, 6, 7, 8, 9, 10, 11, 12, 13, 14, 15, 16, 17, 18, 19, 20, 21, 22, 23, 24, 25, 26, 27, 28, 29, 30, 31, 32] [0] (wH_C ad cI cL cZ qo f σ) (wH_Cf ad cI cL cZ qo f σ) (by decide) (wH_R ad cI cL cZ qo f σ) (by decide) (by decide) rfl rfl rfl (Nat.le_of_ble_eq_true rfl) d_La_variable_4 htab (fun hk => ?_) (fun hk => ?_)
  · exact absurd hk (by decide)
  · refine ⟨?_, 15, by decide +kernel, fun x => ?_⟩
    · intro q hq
      simp only [List.mem_cons, List.not_mem_nil, or_false] at hq
      rcases hq with rfl | rfl
      · exact ⟨by decide, by decide, tb_270, fun _ => hN.2.2.1⟩
      · exact ⟨by decide, by decide, tb_362, fun h => absurd rfl h⟩
    · refine gw_eq (ws' := (wH ad cI cL cZ qo f σ')) rfl rfl ?_
      refine gw_astore_n (lv' := [(3, .ref x), (0, .ref (ad 0)), (1, .int x1), (2, .ref qo)]) C d_La_variable_15 rfl (by decide) rfl ?_
      refine gw_iconst (v := 2) C d_La_variable_16 (by decide) ?_
      exact gw_iretT CT hr rfl d_La_variable_17
set_option maxRecDepth 100000 in
set_option maxHeartbeats 4000000 in
theorem h_La_one_0 (l : Launch) (hfl : l.flags = pinnedFlags ++ [noTraceFlag]) (D : va_G) (cI cL cZ : ClassId) (ad : Nat → Nat) (qo : Nat) (f : Nat → Int64) {σ σ' : St} {x1 : Int32} {x2 : Int32} {r : Int32} (hF : F_Gw_one σ x1 x2 = some ((0, r), σ')) : gw_MH l y_La_one w_La_one rm_La_one D gw_cl (gw_ty cI cL cZ) [.ref (ad 0), .int x1, .int x2, .ref qo] (wH ad cI cL cZ qo f σ) (wH ad cI cL cZ qo (vp_updL f (0 : Int32).toNatClampNeg r.toInt64) σ') 0 (some (.int 0)) := by
  refine gw_startH (cc := b_La_one) (nL := 5) (ret := some .int) (hh := [(0, 10, 13, 25), (0, 10, 17, 13), (0, 10, 21, 19)]) hfl (by decide) rfl (Nat.le_of_ble_eq_true rfl) (fun p e s m below meth c A CT hN hr htab => ?_)
  have C := CT.1
  refine gw_eq (lv' := [(0, .ref (ad 0)), (1, .int x1), (2, .int x2), (3, .ref qo)]) rfl rfl ?_
  refine gw_aload_n C d_La_one_0 rfl 3 rfl ?_
  refine gw_iconst (v := 0) C d_La_one_1 (by decide) ?_
  refine gw_aload_n C d_La_one_2 rfl 0 rfl ?_
  refine gw_iload_n C d_La_one_3 rfl 1 rfl ?_
  refine gw_iload_n C d_La_one_4 rfl 2 rfl ?_
  refine gw_callVC (T := T_Gw) (N := 1) (n := 2) (q0 := 0) (As := [.int x1, .int x2]) (st := [.int 0, .ref qo]) (hs := [((0, 10, 13, 25), gw_IOB), ((0, 10, 17, 13), gw_ISE), ((0, 10, 21, 19), gw_IAE)]) CT (c_Gw_one l hfl D cI cL cZ ad hF) tb_394 tb_391 tb_392 tb_393 tbI_Gw (by decide +kernel) ⟨Nat.le_of_ble_eq_true rfl, Nat.le_of_ble_eq_true rfl⟩ ⟨Nat.le_of_ble_eq_true rfl, Nat.le_of_ble_eq_true rfl⟩ [1, 2, 3, 4, 5, 6, 7, 8, 9, 10, 11, 12, 13, 14, 15, 16, 17, 18, 19, 20, 21, 22, 23, 24, 25, 26, 27, 28, 29, 30, 31, 32] [0] (wH_C ad cI cL cZ qo f σ) (wH_Cf ad cI cL cZ qo f σ) (by decide) (wH_R ad cI cL cZ qo f σ) (by decide) (by decide) rfl rfl rfl (Nat.le_of_ble_eq_true rfl) d_La_one_5 htab (fun hk => ?_) (fun hk => ?_)
  · refine gw_eq (ws' := (wH ad cI cL cZ qo f σ')) rfl rfl ?_
    refine gw_i2l C d_La_one_8 ?_
    refine gw_last (ws' := (wH ad cI cL cZ qo (vp_updL f (0 : Int32).toNatClampNeg r.toInt64) σ')) C 0 1 rfl rfl (vp_in_nI (n := 0) (N := 1) (by decide) (by decide)) d_La_one_9 rfl ?_
    refine gw_goto (tgt := 25) C d_La_one_10 (by decide) ?_
    refine gw_iconst (v := 0) C d_La_one_25 (by decide) ?_
    exact gw_iretT CT hr rfl d_La_one_26
  · exact absurd rfl hk
set_option maxRecDepth 100000 in
set_option maxHeartbeats 4000000 in
theorem h_La_one_1 (l : Launch) (hfl : l.flags = pinnedFlags ++ [noTraceFlag]) (D : va_G) (cI cL cZ : ClassId) (ad : Nat → Nat) (qo : Nat) (f : Nat → Int64) {σ σ' : St} {x1 : Int32} {x2 : Int32} {r : Int32} (hF : F_Gw_one σ x1 x2 = some ((1, r), σ')) : gw_MH l y_La_one w_La_one rm_La_one D gw_cl (gw_ty cI cL cZ) [.ref (ad 0), .int x1, .int x2, .ref qo] (wH ad cI cL cZ qo f σ) (wH ad cI cL cZ qo f σ') 1 (some (.int 1)) := by
  refine gw_startH (cc := b_La_one) (nL := 5) (ret := some .int) (hh := [(0, 10, 13, 25), (0, 10, 17, 13), (0, 10, 21, 19)]) hfl (by decide) rfl (Nat.le_of_ble_eq_true rfl) (fun p e s m below meth c A CT hN hr htab => ?_)
  have C := CT.1
  refine gw_eq (lv' := [(0, .ref (ad 0)), (1, .int x1), (2, .int x2), (3, .ref qo)]) rfl rfl ?_
  refine gw_aload_n C d_La_one_0 rfl 3 rfl ?_
  refine gw_iconst (v := 0) C d_La_one_1 (by decide) ?_
  refine gw_aload_n C d_La_one_2 rfl 0 rfl ?_
  refine gw_iload_n C d_La_one_3 rfl 1 rfl ?_
  refine gw_iload_n C d_La_one_4 rfl 2 rfl ?_
  refine gw_callVC (T := T_Gw) (N := 1) (n := 2) (q0 := 0) (As := [.int x1, .int x2]) (st := [.int 0, .ref qo]) (hs := [((0, 10, 13, 25), gw_IOB), ((0, 10, 17, 13), gw_ISE), ((0, 10, 21, 19), gw_IAE)]) CT (c_Gw_one l hfl D cI cL cZ ad hF) tb_394 tb_391 tb_392 tb_393 tbI_Gw (by decide +kernel) ⟨Nat.le_of_ble_eq_true rfl, Nat.le_of_ble_eq_true rfl⟩ ⟨Nat.le_of_ble_eq_true rfl, Nat.le_of_ble_eq_true rfl⟩ [1, 2, 3, 4, 5, 6, 7, 8, 9, 10, 11, 12, 13, 14, 15, 16, 17, 18, 19, 20, 21, 22, 23, 24, 25, 26, 27, 28, 29, 30, 31, 32] [0] (wH_C ad cI cL cZ qo f σ) (wH_Cf ad cI cL cZ qo f σ) (by decide) (wH_R ad cI cL cZ qo f σ) (by decide) (by decide) rfl rfl rfl (Nat.le_of_ble_eq_true rfl) d_La_one_5 htab (fun hk => ?_) (fun hk => ?_)
  · exact absurd hk (by decide)
  · refine ⟨?_, 13, by decide +kernel, fun x => ?_⟩
    · intro q hq
      simp only [List.mem_cons, List.not_mem_nil, or_false] at hq
      rcases hq with rfl | rfl | rfl
      · exact ⟨by decide, by decide, tb_390, fun h => absurd rfl h⟩
      · exact ⟨by decide, by decide, tb_270, fun _ => hN.2.2.2.2.1⟩
      · exact ⟨by decide, by decide, tb_362, fun _ => hN.2.2.2.2.2⟩
    · refine gw_eq (ws' := (wH ad cI cL cZ qo f σ')) rfl rfl ?_
      refine gw_astore (lv' := [(4, .ref x), (0, .ref (ad 0)), (1, .int x1), (2, .int x2), (3, .ref qo)]) C d_La_one_13 (by decide) rfl ?_
      refine gw_iconst (v := 1) C d_La_one_15 (by decide) ?_
      exact gw_iretT CT hr rfl d_La_one_16
set_option maxRecDepth 100000 in
set_option maxHeartbeats 4000000 in
theorem h_La_one_2 (l : Launch) (hfl : l.flags = pinnedFlags ++ [noTraceFlag]) (D : va_G) (cI cL cZ : ClassId) (ad : Nat → Nat) (qo : Nat) (f : Nat → Int64) {σ σ' : St} {x1 : Int32} {x2 : Int32} {r : Int32} (hF : F_Gw_one σ x1 x2 = some ((2, r), σ')) : gw_MH l y_La_one w_La_one rm_La_one D gw_cl (gw_ty cI cL cZ) [.ref (ad 0), .int x1, .int x2, .ref qo] (wH ad cI cL cZ qo f σ) (wH ad cI cL cZ qo f σ') 2 (some (.int 2)) := by
  refine gw_startH (cc := b_La_one) (nL := 5) (ret := some .int) (hh := [(0, 10, 13, 25), (0, 10, 17, 13), (0, 10, 21, 19)]) hfl (by decide) rfl (Nat.le_of_ble_eq_true rfl) (fun p e s m below meth c A CT hN hr htab => ?_)
  have C := CT.1
  refine gw_eq (lv' := [(0, .ref (ad 0)), (1, .int x1), (2, .int x2), (3, .ref qo)]) rfl rfl ?_
  refine gw_aload_n C d_La_one_0 rfl 3 rfl ?_
  refine gw_iconst (v := 0) C d_La_one_1 (by decide) ?_
  refine gw_aload_n C d_La_one_2 rfl 0 rfl ?_
  refine gw_iload_n C d_La_one_3 rfl 1 rfl ?_
  refine gw_iload_n C d_La_one_4 rfl 2 rfl ?_
  refine gw_callVC (T := T_Gw) (N := 1) (n := 2) (q0 := 0) (As := [.int x1, .int x2]) (st := [.int 0, .ref qo]) (hs := [((0, 10, 13, 25), gw_IOB), ((0, 10, 17, 13), gw_ISE), ((0, 10, 21, 19), gw_IAE)]) CT (c_Gw_one l hfl D cI cL cZ ad hF) tb_394 tb_391 tb_392 tb_393 tbI_Gw (by decide +kernel) ⟨Nat.le_of_ble_eq_true rfl, Nat.le_of_ble_eq_true rfl⟩ ⟨Nat.le_of_ble_eq_true rfl, Nat.le_of_ble_eq_true rfl⟩ [1, 2, 3, 4, 5, 6, 7, 8, 9, 10, 11, 12, 13, 14, 15, 16, 17, 18, 19, 20, 21, 22, 23, 24, 25, 26, 27, 28, 29, 30, 31, 32] [0] (wH_C ad cI cL cZ qo f σ) (wH_Cf ad cI cL cZ qo f σ) (by decide) (wH_R ad cI cL cZ qo f σ) (by decide) (by decide) rfl rfl rfl (Nat.le_of_ble_eq_true rfl) d_La_one_5 htab (fun hk => ?_) (fun hk => ?_)
  · exact absurd hk (by decide)
  · refine ⟨?_, 17, by decide +kernel, fun x => ?_⟩
    · intro q hq
      simp only [List.mem_cons, List.not_mem_nil, or_false] at hq
      rcases hq with rfl | rfl | rfl
      · exact ⟨by decide, by decide, tb_390, fun _ => hN.1⟩
      · exact ⟨by decide, by decide, tb_270, fun h => absurd rfl h⟩
      · exact ⟨by decide, by decide, tb_362, fun _ => hN.2.2.2.1⟩
    · refine gw_eq (ws' := (wH ad cI cL cZ qo f σ')) rfl rfl ?_
      refine gw_astore (lv' := [(4, .ref x), (0, .ref (ad 0)), (1, .int x1), (2, .int x2), (3, .ref qo)]) C d_La_one_17 (by decide) rfl ?_
      refine gw_iconst (v := 2) C d_La_one_19 (by decide) ?_
      exact gw_iretT CT hr rfl d_La_one_20
set_option maxRecDepth 100000 in
set_option maxHeartbeats 4000000 in
theorem h_La_one_3 (l : Launch) (hfl : l.flags = pinnedFlags ++ [noTraceFlag]) (D : va_G) (cI cL cZ : ClassId) (ad : Nat → Nat) (qo : Nat) (f : Nat → Int64) {σ σ' : St} {x1 : Int32} {x2 : Int32} {r : Int32} (hF : F_Gw_one σ x1 x2 = some ((3, r), σ')) : gw_MH l y_La_one w_La_one rm_La_one D gw_cl (gw_ty cI cL cZ) [.ref (ad 0), .int x1, .int x2, .ref qo] (wH ad cI cL cZ qo f σ) (wH ad cI cL cZ qo f σ') 3 (some (.int 3)) := by
  refine gw_startH (cc := b_La_one) (nL := 5) (ret := some .int) (hh := [(0, 10, 13, 25), (0, 10, 17, 13), (0, 10, 21, 19)]) hfl (by decide) rfl (Nat.le_of_ble_eq_true rfl) (fun p e s m below meth c A CT hN hr htab => ?_)
  have C := CT.1
  refine gw_eq (lv' := [(0, .ref (ad 0)), (1, .int x1), (2, .int x2), (3, .ref qo)]) rfl rfl ?_
  refine gw_aload_n C d_La_one_0 rfl 3 rfl ?_
  refine gw_iconst (v := 0) C d_La_one_1 (by decide) ?_
  refine gw_aload_n C d_La_one_2 rfl 0 rfl ?_
  refine gw_iload_n C d_La_one_3 rfl 1 rfl ?_
  refine gw_iload_n C d_La_one_4 rfl 2 rfl ?_
  refine gw_callVC (T := T_Gw) (N := 1) (n := 2) (q0 := 0) (As := [.int x1, .int x2]) (st := [.int 0, .ref qo]) (hs := [((0, 10, 13, 25), gw_IOB), ((0, 10, 17, 13), gw_ISE), ((0, 10, 21, 19), gw_IAE)]) CT (c_Gw_one l hfl D cI cL cZ ad hF) tb_394 tb_391 tb_392 tb_393 tbI_Gw (by decide +kernel) ⟨Nat.le_of_ble_eq_true rfl, Nat.le_of_ble_eq_true rfl⟩ ⟨Nat.le_of_ble_eq_true rfl, Nat.le_of_ble_eq_true rfl⟩ [1, 2, 3, 4, 5, 6, 7, 8, 9, 10, 11, 12, 13, 14, 15, 16, 17, 18, 19, 20, 21, 22, 23, 24, 25, 26, 27, 28, 29, 30, 31, 32] [0] (wH_C ad cI cL cZ qo f σ) (wH_Cf ad cI cL cZ qo f σ) (by decide) (wH_R ad cI cL cZ qo f σ) (by decide) (by decide) rfl rfl rfl (Nat.le_of_ble_eq_true rfl) d_La_one_5 htab (fun hk => ?_) (fun hk => ?_)
  · exact absurd hk (by decide)
  · refine ⟨?_, 21, by decide +kernel, fun x => ?_⟩
    · intro q hq
      simp only [List.mem_cons, List.not_mem_nil, or_false] at hq
      rcases hq with rfl | rfl | rfl
      · exact ⟨by decide, by decide, tb_390, fun _ => hN.2.1⟩
      · exact ⟨by decide, by decide, tb_270, fun _ => hN.2.2.1⟩
      · exact ⟨by decide, by decide, tb_362, fun h => absurd rfl h⟩
    · refine gw_eq (ws' := (wH ad cI cL cZ qo f σ')) rfl rfl ?_
      refine gw_astore (lv' := [(4, .ref x), (0, .ref (ad 0)), (1, .int x1), (2, .int x2), (3, .ref qo)]) C d_La_one_21 (by decide) rfl ?_
      refine gw_iconst (v := 3) C d_La_one_23 (by decide) ?_
      exact gw_iretT CT hr rfl d_La_one_24
set_option maxRecDepth 100000 in
set_option maxHeartbeats 4000000 in
theorem h_La_two_0 (l : Launch) (hfl : l.flags = pinnedFlags ++ [noTraceFlag]) (D : va_G) (cI cL cZ : ClassId) (ad : Nat → Nat) (qo : Nat) (f : Nat → Int64) {σ σ' : St} {x1 : Int32} {x2 : Int32} {x3 : Int32} {r : Int32} (hF : F_Gw_two σ x1 x2 x3 = some ((0, r), σ')) : gw_MH l y_La_two w_La_two rm_La_two D gw_cl (gw_ty cI cL cZ) [.ref (ad 0), .int x1, .int x2, .int x3, .ref qo] (wH ad cI cL cZ qo f σ) (wH ad cI cL cZ qo (vp_updL f (0 : Int32).toNatClampNeg r.toInt64) σ') 0 (some (.int 0)) := by
  refine gw_startH (cc := b_La_two) (nL := 6) (ret := some .int) (hh := [(0, 12, 15, 25), (0, 12, 19, 13), (0, 12, 23, 19)]) hfl (by decide) rfl (Nat.le_of_ble_eq_true rfl) (fun p e s m below meth c A CT hN hr htab => ?_)
  have C := CT.1
  refine gw_eq (lv' := [(0, .ref (ad 0)), (1, .int x1), (2, .int x2), (3, .int x3), (4, .ref qo)]) rfl rfl ?_
  refine gw_aload C d_La_two_0 4 rfl ?_
  refine gw_iconst (v := 0) C d_La_two_2 (by decide) ?_
  refine gw_aload_n C d_La_two_3 rfl 0 rfl ?_
  refine gw_iload_n C d_La_two_4 rfl 1 rfl ?_
  refine gw_iload_n C d_La_two_5 rfl 2 rfl ?_
  refine gw_iload_n C d_La_two_6 rfl 3 rfl ?_
  refine gw_callVC (T := T_Gw) (N := 1) (n := 3) (q0 := 0) (As := [.int x1, .int x2, .int x3]) (st := [.int 0, .ref qo]) (hs := [((0, 12, 15, 25), gw_IOB), ((0, 12, 19, 13), gw_ISE), ((0, 12, 23, 19), gw_IAE)]) CT (c_Gw_two l hfl D cI cL cZ ad hF) tb_441 tb_438 tb_439 tb_440 tbI_Gw (by decide +kernel) ⟨Nat.le_of_ble_eq_true rfl, Nat.le_of_ble_eq_true rfl⟩ ⟨Nat.le_of_ble_eq_true rfl, Nat.le_of_ble_eq_true rfl⟩ [1, 2, 3, 4, 5, 6, 7, 8, 9, 10, 11, 12, 13, 14, 15, 16, 17, 18, 19, 20, 21, 22, 23, 24, 25, 26, 27, 28, 29, 30, 31, 32] [0] (wH_C ad cI cL cZ qo f σ) (wH_Cf ad cI cL cZ qo f σ) (by decide) (wH_R ad cI cL cZ qo f σ) (by decide) (by decide) rfl rfl rfl (Nat.le_of_ble_eq_true rfl) d_La_two_7 htab (fun hk => ?_) (fun hk => ?_)
  · refine gw_eq (ws' := (wH ad cI cL cZ qo f σ')) rfl rfl ?_
    refine gw_i2l C d_La_two_10 ?_
    refine gw_last (ws' := (wH ad cI cL cZ qo (vp_updL f (0 : Int32).toNatClampNeg r.toInt64) σ')) C 0 1 rfl rfl (vp_in_nI (n := 0) (N := 1) (by decide) (by decide)) d_La_two_11 rfl ?_
    refine gw_goto (tgt := 27) C d_La_two_12 (by decide) ?_
    refine gw_iconst (v := 0) C d_La_two_27 (by decide) ?_
    exact gw_iretT CT hr rfl d_La_two_28
  · exact absurd rfl hk
set_option maxRecDepth 100000 in
set_option maxHeartbeats 4000000 in
theorem h_La_two_1 (l : Launch) (hfl : l.flags = pinnedFlags ++ [noTraceFlag]) (D : va_G) (cI cL cZ : ClassId) (ad : Nat → Nat) (qo : Nat) (f : Nat → Int64) {σ σ' : St} {x1 : Int32} {x2 : Int32} {x3 : Int32} {r : Int32} (hF : F_Gw_two σ x1 x2 x3 = some ((1, r), σ')) : gw_MH l y_La_two w_La_two rm_La_two D gw_cl (gw_ty cI cL cZ) [.ref (ad 0), .int x1, .int x2, .int x3, .ref qo] (wH ad cI cL cZ qo f σ) (wH ad cI cL cZ qo f σ') 1 (some (.int 1)) := by
  refine gw_startH (cc := b_La_two) (nL := 6) (ret := some .int) (hh := [(0, 12, 15, 25), (0, 12, 19, 13), (0, 12, 23, 19)]) hfl (by decide) rfl (Nat.le_of_ble_eq_true rfl) (fun p e s m below meth c A CT hN hr htab => ?_)
  have C := CT.1
  refine gw_eq (lv' := [(0, .ref (ad 0)), (1, .int x1), (2, .int x2), (3, .int x3), (4, .ref qo)]) rfl rfl ?_
  refine gw_aload C d_La_two_0 4 rfl ?_
  refine gw_iconst (v := 0) C d_La_two_2 (by decide) ?_
  refine gw_aload_n C d_La_two_3 rfl 0 rfl ?_
  refine gw_iload_n C d_La_two_4 rfl 1 rfl ?_
  refine gw_iload_n C d_La_two_5 rfl 2 rfl ?_
  refine gw_iload_n C d_La_two_6 rfl 3 rfl ?_
  refine gw_callVC (T := T_Gw) (N := 1) (n := 3) (q0 := 0) (As := [.int x1, .int x2, .int x3]) (st := [.int 0, .ref qo]) (hs := [((0, 12, 15, 25), gw_IOB), ((0, 12, 19, 13), gw_ISE), ((0, 12, 23, 19), gw_IAE)]) CT (c_Gw_two l hfl D cI cL cZ ad hF) tb_441 tb_438 tb_439 tb_440 tbI_Gw (by decide +kernel) ⟨Nat.le_of_ble_eq_true rfl, Nat.le_of_ble_eq_true rfl⟩ ⟨Nat.le_of_ble_eq_true rfl, Nat.le_of_ble_eq_true rfl⟩ [1, 2, 3, 4, 5, 6, 7, 8, 9, 10, 11, 12, 13, 14, 15, 16, 17, 18, 19, 20, 21, 22, 23, 24, 25, 26, 27, 28, 29, 30, 31, 32] [0] (wH_C ad cI cL cZ qo f σ) (wH_Cf ad cI cL cZ qo f σ) (by decide) (wH_R ad cI cL cZ qo f σ) (by decide) (by decide) rfl rfl rfl (Nat.le_of_ble_eq_true rfl) d_La_two_7 htab (fun hk => ?_) (fun hk => ?_)
  · exact absurd hk (by decide)
  · refine ⟨?_, 15, by decide +kernel, fun x => ?_⟩
    · intro q hq
      simp only [List.mem_cons, List.not_mem_nil, or_false] at hq
      rcases hq with rfl | rfl | rfl
      · exact ⟨by decide, by decide, tb_390, fun h => absurd rfl h⟩
      · exact ⟨by decide, by decide, tb_270, fun _ => hN.2.2.2.2.1⟩
      · exact ⟨by decide, by decide, tb_362, fun _ => hN.2.2.2.2.2⟩
    · refine gw_eq (ws' := (wH ad cI cL cZ qo f σ')) rfl rfl ?_
      refine gw_astore (lv' := [(5, .ref x), (0, .ref (ad 0)), (1, .int x1), (2, .int x2), (3, .int x3), (4, .ref qo)]) C d_La_two_15 (by decide) rfl ?_
      refine gw_iconst (v := 1) C d_La_two_17 (by decide) ?_
      exact gw_iretT CT hr rfl d_La_two_18
set_option maxRecDepth 100000 in
set_option maxHeartbeats 4000000 in
theorem h_La_two_2 (l : Launch) (hfl : l.flags = pinnedFlags ++ [noTraceFlag]) (D : va_G) (cI cL cZ : ClassId) (ad : Nat → Nat) (qo : Nat) (f : Nat → Int64) {σ σ' : St} {x1 : Int32} {x2 : Int32} {x3 : Int32} {r : Int32} (hF : F_Gw_two σ x1 x2 x3 = some ((2, r), σ')) : gw_MH l y_La_two w_La_two rm_La_two D gw_cl (gw_ty cI cL cZ) [.ref (ad 0), .int x1, .int x2, .int x3, .ref qo] (wH ad cI cL cZ qo f σ) (wH ad cI cL cZ qo f σ') 2 (some (.int 2)) := by
  refine gw_startH (cc := b_La_two) (nL := 6) (ret := some .int) (hh := [(0, 12, 15, 25), (0, 12, 19, 13), (0, 12, 23, 19)]) hfl (by decide) rfl (Nat.le_of_ble_eq_true rfl) (fun p e s m below meth c A CT hN hr htab => ?_)
  have C := CT.1
  refine gw_eq (lv' := [(0, .ref (ad 0)), (1, .int x1), (2, .int x2), (3, .int x3), (4, .ref qo)]) rfl rfl ?_
  refine gw_aload C d_La_two_0 4 rfl ?_
  refine gw_iconst (v := 0) C d_La_two_2 (by decide) ?_
  refine gw_aload_n C d_La_two_3 rfl 0 rfl ?_
  refine gw_iload_n C d_La_two_4 rfl 1 rfl ?_
  refine gw_iload_n C d_La_two_5 rfl 2 rfl ?_
  refine gw_iload_n C d_La_two_6 rfl 3 rfl ?_
  refine gw_callVC (T := T_Gw) (N := 1) (n := 3) (q0 := 0) (As := [.int x1, .int x2, .int x3]) (st := [.int 0, .ref qo]) (hs := [((0, 12, 15, 25), gw_IOB), ((0, 12, 19, 13), gw_ISE), ((0, 12, 23, 19), gw_IAE)]) CT (c_Gw_two l hfl D cI cL cZ ad hF) tb_441 tb_438 tb_439 tb_440 tbI_Gw (by decide +kernel) ⟨Nat.le_of_ble_eq_true rfl, Nat.le_of_ble_eq_true rfl⟩ ⟨Nat.le_of_ble_eq_true rfl, Nat.le_of_ble_eq_true rfl⟩ [1, 2, 3, 4, 5, 6, 7, 8, 9, 10, 11, 12, 13, 14, 15, 16, 17, 18, 19, 20, 21, 22, 23, 24, 25, 26, 27, 28, 29, 30, 31, 32] [0] (wH_C ad cI cL cZ qo f σ) (wH_Cf ad cI cL cZ qo f σ) (by decide) (wH_R ad cI cL cZ qo f σ) (by decide) (by decide) rfl rfl rfl (Nat.le_of_ble_eq_true rfl) d_La_two_7 htab (fun hk => ?_) (fun hk => ?_)
  · exact absurd hk (by decide)
  · refine ⟨?_, 19, by decide +kernel, fun x => ?_⟩
    · intro q hq
      simp only [List.mem_cons, List.not_mem_nil, or_false] at hq
      rcases hq with rfl | rfl | rfl
      · exact ⟨by decide, by decide, tb_390, fun _ => hN.1⟩
      · exact ⟨by decide, by decide, tb_270, fun h => absurd rfl h⟩
      · exact ⟨by decide, by decide, tb_362, fun _ => hN.2.2.2.1⟩
    · refine gw_eq (ws' := (wH ad cI cL cZ qo f σ')) rfl rfl ?_
      refine gw_astore (lv' := [(5, .ref x), (0, .ref (ad 0)), (1, .int x1), (2, .int x2), (3, .int x3), (4, .ref qo)]) C d_La_two_19 (by decide) rfl ?_
      refine gw_iconst (v := 2) C d_La_two_21 (by decide) ?_
      exact gw_iretT CT hr rfl d_La_two_22
set_option maxRecDepth 100000 in
set_option maxHeartbeats 4000000 in
theorem h_La_two_3 (l : Launch) (hfl : l.flags = pinnedFlags ++ [noTraceFlag]) (D : va_G) (cI cL cZ : ClassId) (ad : Nat → Nat) (qo : Nat) (f : Nat → Int64) {σ σ' : St} {x1 : Int32} {x2 : Int32} {x3 : Int32} {r : Int32} (hF : F_Gw_two σ x1 x2 x3 = some ((3, r), σ')) : gw_MH l y_La_two w_La_two rm_La_two D gw_cl (gw_ty cI cL cZ) [.ref (ad 0), .int x1, .int x2, .int x3, .ref qo] (wH ad cI cL cZ qo f σ) (wH ad cI cL cZ qo f σ') 3 (some (.int 3)) := by
  refine gw_startH (cc := b_La_two) (nL := 6) (ret := some .int) (hh := [(0, 12, 15, 25), (0, 12, 19, 13), (0, 12, 23, 19)]) hfl (by decide) rfl (Nat.le_of_ble_eq_true rfl) (fun p e s m below meth c A CT hN hr htab => ?_)
  have C := CT.1
  refine gw_eq (lv' := [(0, .ref (ad 0)), (1, .int x1), (2, .int x2), (3, .int x3), (4, .ref qo)]) rfl rfl ?_
  refine gw_aload C d_La_two_0 4 rfl ?_
  refine gw_iconst (v := 0) C d_La_two_2 (by decide) ?_
  refine gw_aload_n C d_La_two_3 rfl 0 rfl ?_
  refine gw_iload_n C d_La_two_4 rfl 1 rfl ?_
  refine gw_iload_n C d_La_two_5 rfl 2 rfl ?_
  refine gw_iload_n C d_La_two_6 rfl 3 rfl ?_
  refine gw_callVC (T := T_Gw) (N := 1) (n := 3) (q0 := 0) (As := [.int x1, .int x2, .int x3]) (st := [.int 0, .ref qo]) (hs := [((0, 12, 15, 25), gw_IOB), ((0, 12, 19, 13), gw_ISE), ((0, 12, 23, 19), gw_IAE)]) CT (c_Gw_two l hfl D cI cL cZ ad hF) tb_441 tb_438 tb_439 tb_440 tbI_Gw (by decide +kernel) ⟨Nat.le_of_ble_eq_true rfl, Nat.le_of_ble_eq_true rfl⟩ ⟨Nat.le_of_ble_eq_true rfl, Nat.le_of_ble_eq_true rfl⟩ [1, 2, 3, 4, 5, 6, 7, 8, 9, 10, 11, 12, 13, 14, 15, 16, 17, 18, 19, 20, 21, 22, 23, 24, 25, 26, 27, 28, 29, 30, 31, 32] [0] (wH_C ad cI cL cZ qo f σ) (wH_Cf ad cI cL cZ qo f σ) (by decide) (wH_R ad cI cL cZ qo f σ) (by decide) (by decide) rfl rfl rfl (Nat.le_of_ble_eq_true rfl) d_La_two_7 htab (fun hk => ?_) (fun hk => ?_)
  · exact absurd hk (by decide)
  · refine ⟨?_, 23, by decide +kernel, fun x => ?_⟩
    · intro q hq
      simp only [List.mem_cons, List.not_mem_nil, or_false] at hq
      rcases hq with rfl | rfl | rfl
      · exact ⟨by decide, by decide, tb_390, fun _ => hN.2.1⟩
      · exact ⟨by decide, by decide, tb_270, fun _ => hN.2.2.1⟩
      · exact ⟨by decide, by decide, tb_362, fun h => absurd rfl h⟩
    · refine gw_eq (ws' := (wH ad cI cL cZ qo f σ')) rfl rfl ?_
      refine gw_astore (lv' := [(5, .ref x), (0, .ref (ad 0)), (1, .int x1), (2, .int x2), (3, .int x3), (4, .ref qo)]) C d_La_two_23 (by decide) rfl ?_
      refine gw_iconst (v := 3) C d_La_two_25 (by decide) ?_
      exact gw_iretT CT hr rfl d_La_two_26
set_option maxRecDepth 100000 in
set_option maxHeartbeats 4000000 in
theorem h_La_choose_0 (l : Launch) (hfl : l.flags = pinnedFlags ++ [noTraceFlag]) (D : va_G) (cI cL cZ : ClassId) (ad : Nat → Nat) (qo : Nat) (f : Nat → Int64) {σ σ' : St} {x1 : Int32} {x2 : Int32} {x3 : Int32} {r : Int32} (hF : F_Gw_choose σ x1 x2 x3 = some ((0, r), σ')) : gw_MH l y_La_choose w_La_choose rm_La_choose D gw_cl (gw_ty cI cL cZ) [.ref (ad 0), .int x1, .int x2, .int x3, .ref qo] (wH ad cI cL cZ qo f σ) (wH ad cI cL cZ qo (vp_updL f (0 : Int32).toNatClampNeg r.toInt64) σ') 0 (some (.int 0)) := by
  refine gw_startH (cc := b_La_choose) (nL := 6) (ret := some .int) (hh := [(0, 12, 15, 25), (0, 12, 19, 13)]) hfl (by decide) rfl (Nat.le_of_ble_eq_true rfl) (fun p e s m below meth c A CT hN hr htab => ?_)
  have C := CT.1
  refine gw_eq (lv' := [(0, .ref (ad 0)), (1, .int x1), (2, .int x2), (3, .int x3), (4, .ref qo)]) rfl rfl ?_
  refine gw_aload C d_La_choose_0 4 rfl ?_
  refine gw_iconst (v := 0) C d_La_choose_2 (by decide) ?_
  refine gw_aload_n C d_La_choose_3 rfl 0 rfl ?_
  refine gw_iload_n C d_La_choose_4 rfl 1 rfl ?_
  refine gw_iload_n C d_La_choose_5 rfl 2 rfl ?_
  refine gw_iload_n C d_La_choose_6 rfl 3 rfl ?_
  refine gw_callVC (T := T_Gw) (N := 1) (n := 3) (q0 := 0) (As := [.int x1, .int x2, .int x3]) (st := [.int 0, .ref qo]) (hs := [((0, 12, 15, 25), gw_IOB), ((0, 12, 19, 13), gw_ISE)]) CT (c_Gw_choose l hfl D cI cL cZ ad hF) tb_453 tb_450 tb_451 tb_452 tbI_Gw (by decide +kernel) ⟨Nat.le_of_ble_eq_true rfl, Nat.le_of_ble_eq_true rfl⟩ ⟨Nat.le_of_ble_eq_true rfl, Nat.le_of_ble_eq_true rfl⟩ [1, 2, 3, 4, 5, 6, 7, 8, 9, 10, 11, 12, 13, 14, 15, 16, 17, 18, 19, 20, 21, 22, 23, 24, 25, 26, 27, 28, 29, 30, 31, 32] [0] (wH_C ad cI cL cZ qo f σ) (wH_Cf ad cI cL cZ qo f σ) (by decide) (wH_R ad cI cL cZ qo f σ) (by decide) (by decide) rfl rfl rfl (Nat.le_of_ble_eq_true rfl) d_La_choose_7 htab (fun hk => ?_) (fun hk => ?_)
  · refine gw_eq (ws' := (wH ad cI cL cZ qo f σ')) rfl rfl ?_
    refine gw_i2l C d_La_choose_10 ?_
    refine gw_last (ws' := (wH ad cI cL cZ qo (vp_updL f (0 : Int32).toNatClampNeg r.toInt64) σ')) C 0 1 rfl rfl (vp_in_nI (n := 0) (N := 1) (by decide) (by decide)) d_La_choose_11 rfl ?_
    refine gw_goto (tgt := 23) C d_La_choose_12 (by decide) ?_
    refine gw_iconst (v := 0) C d_La_choose_23 (by decide) ?_
    exact gw_iretT CT hr rfl d_La_choose_24
  · exact absurd rfl hk
set_option maxRecDepth 100000 in
set_option maxHeartbeats 4000000 in
theorem h_La_choose_1 (l : Launch) (hfl : l.flags = pinnedFlags ++ [noTraceFlag]) (D : va_G) (cI cL cZ : ClassId) (ad : Nat → Nat) (qo : Nat) (f : Nat → Int64) {σ σ' : St} {x1 : Int32} {x2 : Int32} {x3 : Int32} {r : Int32} (hF : F_Gw_choose σ x1 x2 x3 = some ((1, r), σ')) : gw_MH l y_La_choose w_La_choose rm_La_choose D gw_cl (gw_ty cI cL cZ) [.ref (ad 0), .int x1, .int x2, .int x3, .ref qo] (wH ad cI cL cZ qo f σ) (wH ad cI cL cZ qo f σ') 1 (some (.int 1)) := by
  refine gw_startH (cc := b_La_choose) (nL := 6) (ret := some .int) (hh := [(0, 12, 15, 25), (0, 12, 19, 13)]) hfl (by decide) rfl (Nat.le_of_ble_eq_true rfl) (fun p e s m below meth c A CT hN hr htab => ?_)
  have C := CT.1
  refine gw_eq (lv' := [(0, .ref (ad 0)), (1, .int x1), (2, .int x2), (3, .int x3), (4, .ref qo)]) rfl rfl ?_
  refine gw_aload C d_La_choose_0 4 rfl ?_
  refine gw_iconst (v := 0) C d_La_choose_2 (by decide) ?_
  refine gw_aload_n C d_La_choose_3 rfl 0 rfl ?_
  refine gw_iload_n C d_La_choose_4 rfl 1 rfl ?_
  refine gw_iload_n C d_La_choose_5 rfl 2 rfl ?_
  refine gw_iload_n C d_La_choose_6 rfl 3 rfl ?_
  refine gw_callVC (T := T_Gw) (N := 1) (n := 3) (q0 := 0) (As := [.int x1, .int x2, .int x3]) (st := [.int 0, .ref qo]) (hs := [((0, 12, 15, 25), gw_IOB), ((0, 12, 19, 13), gw_ISE)]) CT (c_Gw_choose l hfl D cI cL cZ ad hF) tb_453 tb_450 tb_451 tb_452 tbI_Gw (by decide +kernel) ⟨Nat.le_of_ble_eq_true rfl, Nat.le_of_ble_eq_true rfl⟩ ⟨Nat.le_of_ble_eq_true rfl, Nat.le_of_ble_eq_true rfl⟩ [1, 2, 3, 4, 5, 6, 7, 8, 9, 10, 11, 12, 13, 14, 15, 16, 17, 18, 19, 20, 21, 22, 23, 24, 25, 26, 27, 28, 29, 30, 31, 32] [0] (wH_C ad cI cL cZ qo f σ) (wH_Cf ad cI cL cZ qo f σ) (by decide) (wH_R ad cI cL cZ qo f σ) (by decide) (by decide) rfl rfl rfl (Nat.le_of_ble_eq_true rfl) d_La_choose_7 htab (fun hk => ?_) (fun hk => ?_)
  · exact absurd hk (by decide)
  · refine ⟨?_, 15, by decide +kernel, fun x => ?_⟩
    · intro q hq
      simp only [List.mem_cons, List.not_mem_nil, or_false] at hq
      rcases hq with rfl | rfl
      · exact ⟨by decide, by decide, tb_390, fun h => absurd rfl h⟩
      · exact ⟨by decide, by decide, tb_270, fun _ => hN.2.2.2.2.1⟩
    · refine gw_eq (ws' := (wH ad cI cL cZ qo f σ')) rfl rfl ?_
      refine gw_astore (lv' := [(5, .ref x), (0, .ref (ad 0)), (1, .int x1), (2, .int x2), (3, .int x3), (4, .ref qo)]) C d_La_choose_15 (by decide) rfl ?_
      refine gw_iconst (v := 1) C d_La_choose_17 (by decide) ?_
      exact gw_iretT CT hr rfl d_La_choose_18
set_option maxRecDepth 100000 in
set_option maxHeartbeats 4000000 in
theorem h_La_choose_2 (l : Launch) (hfl : l.flags = pinnedFlags ++ [noTraceFlag]) (D : va_G) (cI cL cZ : ClassId) (ad : Nat → Nat) (qo : Nat) (f : Nat → Int64) {σ σ' : St} {x1 : Int32} {x2 : Int32} {x3 : Int32} {r : Int32} (hF : F_Gw_choose σ x1 x2 x3 = some ((2, r), σ')) : gw_MH l y_La_choose w_La_choose rm_La_choose D gw_cl (gw_ty cI cL cZ) [.ref (ad 0), .int x1, .int x2, .int x3, .ref qo] (wH ad cI cL cZ qo f σ) (wH ad cI cL cZ qo f σ') 2 (some (.int 2)) := by
  refine gw_startH (cc := b_La_choose) (nL := 6) (ret := some .int) (hh := [(0, 12, 15, 25), (0, 12, 19, 13)]) hfl (by decide) rfl (Nat.le_of_ble_eq_true rfl) (fun p e s m below meth c A CT hN hr htab => ?_)
  have C := CT.1
  refine gw_eq (lv' := [(0, .ref (ad 0)), (1, .int x1), (2, .int x2), (3, .int x3), (4, .ref qo)]) rfl rfl ?_
  refine gw_aload C d_La_choose_0 4 rfl ?_
  refine gw_iconst (v := 0) C d_La_choose_2 (by decide) ?_
  refine gw_aload_n C d_La_choose_3 rfl 0 rfl ?_
  refine gw_iload_n C d_La_choose_4 rfl 1 rfl ?_
  refine gw_iload_n C d_La_choose_5 rfl 2 rfl ?_
  refine gw_iload_n C d_La_choose_6 rfl 3 rfl ?_
  refine gw_callVC (T := T_Gw) (N := 1) (n := 3) (q0 := 0) (As := [.int x1, .int x2, .int x3]) (st := [.int 0, .ref qo]) (hs := [((0, 12, 15, 25), gw_IOB), ((0, 12, 19, 13), gw_ISE)]) CT (c_Gw_choose l hfl D cI cL cZ ad hF) tb_453 tb_450 tb_451 tb_452 tbI_Gw (by decide +kernel) ⟨Nat.le_of_ble_eq_true rfl, Nat.le_of_ble_eq_true rfl⟩ ⟨Nat.le_of_ble_eq_true rfl, Nat.le_of_ble_eq_true rfl⟩ [1, 2, 3, 4, 5, 6, 7, 8, 9, 10, 11, 12, 13, 14, 15, 16, 17, 18, 19, 20, 21, 22, 23, 24, 25, 26, 27, 28, 29, 30, 31, 32] [0] (wH_C ad cI cL cZ qo f σ) (wH_Cf ad cI cL cZ qo f σ) (by decide) (wH_R ad cI cL cZ qo f σ) (by decide) (by decide) rfl rfl rfl (Nat.le_of_ble_eq_true rfl) d_La_choose_7 htab (fun hk => ?_) (fun hk => ?_)
  · exact absurd hk (by decide)
  · refine ⟨?_, 19, by decide +kernel, fun x => ?_⟩
    · intro q hq
      simp only [List.mem_cons, List.not_mem_nil, or_false] at hq
      rcases hq with rfl | rfl
      · exact ⟨by decide, by decide, tb_390, fun _ => hN.1⟩
      · exact ⟨by decide, by decide, tb_270, fun h => absurd rfl h⟩
    · refine gw_eq (ws' := (wH ad cI cL cZ qo f σ')) rfl rfl ?_
      refine gw_astore (lv' := [(5, .ref x), (0, .ref (ad 0)), (1, .int x1), (2, .int x2), (3, .int x3), (4, .ref qo)]) C d_La_choose_19 (by decide) rfl ?_
      refine gw_iconst (v := 2) C d_La_choose_21 (by decide) ?_
      exact gw_iretT CT hr rfl d_La_choose_22
set_option maxRecDepth 100000 in
set_option maxHeartbeats 4000000 in
theorem h_La_lacks_0 (l : Launch) (hfl : l.flags = pinnedFlags ++ [noTraceFlag]) (D : va_G) (cI cL cZ : ClassId) (ad : Nat → Nat) (qo : Nat) (f : Nat → Int64) {σ σ' : St} {x1 : Int32} {r : Int32} (hF : F_Gw_lacks σ x1 = some ((0, r), σ')) : gw_MH l y_La_lacks w_La_lacks rm_La_lacks D gw_cl (gw_ty cI cL cZ) [.ref (ad 0), .int x1, .ref qo] (wH ad cI cL cZ qo f σ) (wH ad cI cL cZ qo (vp_updL f (0 : Int32).toNatClampNeg r.toInt64) σ') 0 (some (.int 0)) := by
  refine gw_startH (cc := b_La_lacks) (nL := 4) (ret := some .int) (hh := [(0, 9, 12, 25)]) hfl (by decide) rfl (Nat.le_of_ble_eq_true rfl) (fun p e s m below meth c A CT hN hr htab => ?_)
  have C := CT.1
  refine gw_eq (lv' := [(0, .ref (ad 0)), (1, .int x1), (2, .ref qo)]) rfl rfl ?_
  refine gw_aload_n C d_La_lacks_0 rfl 2 rfl ?_
  refine gw_iconst (v := 0) C d_La_lacks_1 (by decide) ?_
  refine gw_aload_n C d_La_lacks_2 rfl 0 rfl ?_
  refine gw_iload_n C d_La_lacks_3 rfl 1 rfl ?_
  refine gw_callVC (T := T_Gw) (N := 1) (n := 1) (q0 := 0) (As := [.int x1]) (st := [.int 0, .ref qo]) (hs := [((0, 9, 12, 25), gw_IOB)]) CT (c_Gw_lacks l hfl D cI cL cZ ad hF) tb_464 tb_461 tb_462 tb_463 tbI_Gw (by decide +kernel) ⟨Nat.le_of_ble_eq_true rfl, Nat.le_of_ble_eq_true rfl⟩ ⟨Nat.le_of_ble_eq_true rfl, Nat.le_of_ble_eq_true rfl⟩ [1, 2, 3, 4, 5, 6, 7, 8, 9, 10, 11, 12, 13, 14, 15, 16, 17, 18, 19, 20, 21, 22, 23, 24, 25, 26, 27, 28, 29, 30, 31, 32] [0] (wH_C ad cI cL cZ qo f σ) (wH_Cf ad cI cL cZ qo f σ) (by decide) (wH_R ad cI cL cZ qo f σ) (by decide) (by decide) rfl rfl rfl (Nat.le_of_ble_eq_true rfl) d_La_lacks_4 htab (fun hk => ?_) (fun hk => ?_)
  · refine gw_eq (ws' := (wH ad cI cL cZ qo f σ')) rfl rfl ?_
    refine gw_i2l C d_La_lacks_7 ?_
    refine gw_last (ws' := (wH ad cI cL cZ qo (vp_updL f (0 : Int32).toNatClampNeg r.toInt64) σ')) C 0 1 rfl rfl (vp_in_nI (n := 0) (N := 1) (by decide) (by decide)) d_La_lacks_8 rfl ?_
    refine gw_goto (tgt := 15) C d_La_lacks_9 (by decide) ?_
    refine gw_iconst (v := 0) C d_La_lacks_15 (by decide) ?_
    exact gw_iretT CT hr rfl d_La_lacks_16
  · exact absurd rfl hk
set_option maxRecDepth 100000 in
set_option maxHeartbeats 4000000 in
theorem h_La_lacks_1 (l : Launch) (hfl : l.flags = pinnedFlags ++ [noTraceFlag]) (D : va_G) (cI cL cZ : ClassId) (ad : Nat → Nat) (qo : Nat) (f : Nat → Int64) {σ σ' : St} {x1 : Int32} {r : Int32} (hF : F_Gw_lacks σ x1 = some ((1, r), σ')) : gw_MH l y_La_lacks w_La_lacks rm_La_lacks D gw_cl (gw_ty cI cL cZ) [.ref (ad 0), .int x1, .ref qo] (wH ad cI cL cZ qo f σ) (wH ad cI cL cZ qo f σ') 1 (some (.int 1)) := by
  refine gw_startH (cc := b_La_lacks) (nL := 4) (ret := some .int) (hh := [(0, 9, 12, 25)]) hfl (by decide) rfl (Nat.le_of_ble_eq_true rfl) (fun p e s m below meth c A CT hN hr htab => ?_)
  have C := CT.1
  refine gw_eq (lv' := [(0, .ref (ad 0)), (1, .int x1), (2, .ref qo)]) rfl rfl ?_
  refine gw_aload_n C d_La_lacks_0 rfl 2 rfl ?_
  refine gw_iconst (v := 0) C d_La_lacks_1 (by decide) ?_
  refine gw_aload_n C d_La_lacks_2 rfl 0 rfl ?_
  refine gw_iload_n C d_La_lacks_3 rfl 1 rfl ?_
  refine gw_callVC (T := T_Gw) (N := 1) (n := 1) (q0 := 0) (As := [.int x1]) (st := [.int 0, .ref qo]) (hs := [((0, 9, 12, 25), gw_IOB)]) CT (c_Gw_lacks l hfl D cI cL cZ ad hF) tb_464 tb_461 tb_462 tb_463 tbI_Gw (by decide +kernel) ⟨Nat.le_of_ble_eq_true rfl, Nat.le_of_ble_eq_true rfl⟩ ⟨Nat.le_of_ble_eq_true rfl, Nat.le_of_ble_eq_true rfl⟩ [1, 2, 3, 4, 5, 6, 7, 8, 9, 10, 11, 12, 13, 14, 15, 16, 17, 18, 19, 20, 21, 22, 23, 24, 25, 26, 27, 28, 29, 30, 31, 32] [0] (wH_C ad cI cL cZ qo f σ) (wH_Cf ad cI cL cZ qo f σ) (by decide) (wH_R ad cI cL cZ qo f σ) (by decide) (by decide) rfl rfl rfl (Nat.le_of_ble_eq_true rfl) d_La_lacks_4 htab (fun hk => ?_) (fun hk => ?_)
  · exact absurd hk (by decide)
  · refine ⟨?_, 12, by decide +kernel, fun x => ?_⟩
    · intro q hq
      simp only [List.mem_cons, List.not_mem_nil, or_false] at hq
      subst hq
      exact ⟨by decide, by decide, tb_390, fun h => absurd rfl h⟩
    · refine gw_eq (ws' := (wH ad cI cL cZ qo f σ')) rfl rfl ?_
      refine gw_astore_n (lv' := [(3, .ref x), (0, .ref (ad 0)), (1, .int x1), (2, .ref qo)]) C d_La_lacks_12 rfl (by decide) rfl ?_
      refine gw_iconst (v := 1) C d_La_lacks_13 (by decide) ?_
      exact gw_iretT CT hr rfl d_La_lacks_14
set_option maxRecDepth 100000 in
set_option maxHeartbeats 4000000 in
theorem h_La_begin_0 (l : Launch) (hfl : l.flags = pinnedFlags ++ [noTraceFlag]) (D : va_G) (cI cL cZ : ClassId) (ad : Nat → Nat) {σ σ' : St} {x1 : Int32} {x2 : Int32} {r : Int32} (hF : F_Gw_begin σ x1 x2 = some ((0, r), σ')) : gw_MH l y_La_begin w_La_begin rm_La_begin D gw_cl (gw_ty cI cL cZ) [.ref (ad 0), .int x1, .int x2] (wC ad cI cL cZ σ) (wC ad cI cL cZ σ') 0 (some (.int 0)) := by
  refine gw_startH (cc := b_La_begin) (nL := 4) (ret := some .int) (hh := [(0, 6, 9, 25), (0, 6, 12, 13)]) hfl (by decide) rfl (Nat.le_of_ble_eq_true rfl) (fun p e s m below meth c A CT hN hr htab => ?_)
  have C := CT.1
  refine gw_eq (lv' := [(0, .ref (ad 0)), (1, .int x1), (2, .int x2)]) rfl rfl ?_
  refine gw_aload_n C d_La_begin_0 rfl 0 rfl ?_
  refine gw_iload_n C d_La_begin_1 rfl 1 rfl ?_
  refine gw_iload_n C d_La_begin_2 rfl 2 rfl ?_
  refine gw_callVC (T := T_Gw) (N := 1) (n := 2) (q0 := 0) (As := [.int x1, .int x2]) (st := []) (hs := [((0, 6, 9, 25), gw_IOB), ((0, 6, 12, 13), gw_ISE)]) CT (c_Gw_begin l hfl D cI cL cZ ad hF) tb_472 tb_469 tb_470 tb_471 tbI_Gw (by decide +kernel) ⟨Nat.le_of_ble_eq_true rfl, Nat.le_of_ble_eq_true rfl⟩ ⟨Nat.le_of_ble_eq_true rfl, Nat.le_of_ble_eq_true rfl⟩ [0, 1, 2, 3, 4, 5, 6, 7, 8, 9, 10, 11, 12, 13, 14, 15, 16, 17, 18, 19, 20, 21, 22, 23, 24, 25, 26, 27, 28, 29, 30, 31] [] (wC_C ad cI cL cZ σ) (wC_Cf ad cI cL cZ σ) (by decide) (wr := []) rfl (by decide) (by decide) rfl rfl rfl (Nat.le_of_ble_eq_true rfl) d_La_begin_3 htab (fun hk => ?_) (fun hk => ?_)
  · refine gw_eq (ws' := (wC ad cI cL cZ σ')) rfl rfl ?_
    refine gw_goto (tgt := 15) C d_La_begin_6 (by decide) ?_
    refine gw_iconst (v := 0) C d_La_begin_15 (by decide) ?_
    exact gw_iretT CT hr rfl d_La_begin_16
  · exact absurd rfl hk
set_option maxRecDepth 100000 in
set_option maxHeartbeats 4000000 in
theorem h_La_begin_1 (l : Launch) (hfl : l.flags = pinnedFlags ++ [noTraceFlag]) (D : va_G) (cI cL cZ : ClassId) (ad : Nat → Nat) {σ σ' : St} {x1 : Int32} {x2 : Int32} {r : Int32} (hF : F_Gw_begin σ x1 x2 = some ((1, r), σ')) : gw_MH l y_La_begin w_La_begin rm_La_begin D gw_cl (gw_ty cI cL cZ) [.ref (ad 0), .int x1, .int x2] (wC ad cI cL cZ σ) (wC ad cI cL cZ σ') 1 (some (.int 1)) := by
  refine gw_startH (cc := b_La_begin) (nL := 4) (ret := some .int) (hh := [(0, 6, 9, 25), (0, 6, 12, 13)]) hfl (by decide) rfl (Nat.le_of_ble_eq_true rfl) (fun p e s m below meth c A CT hN hr htab => ?_)
  have C := CT.1
  refine gw_eq (lv' := [(0, .ref (ad 0)), (1, .int x1), (2, .int x2)]) rfl rfl ?_
  refine gw_aload_n C d_La_begin_0 rfl 0 rfl ?_
  refine gw_iload_n C d_La_begin_1 rfl 1 rfl ?_
  refine gw_iload_n C d_La_begin_2 rfl 2 rfl ?_
  refine gw_callVC (T := T_Gw) (N := 1) (n := 2) (q0 := 0) (As := [.int x1, .int x2]) (st := []) (hs := [((0, 6, 9, 25), gw_IOB), ((0, 6, 12, 13), gw_ISE)]) CT (c_Gw_begin l hfl D cI cL cZ ad hF) tb_472 tb_469 tb_470 tb_471 tbI_Gw (by decide +kernel) ⟨Nat.le_of_ble_eq_true rfl, Nat.le_of_ble_eq_true rfl⟩ ⟨Nat.le_of_ble_eq_true rfl, Nat.le_of_ble_eq_true rfl⟩ [0, 1, 2, 3, 4, 5, 6, 7, 8, 9, 10, 11, 12, 13, 14, 15, 16, 17, 18, 19, 20, 21, 22, 23, 24, 25, 26, 27, 28, 29, 30, 31] [] (wC_C ad cI cL cZ σ) (wC_Cf ad cI cL cZ σ) (by decide) (wr := []) rfl (by decide) (by decide) rfl rfl rfl (Nat.le_of_ble_eq_true rfl) d_La_begin_3 htab (fun hk => ?_) (fun hk => ?_)
  · exact absurd hk (by decide)
  · refine ⟨?_, 9, by decide +kernel, fun x => ?_⟩
    · intro q hq
      simp only [List.mem_cons, List.not_mem_nil, or_false] at hq
      rcases hq with rfl | rfl
      · exact ⟨by decide, by decide, tb_390, fun h => absurd rfl h⟩
      · exact ⟨by decide, by decide, tb_270, fun _ => hN.2.2.2.2.1⟩
    · refine gw_eq (ws' := (wC ad cI cL cZ σ')) rfl rfl ?_
      refine gw_astore_n (lv' := [(3, .ref x), (0, .ref (ad 0)), (1, .int x1), (2, .int x2)]) C d_La_begin_9 rfl (by decide) rfl ?_
      refine gw_iconst (v := 1) C d_La_begin_10 (by decide) ?_
      exact gw_iretT CT hr rfl d_La_begin_11
set_option maxRecDepth 100000 in
set_option maxHeartbeats 4000000 in
theorem h_La_begin_2 (l : Launch) (hfl : l.flags = pinnedFlags ++ [noTraceFlag]) (D : va_G) (cI cL cZ : ClassId) (ad : Nat → Nat) {σ σ' : St} {x1 : Int32} {x2 : Int32} {r : Int32} (hF : F_Gw_begin σ x1 x2 = some ((2, r), σ')) : gw_MH l y_La_begin w_La_begin rm_La_begin D gw_cl (gw_ty cI cL cZ) [.ref (ad 0), .int x1, .int x2] (wC ad cI cL cZ σ) (wC ad cI cL cZ σ') 2 (some (.int 2)) := by
  refine gw_startH (cc := b_La_begin) (nL := 4) (ret := some .int) (hh := [(0, 6, 9, 25), (0, 6, 12, 13)]) hfl (by decide) rfl (Nat.le_of_ble_eq_true rfl) (fun p e s m below meth c A CT hN hr htab => ?_)
  have C := CT.1
  refine gw_eq (lv' := [(0, .ref (ad 0)), (1, .int x1), (2, .int x2)]) rfl rfl ?_
  refine gw_aload_n C d_La_begin_0 rfl 0 rfl ?_
  refine gw_iload_n C d_La_begin_1 rfl 1 rfl ?_
  refine gw_iload_n C d_La_begin_2 rfl 2 rfl ?_
  refine gw_callVC (T := T_Gw) (N := 1) (n := 2) (q0 := 0) (As := [.int x1, .int x2]) (st := []) (hs := [((0, 6, 9, 25), gw_IOB), ((0, 6, 12, 13), gw_ISE)]) CT (c_Gw_begin l hfl D cI cL cZ ad hF) tb_472 tb_469 tb_470 tb_471 tbI_Gw (by decide +kernel) ⟨Nat.le_of_ble_eq_true rfl, Nat.le_of_ble_eq_true rfl⟩ ⟨Nat.le_of_ble_eq_true rfl, Nat.le_of_ble_eq_true rfl⟩ [0, 1, 2, 3, 4, 5, 6, 7, 8, 9, 10, 11, 12, 13, 14, 15, 16, 17, 18, 19, 20, 21, 22, 23, 24, 25, 26, 27, 28, 29, 30, 31] [] (wC_C ad cI cL cZ σ) (wC_Cf ad cI cL cZ σ) (by decide) (wr := []) rfl (by decide) (by decide) rfl rfl rfl (Nat.le_of_ble_eq_true rfl) d_La_begin_3 htab (fun hk => ?_) (fun hk => ?_)
  · exact absurd hk (by decide)
  · refine ⟨?_, 12, by decide +kernel, fun x => ?_⟩
    · intro q hq
      simp only [List.mem_cons, List.not_mem_nil, or_false] at hq
      rcases hq with rfl | rfl
      · exact ⟨by decide, by decide, tb_390, fun _ => hN.1⟩
      · exact ⟨by decide, by decide, tb_270, fun h => absurd rfl h⟩
    · refine gw_eq (ws' := (wC ad cI cL cZ σ')) rfl rfl ?_
      refine gw_astore_n (lv' := [(3, .ref x), (0, .ref (ad 0)), (1, .int x1), (2, .int x2)]) C d_La_begin_12 rfl (by decide) rfl ?_
      refine gw_iconst (v := 2) C d_La_begin_13 (by decide) ?_
      exact gw_iretT CT hr rfl d_La_begin_14
set_option maxRecDepth 100000 in
set_option maxHeartbeats 4000000 in
theorem h_La_run_0 (l : Launch) (hfl : l.flags = pinnedFlags ++ [noTraceFlag]) (D : va_G) (cI cL cZ : ClassId) (ad : Nat → Nat) (qo : Nat) (f : Nat → Int64) {σ σ' : St} {x1 : Int32} {r : Int32} (hF : F_Gw_run σ x1 = some ((0, r), σ')) : gw_MH l y_La_run w_La_run rm_La_run D gw_cl (gw_ty cI cL cZ) [.ref (ad 0), .int x1, .ref qo] (wH ad cI cL cZ qo f σ) (wH ad cI cL cZ qo (vp_updL f (0 : Int32).toNatClampNeg r.toInt64) σ') 0 (some (.int 0)) := by
  refine gw_startH (cc := b_La_run) (nL := 4) (ret := some .int) (hh := [(0, 9, 12, 13), (0, 9, 15, 19)]) hfl (by decide) rfl (Nat.le_of_ble_eq_true rfl) (fun p e s m below meth c A CT hN hr htab => ?_)
  have C := CT.1
  refine gw_eq (lv' := [(0, .ref (ad 0)), (1, .int x1), (2, .ref qo)]) rfl rfl ?_
  refine gw_aload_n C d_La_run_0 rfl 2 rfl ?_
  refine gw_iconst (v := 0) C d_La_run_1 (by decide) ?_
  refine gw_aload_n C d_La_run_2 rfl 0 rfl ?_
  refine gw_iload_n C d_La_run_3 rfl 1 rfl ?_
  refine gw_callVC (T := T_Gw) (N := 1) (n := 1) (q0 := 0) (As := [.int x1]) (st := [.int 0, .ref qo]) (hs := [((0, 9, 12, 13), gw_ISE), ((0, 9, 15, 19), gw_IAE)]) CT (c_Gw_run l hfl D cI cL cZ ad hF) tb_508 tb_505 tb_506 tb_507 tbI_Gw (by decide +kernel) ⟨Nat.le_of_ble_eq_true rfl, Nat.le_of_ble_eq_true rfl⟩ ⟨Nat.le_of_ble_eq_true rfl, Nat.le_of_ble_eq_true rfl⟩ [1, 2, 3, 4, 5, 6, 7, 8, 9, 10, 11, 12, 13, 14, 15, 16, 17, 18, 19, 20, 21, 22, 23, 24, 25, 26, 27, 28, 29, 30, 31, 32] [0] (wH_C ad cI cL cZ qo f σ) (wH_Cf ad cI cL cZ qo f σ) (by decide) (wH_R ad cI cL cZ qo f σ) (by decide) (by decide) rfl rfl rfl (Nat.le_of_ble_eq_true rfl) d_La_run_4 htab (fun hk => ?_) (fun hk => ?_)
  · refine gw_eq (ws' := (wH ad cI cL cZ qo f σ')) rfl rfl ?_
    refine gw_i2l C d_La_run_7 ?_
    refine gw_last (ws' := (wH ad cI cL cZ qo (vp_updL f (0 : Int32).toNatClampNeg r.toInt64) σ')) C 0 1 rfl rfl (vp_in_nI (n := 0) (N := 1) (by decide) (by decide)) d_La_run_8 rfl ?_
    refine gw_goto (tgt := 18) C d_La_run_9 (by decide) ?_
    refine gw_iconst (v := 0) C d_La_run_18 (by decide) ?_
    exact gw_iretT CT hr rfl d_La_run_19
  · exact absurd rfl hk
set_option maxRecDepth 100000 in
set_option maxHeartbeats 4000000 in
theorem h_La_run_2 (l : Launch) (hfl : l.flags = pinnedFlags ++ [noTraceFlag]) (D : va_G) (cI cL cZ : ClassId) (ad : Nat → Nat) (qo : Nat) (f : Nat → Int64) {σ σ' : St} {x1 : Int32} {r : Int32} (hF : F_Gw_run σ x1 = some ((2, r), σ')) : gw_MH l y_La_run w_La_run rm_La_run D gw_cl (gw_ty cI cL cZ) [.ref (ad 0), .int x1, .ref qo] (wH ad cI cL cZ qo f σ) (wH ad cI cL cZ qo f σ') 2 (some (.int 1)) := by
  refine gw_startH (cc := b_La_run) (nL := 4) (ret := some .int) (hh := [(0, 9, 12, 13), (0, 9, 15, 19)]) hfl (by decide) rfl (Nat.le_of_ble_eq_true rfl) (fun p e s m below meth c A CT hN hr htab => ?_)
  have C := CT.1
  refine gw_eq (lv' := [(0, .ref (ad 0)), (1, .int x1), (2, .ref qo)]) rfl rfl ?_
  refine gw_aload_n C d_La_run_0 rfl 2 rfl ?_
  refine gw_iconst (v := 0) C d_La_run_1 (by decide) ?_
  refine gw_aload_n C d_La_run_2 rfl 0 rfl ?_
  refine gw_iload_n C d_La_run_3 rfl 1 rfl ?_
  refine gw_callVC (T := T_Gw) (N := 1) (n := 1) (q0 := 0) (As := [.int x1]) (st := [.int 0, .ref qo]) (hs := [((0, 9, 12, 13), gw_ISE), ((0, 9, 15, 19), gw_IAE)]) CT (c_Gw_run l hfl D cI cL cZ ad hF) tb_508 tb_505 tb_506 tb_507 tbI_Gw (by decide +kernel) ⟨Nat.le_of_ble_eq_true rfl, Nat.le_of_ble_eq_true rfl⟩ ⟨Nat.le_of_ble_eq_true rfl, Nat.le_of_ble_eq_true rfl⟩ [1, 2, 3, 4, 5, 6, 7, 8, 9, 10, 11, 12, 13, 14, 15, 16, 17, 18, 19, 20, 21, 22, 23, 24, 25, 26, 27, 28, 29, 30, 31, 32] [0] (wH_C ad cI cL cZ qo f σ) (wH_Cf ad cI cL cZ qo f σ) (by decide) (wH_R ad cI cL cZ qo f σ) (by decide) (by decide) rfl rfl rfl (Nat.le_of_ble_eq_true rfl) d_La_run_4 htab (fun hk => ?_) (fun hk => ?_)
  · exact absurd hk (by decide)
  · refine ⟨?_, 12, by decide +kernel, fun x => ?_⟩
    · intro q hq
      simp only [List.mem_cons, List.not_mem_nil, or_false] at hq
      rcases hq with rfl | rfl
      · exact ⟨by decide, by decide, tb_270, fun h => absurd rfl h⟩
      · exact ⟨by decide, by decide, tb_362, fun _ => hN.2.2.2.1⟩
    · refine gw_eq (ws' := (wH ad cI cL cZ qo f σ')) rfl rfl ?_
      refine gw_astore_n (lv' := [(3, .ref x), (0, .ref (ad 0)), (1, .int x1), (2, .ref qo)]) C d_La_run_12 rfl (by decide) rfl ?_
      refine gw_iconst (v := 1) C d_La_run_13 (by decide) ?_
      exact gw_iretT CT hr rfl d_La_run_14
set_option maxRecDepth 100000 in
set_option maxHeartbeats 4000000 in
theorem h_La_run_3 (l : Launch) (hfl : l.flags = pinnedFlags ++ [noTraceFlag]) (D : va_G) (cI cL cZ : ClassId) (ad : Nat → Nat) (qo : Nat) (f : Nat → Int64) {σ σ' : St} {x1 : Int32} {r : Int32} (hF : F_Gw_run σ x1 = some ((3, r), σ')) : gw_MH l y_La_run w_La_run rm_La_run D gw_cl (gw_ty cI cL cZ) [.ref (ad 0), .int x1, .ref qo] (wH ad cI cL cZ qo f σ) (wH ad cI cL cZ qo f σ') 3 (some (.int 2)) := by
  refine gw_startH (cc := b_La_run) (nL := 4) (ret := some .int) (hh := [(0, 9, 12, 13), (0, 9, 15, 19)]) hfl (by decide) rfl (Nat.le_of_ble_eq_true rfl) (fun p e s m below meth c A CT hN hr htab => ?_)
  have C := CT.1
  refine gw_eq (lv' := [(0, .ref (ad 0)), (1, .int x1), (2, .ref qo)]) rfl rfl ?_
  refine gw_aload_n C d_La_run_0 rfl 2 rfl ?_
  refine gw_iconst (v := 0) C d_La_run_1 (by decide) ?_
  refine gw_aload_n C d_La_run_2 rfl 0 rfl ?_
  refine gw_iload_n C d_La_run_3 rfl 1 rfl ?_
  refine gw_callVC (T := T_Gw) (N := 1) (n := 1) (q0 := 0) (As := [.int x1]) (st := [.int 0, .ref qo]) (hs := [((0, 9, 12, 13), gw_ISE), ((0, 9, 15, 19), gw_IAE)]) CT (c_Gw_run l hfl D cI cL cZ ad hF) tb_508 tb_505 tb_506 tb_507 tbI_Gw (by decide +kernel) ⟨Nat.le_of_ble_eq_true rfl, Nat.le_of_ble_eq_true rfl⟩ ⟨Nat.le_of_ble_eq_true rfl, Nat.le_of_ble_eq_true rfl⟩ [1, 2, 3, 4, 5, 6, 7, 8, 9, 10, 11, 12, 13, 14, 15, 16, 17, 18, 19, 20, 21, 22, 23, 24, 25, 26, 27, 28, 29, 30, 31, 32] [0] (wH_C ad cI cL cZ qo f σ) (wH_Cf ad cI cL cZ qo f σ) (by decide) (wH_R ad cI cL cZ qo f σ) (by decide) (by decide) rfl rfl rfl (Nat.le_of_ble_eq_true rfl) d_La_run_4 htab (fun hk => ?_) (fun hk => ?_)
  · exact absurd hk (by decide)
  · refine ⟨?_, 15, by decide +kernel, fun x => ?_⟩
    · intro q hq
      simp only [List.mem_cons, List.not_mem_nil, or_false] at hq
      rcases hq with rfl | rfl
      · exact ⟨by decide, by decide, tb_270, fun _ => hN.2.2.1⟩
      · exact ⟨by decide, by decide, tb_362, fun h => absurd rfl h⟩
    · refine gw_eq (ws' := (wH ad cI cL cZ qo f σ')) rfl rfl ?_
      refine gw_astore_n (lv' := [(3, .ref x), (0, .ref (ad 0)), (1, .int x1), (2, .ref qo)]) C d_La_run_15 rfl (by decide) rfl ?_
      refine gw_iconst (v := 2) C d_La_run_16 (by decide) ?_
      exact gw_iretT CT hr rfl d_La_run_17
set_option maxRecDepth 100000 in
set_option maxHeartbeats 4000000 in
theorem h_La_into_0 (l : Launch) (hfl : l.flags = pinnedFlags ++ [noTraceFlag]) (D : va_G) (cI cL cZ : ClassId) (ad : Nat → Nat) {σ σ' : St} {x1 : Int32} {r : Int32} (hF : F_Gw_into σ x1 = some ((0, r), σ')) : gw_MH l y_La_into w_La_into rm_La_into D gw_cl (gw_ty cI cL cZ) [.ref (ad 0), .int x1] (wC ad cI cL cZ σ) (wC ad cI cL cZ σ') 0 (some (.int 0)) := by
  refine gw_startH (cc := b_La_into) (nL := 3) (ret := some .int) (hh := [(0, 5, 8, 13), (0, 5, 11, 19)]) hfl (by decide) rfl (Nat.le_of_ble_eq_true rfl) (fun p e s m below meth c A CT hN hr htab => ?_)
  have C := CT.1
  refine gw_eq (lv' := [(0, .ref (ad 0)), (1, .int x1)]) rfl rfl ?_
  refine gw_aload_n C d_La_into_0 rfl 0 rfl ?_
  refine gw_iload_n C d_La_into_1 rfl 1 rfl ?_
  refine gw_callVC (T := T_Gw) (N := 1) (n := 1) (q0 := 0) (As := [.int x1]) (st := []) (hs := [((0, 5, 8, 13), gw_ISE), ((0, 5, 11, 19), gw_IAE)]) CT (c_Gw_into l hfl D cI cL cZ ad hF) tb_777 tb_774 tb_775 tb_776 tbI_Gw (by decide +kernel) ⟨Nat.le_of_ble_eq_true rfl, Nat.le_of_ble_eq_true rfl⟩ ⟨Nat.le_of_ble_eq_true rfl, Nat.le_of_ble_eq_true rfl⟩ [0, 1, 2, 3, 4, 5, 6, 7, 8, 9, 10, 11, 12, 13, 14, 15, 16, 17, 18, 19, 20, 21, 22, 23, 24, 25, 26, 27, 28, 29, 30, 31] [] (wC_C ad cI cL cZ σ) (wC_Cf ad cI cL cZ σ) (by decide) (wr := []) rfl (by decide) (by decide) rfl rfl rfl (Nat.le_of_ble_eq_true rfl) d_La_into_2 htab (fun hk => ?_) (fun hk => ?_)
  · refine gw_eq (ws' := (wC ad cI cL cZ σ')) rfl rfl ?_
    refine gw_goto (tgt := 14) C d_La_into_5 (by decide) ?_
    refine gw_iconst (v := 0) C d_La_into_14 (by decide) ?_
    exact gw_iretT CT hr rfl d_La_into_15
  · exact absurd rfl hk
set_option maxRecDepth 100000 in
set_option maxHeartbeats 4000000 in
theorem h_La_into_2 (l : Launch) (hfl : l.flags = pinnedFlags ++ [noTraceFlag]) (D : va_G) (cI cL cZ : ClassId) (ad : Nat → Nat) {σ σ' : St} {x1 : Int32} {r : Int32} (hF : F_Gw_into σ x1 = some ((2, r), σ')) : gw_MH l y_La_into w_La_into rm_La_into D gw_cl (gw_ty cI cL cZ) [.ref (ad 0), .int x1] (wC ad cI cL cZ σ) (wC ad cI cL cZ σ') 2 (some (.int 1)) := by
  refine gw_startH (cc := b_La_into) (nL := 3) (ret := some .int) (hh := [(0, 5, 8, 13), (0, 5, 11, 19)]) hfl (by decide) rfl (Nat.le_of_ble_eq_true rfl) (fun p e s m below meth c A CT hN hr htab => ?_)
  have C := CT.1
  refine gw_eq (lv' := [(0, .ref (ad 0)), (1, .int x1)]) rfl rfl ?_
  refine gw_aload_n C d_La_into_0 rfl 0 rfl ?_
  refine gw_iload_n C d_La_into_1 rfl 1 rfl ?_
  refine gw_callVC (T := T_Gw) (N := 1) (n := 1) (q0 := 0) (As := [.int x1]) (st := []) (hs := [((0, 5, 8, 13), gw_ISE), ((0, 5, 11, 19), gw_IAE)]) CT (c_Gw_into l hfl D cI cL cZ ad hF) tb_777 tb_774 tb_775 tb_776 tbI_Gw (by decide +kernel) ⟨Nat.le_of_ble_eq_true rfl, Nat.le_of_ble_eq_true rfl⟩ ⟨Nat.le_of_ble_eq_true rfl, Nat.le_of_ble_eq_true rfl⟩ [0, 1, 2, 3, 4, 5, 6, 7, 8, 9, 10, 11, 12, 13, 14, 15, 16, 17, 18, 19, 20, 21, 22, 23, 24, 25, 26, 27, 28, 29, 30, 31] [] (wC_C ad cI cL cZ σ) (wC_Cf ad cI cL cZ σ) (by decide) (wr := []) rfl (by decide) (by decide) rfl rfl rfl (Nat.le_of_ble_eq_true rfl) d_La_into_2 htab (fun hk => ?_) (fun hk => ?_)
  · exact absurd hk (by decide)
  · refine ⟨?_, 8, by decide +kernel, fun x => ?_⟩
    · intro q hq
      simp only [List.mem_cons, List.not_mem_nil, or_false] at hq
      rcases hq with rfl | rfl
      · exact ⟨by decide, by decide, tb_270, fun h => absurd rfl h⟩
      · exact ⟨by decide, by decide, tb_362, fun _ => hN.2.2.2.1⟩
    · refine gw_eq (ws' := (wC ad cI cL cZ σ')) rfl rfl ?_
      refine gw_astore_n (lv' := [(2, .ref x), (0, .ref (ad 0)), (1, .int x1)]) C d_La_into_8 rfl (by decide) rfl ?_
      refine gw_iconst (v := 1) C d_La_into_9 (by decide) ?_
      exact gw_iretT CT hr rfl d_La_into_10
set_option maxRecDepth 100000 in
set_option maxHeartbeats 4000000 in
theorem h_La_into_3 (l : Launch) (hfl : l.flags = pinnedFlags ++ [noTraceFlag]) (D : va_G) (cI cL cZ : ClassId) (ad : Nat → Nat) {σ σ' : St} {x1 : Int32} {r : Int32} (hF : F_Gw_into σ x1 = some ((3, r), σ')) : gw_MH l y_La_into w_La_into rm_La_into D gw_cl (gw_ty cI cL cZ) [.ref (ad 0), .int x1] (wC ad cI cL cZ σ) (wC ad cI cL cZ σ') 3 (some (.int 2)) := by
  refine gw_startH (cc := b_La_into) (nL := 3) (ret := some .int) (hh := [(0, 5, 8, 13), (0, 5, 11, 19)]) hfl (by decide) rfl (Nat.le_of_ble_eq_true rfl) (fun p e s m below meth c A CT hN hr htab => ?_)
  have C := CT.1
  refine gw_eq (lv' := [(0, .ref (ad 0)), (1, .int x1)]) rfl rfl ?_
  refine gw_aload_n C d_La_into_0 rfl 0 rfl ?_
  refine gw_iload_n C d_La_into_1 rfl 1 rfl ?_
  refine gw_callVC (T := T_Gw) (N := 1) (n := 1) (q0 := 0) (As := [.int x1]) (st := []) (hs := [((0, 5, 8, 13), gw_ISE), ((0, 5, 11, 19), gw_IAE)]) CT (c_Gw_into l hfl D cI cL cZ ad hF) tb_777 tb_774 tb_775 tb_776 tbI_Gw (by decide +kernel) ⟨Nat.le_of_ble_eq_true rfl, Nat.le_of_ble_eq_true rfl⟩ ⟨Nat.le_of_ble_eq_true rfl, Nat.le_of_ble_eq_true rfl⟩ [0, 1, 2, 3, 4, 5, 6, 7, 8, 9, 10, 11, 12, 13, 14, 15, 16, 17, 18, 19, 20, 21, 22, 23, 24, 25, 26, 27, 28, 29, 30, 31] [] (wC_C ad cI cL cZ σ) (wC_Cf ad cI cL cZ σ) (by decide) (wr := []) rfl (by decide) (by decide) rfl rfl rfl (Nat.le_of_ble_eq_true rfl) d_La_into_2 htab (fun hk => ?_) (fun hk => ?_)
  · exact absurd hk (by decide)
  · refine ⟨?_, 11, by decide +kernel, fun x => ?_⟩
    · intro q hq
      simp only [List.mem_cons, List.not_mem_nil, or_false] at hq
      rcases hq with rfl | rfl
      · exact ⟨by decide, by decide, tb_270, fun _ => hN.2.2.1⟩
      · exact ⟨by decide, by decide, tb_362, fun h => absurd rfl h⟩
    · refine gw_eq (ws' := (wC ad cI cL cZ σ')) rfl rfl ?_
      refine gw_astore_n (lv' := [(2, .ref x), (0, .ref (ad 0)), (1, .int x1)]) C d_La_into_11 rfl (by decide) rfl ?_
      refine gw_iconst (v := 2) C d_La_into_12 (by decide) ?_
      exact gw_iretT CT hr rfl d_La_into_13
set_option maxRecDepth 100000 in
set_option maxHeartbeats 4000000 in
theorem h_La_told_0 (l : Launch) (hfl : l.flags = pinnedFlags ++ [noTraceFlag]) (D : va_G) (cI cL cZ : ClassId) (ad : Nat → Nat) (qo : Nat) (f : Nat → Int64) {σ σ' : St} {x1 : Int32} {r : Int32} (hF : F_Gw_told σ x1 = some ((0, r), σ')) : gw_MH l y_La_told w_La_told rm_La_told D gw_cl (gw_ty cI cL cZ) [.ref (ad 0), .int x1, .ref qo] (wH ad cI cL cZ qo f σ) (wH ad cI cL cZ qo (vp_updL f (0 : Int32).toNatClampNeg r.toInt64) σ') 0 (some (.int 0)) := by
  refine gw_startH (cc := b_La_told) (nL := 4) (ret := some .int) (hh := [(0, 9, 12, 19)]) hfl (by decide) rfl (Nat.le_of_ble_eq_true rfl) (fun p e s m below meth c A CT hN hr htab => ?_)
  have C := CT.1
  refine gw_eq (lv' := [(0, .ref (ad 0)), (1, .int x1), (2, .ref qo)]) rfl rfl ?_
  refine gw_aload_n C d_La_told_0 rfl 2 rfl ?_
  refine gw_iconst (v := 0) C d_La_told_1 (by decide) ?_
  refine gw_aload_n C d_La_told_2 rfl 0 rfl ?_
  refine gw_iload_n C d_La_told_3 rfl 1 rfl ?_
  refine gw_callVC (T := T_Gw) (N := 1) (n := 1) (q0 := 0) (As := [.int x1]) (st := [.int 0, .ref qo]) (hs := [((0, 9, 12, 19), gw_IAE)]) CT (c_Gw_told l hfl D cI cL cZ ad hF) tb_790 tb_787 tb_788 tb_789 tbI_Gw (by decide +kernel) ⟨Nat.le_of_ble_eq_true rfl, Nat.le_of_ble_eq_true rfl⟩ ⟨Nat.le_of_ble_eq_true rfl, Nat.le_of_ble_eq_true rfl⟩ [1, 2, 3, 4, 5, 6, 7, 8, 9, 10, 11, 12, 13, 14, 15, 16, 17, 18, 19, 20, 21, 22, 23, 24, 25, 26, 27, 28, 29, 30, 31, 32] [0] (wH_C ad cI cL cZ qo f σ) (wH_Cf ad cI cL cZ qo f σ) (by decide) (wH_R ad cI cL cZ qo f σ) (by decide) (by decide) rfl rfl rfl (Nat.le_of_ble_eq_true rfl) d_La_told_4 htab (fun hk => ?_) (fun hk => ?_)
  · refine gw_eq (ws' := (wH ad cI cL cZ qo f σ')) rfl rfl ?_
    refine gw_i2l C d_La_told_7 ?_
    refine gw_last (ws' := (wH ad cI cL cZ qo (vp_updL f (0 : Int32).toNatClampNeg r.toInt64) σ')) C 0 1 rfl rfl (vp_in_nI (n := 0) (N := 1) (by decide) (by decide)) d_La_told_8 rfl ?_
    refine gw_goto (tgt := 15) C d_La_told_9 (by decide) ?_
    refine gw_iconst (v := 0) C d_La_told_15 (by decide) ?_
    exact gw_iretT CT hr rfl d_La_told_16
  · exact absurd rfl hk
set_option maxRecDepth 100000 in
set_option maxHeartbeats 4000000 in
theorem h_La_told_3 (l : Launch) (hfl : l.flags = pinnedFlags ++ [noTraceFlag]) (D : va_G) (cI cL cZ : ClassId) (ad : Nat → Nat) (qo : Nat) (f : Nat → Int64) {σ σ' : St} {x1 : Int32} {r : Int32} (hF : F_Gw_told σ x1 = some ((3, r), σ')) : gw_MH l y_La_told w_La_told rm_La_told D gw_cl (gw_ty cI cL cZ) [.ref (ad 0), .int x1, .ref qo] (wH ad cI cL cZ qo f σ) (wH ad cI cL cZ qo f σ') 3 (some (.int 1)) := by
  refine gw_startH (cc := b_La_told) (nL := 4) (ret := some .int) (hh := [(0, 9, 12, 19)]) hfl (by decide) rfl (Nat.le_of_ble_eq_true rfl) (fun p e s m below meth c A CT hN hr htab => ?_)
  have C := CT.1
  refine gw_eq (lv' := [(0, .ref (ad 0)), (1, .int x1), (2, .ref qo)]) rfl rfl ?_
  refine gw_aload_n C d_La_told_0 rfl 2 rfl ?_
  refine gw_iconst (v := 0) C d_La_told_1 (by decide) ?_
  refine gw_aload_n C d_La_told_2 rfl 0 rfl ?_
  refine gw_iload_n C d_La_told_3 rfl 1 rfl ?_
  refine gw_callVC (T := T_Gw) (N := 1) (n := 1) (q0 := 0) (As := [.int x1]) (st := [.int 0, .ref qo]) (hs := [((0, 9, 12, 19), gw_IAE)]) CT (c_Gw_told l hfl D cI cL cZ ad hF) tb_790 tb_787 tb_788 tb_789 tbI_Gw (by decide +kernel) ⟨Nat.le_of_ble_eq_true rfl, Nat.le_of_ble_eq_true rfl⟩ ⟨Nat.le_of_ble_eq_true rfl, Nat.le_of_ble_eq_true rfl⟩ [1, 2, 3, 4, 5, 6, 7, 8, 9, 10, 11, 12, 13, 14, 15, 16, 17, 18, 19, 20, 21, 22, 23, 24, 25, 26, 27, 28, 29, 30, 31, 32] [0] (wH_C ad cI cL cZ qo f σ) (wH_Cf ad cI cL cZ qo f σ) (by decide) (wH_R ad cI cL cZ qo f σ) (by decide) (by decide) rfl rfl rfl (Nat.le_of_ble_eq_true rfl) d_La_told_4 htab (fun hk => ?_) (fun hk => ?_)
  · exact absurd hk (by decide)
  · refine ⟨?_, 12, by decide +kernel, fun x => ?_⟩
    · intro q hq
      simp only [List.mem_cons, List.not_mem_nil, or_false] at hq
      subst hq
      exact ⟨by decide, by decide, tb_362, fun h => absurd rfl h⟩
    · refine gw_eq (ws' := (wH ad cI cL cZ qo f σ')) rfl rfl ?_
      refine gw_astore_n (lv' := [(3, .ref x), (0, .ref (ad 0)), (1, .int x1), (2, .ref qo)]) C d_La_told_12 rfl (by decide) rfl ?_
      refine gw_iconst (v := 1) C d_La_told_13 (by decide) ?_
      exact gw_iretT CT hr rfl d_La_told_14
set_option maxRecDepth 100000 in
set_option maxHeartbeats 4000000 in
theorem h_La_thing_0 (l : Launch) (hfl : l.flags = pinnedFlags ++ [noTraceFlag]) (D : va_G) (cI cL cZ : ClassId) (ad : Nat → Nat) (qo : Nat) (f : Nat → Int64) {σ σ' : St} {x1 : Int32} {r : Int32} (hF : F_Gw_thing σ x1 = some ((0, r), σ')) : gw_MH l y_La_thing w_La_thing rm_La_thing D gw_cl (gw_ty cI cL cZ) [.ref (ad 0), .int x1, .ref qo] (wH ad cI cL cZ qo f σ) (wH ad cI cL cZ qo (vp_updL f (0 : Int32).toNatClampNeg r.toInt64) σ') 0 (some (.int 0)) := by
  refine gw_startH (cc := b_La_thing) (nL := 4) (ret := some .int) (hh := [(0, 9, 12, 25)]) hfl (by decide) rfl (Nat.le_of_ble_eq_true rfl) (fun p e s m below meth c A CT hN hr htab => ?_)
  have C := CT.1
  refine gw_eq (lv' := [(0, .ref (ad 0)), (1, .int x1), (2, .ref qo)]) rfl rfl ?_
  refine gw_aload_n C d_La_thing_0 rfl 2 rfl ?_
  refine gw_iconst (v := 0) C d_La_thing_1 (by decide) ?_
  refine gw_aload_n C d_La_thing_2 rfl 0 rfl ?_
  refine gw_iload_n C d_La_thing_3 rfl 1 rfl ?_
  refine gw_callVC (T := T_Gw) (N := 1) (n := 1) (q0 := 0) (As := [.int x1]) (st := [.int 0, .ref qo]) (hs := [((0, 9, 12, 25), gw_IOB)]) CT (c_Gw_thing l hfl D cI cL cZ ad hF) tb_802 tb_799 tb_800 tb_801 tbI_Gw (by decide +kernel) ⟨Nat.le_of_ble_eq_true rfl, Nat.le_of_ble_eq_true rfl⟩ ⟨Nat.le_of_ble_eq_true rfl, Nat.le_of_ble_eq_true rfl⟩ [1, 2, 3, 4, 5, 6, 7, 8, 9, 10, 11, 12, 13, 14, 15, 16, 17, 18, 19, 20, 21, 22, 23, 24, 25, 26, 27, 28, 29, 30, 31, 32] [0] (wH_C ad cI cL cZ qo f σ) (wH_Cf ad cI cL cZ qo f σ) (by decide) (wH_R ad cI cL cZ qo f σ) (by decide) (by decide) rfl rfl rfl (Nat.le_of_ble_eq_true rfl) d_La_thing_4 htab (fun hk => ?_) (fun hk => ?_)
  · refine gw_eq (ws' := (wH ad cI cL cZ qo f σ')) rfl rfl ?_
    refine gw_i2l C d_La_thing_7 ?_
    refine gw_last (ws' := (wH ad cI cL cZ qo (vp_updL f (0 : Int32).toNatClampNeg r.toInt64) σ')) C 0 1 rfl rfl (vp_in_nI (n := 0) (N := 1) (by decide) (by decide)) d_La_thing_8 rfl ?_
    refine gw_goto (tgt := 15) C d_La_thing_9 (by decide) ?_
    refine gw_iconst (v := 0) C d_La_thing_15 (by decide) ?_
    exact gw_iretT CT hr rfl d_La_thing_16
  · exact absurd rfl hk
set_option maxRecDepth 100000 in
set_option maxHeartbeats 4000000 in
theorem h_La_thing_1 (l : Launch) (hfl : l.flags = pinnedFlags ++ [noTraceFlag]) (D : va_G) (cI cL cZ : ClassId) (ad : Nat → Nat) (qo : Nat) (f : Nat → Int64) {σ σ' : St} {x1 : Int32} {r : Int32} (hF : F_Gw_thing σ x1 = some ((1, r), σ')) : gw_MH l y_La_thing w_La_thing rm_La_thing D gw_cl (gw_ty cI cL cZ) [.ref (ad 0), .int x1, .ref qo] (wH ad cI cL cZ qo f σ) (wH ad cI cL cZ qo f σ') 1 (some (.int 1)) := by
  refine gw_startH (cc := b_La_thing) (nL := 4) (ret := some .int) (hh := [(0, 9, 12, 25)]) hfl (by decide) rfl (Nat.le_of_ble_eq_true rfl) (fun p e s m below meth c A CT hN hr htab => ?_)
  have C := CT.1
  refine gw_eq (lv' := [(0, .ref (ad 0)), (1, .int x1), (2, .ref qo)]) rfl rfl ?_
  refine gw_aload_n C d_La_thing_0 rfl 2 rfl ?_
  refine gw_iconst (v := 0) C d_La_thing_1 (by decide) ?_
  refine gw_aload_n C d_La_thing_2 rfl 0 rfl ?_
  refine gw_iload_n C d_La_thing_3 rfl 1 rfl ?_
  refine gw_callVC (T := T_Gw) (N := 1) (n := 1) (q0 := 0) (As := [.int x1]) (st := [.int 0, .ref qo]) (hs := [((0, 9, 12, 25), gw_IOB)]) CT (c_Gw_thing l hfl D cI cL cZ ad hF) tb_802 tb_799 tb_800 tb_801 tbI_Gw (by decide +kernel) ⟨Nat.le_of_ble_eq_true rfl, Nat.le_of_ble_eq_true rfl⟩ ⟨Nat.le_of_ble_eq_true rfl, Nat.le_of_ble_eq_true rfl⟩ [1, 2, 3, 4, 5, 6, 7, 8, 9, 10, 11, 12, 13, 14, 15, 16, 17, 18, 19, 20, 21, 22, 23, 24, 25, 26, 27, 28, 29, 30, 31, 32] [0] (wH_C ad cI cL cZ qo f σ) (wH_Cf ad cI cL cZ qo f σ) (by decide) (wH_R ad cI cL cZ qo f σ) (by decide) (by decide) rfl rfl rfl (Nat.le_of_ble_eq_true rfl) d_La_thing_4 htab (fun hk => ?_) (fun hk => ?_)
  · exact absurd hk (by decide)
  · refine ⟨?_, 12, by decide +kernel, fun x => ?_⟩
    · intro q hq
      simp only [List.mem_cons, List.not_mem_nil, or_false] at hq
      subst hq
      exact ⟨by decide, by decide, tb_390, fun h => absurd rfl h⟩
    · refine gw_eq (ws' := (wH ad cI cL cZ qo f σ')) rfl rfl ?_
      refine gw_astore_n (lv' := [(3, .ref x), (0, .ref (ad 0)), (1, .int x1), (2, .ref qo)]) C d_La_thing_12 rfl (by decide) rfl ?_
      refine gw_iconst (v := 1) C d_La_thing_13 (by decide) ?_
      exact gw_iretT CT hr rfl d_La_thing_14
set_option maxRecDepth 100000 in
set_option maxHeartbeats 4000000 in
theorem h_La_worked_0 (l : Launch) (hfl : l.flags = pinnedFlags ++ [noTraceFlag]) (D : va_G) (cI cL cZ : ClassId) (ad : Nat → Nat) (qo : Nat) (f : Nat → Int64) {σ σ' : St} {x1 : Int32} {x2 : Int32} {r : Int32} (hF : F_Gw_worked σ x1 x2 = some ((0, r), σ')) : gw_MH l y_La_worked w_La_worked rm_La_worked D gw_cl (gw_ty cI cL cZ) [.ref (ad 0), .int x1, .int x2, .ref qo] (wH ad cI cL cZ qo f σ) (wH ad cI cL cZ qo (vp_updL f (0 : Int32).toNatClampNeg r.toInt64) σ') 0 (some (.int 0)) := by
  refine gw_startH (cc := b_La_worked) (nL := 5) (ret := some .int) (hh := [(0, 10, 13, 25), (0, 10, 17, 19)]) hfl (by decide) rfl (Nat.le_of_ble_eq_true rfl) (fun p e s m below meth c A CT hN hr htab => ?_)
  have C := CT.1
  refine gw_eq (lv' := [(0, .ref (ad 0)), (1, .int x1), (2, .int x2), (3, .ref qo)]) rfl rfl ?_
  refine gw_aload_n C d_La_worked_0 rfl 3 rfl ?_
  refine gw_iconst (v := 0) C d_La_worked_1 (by decide) ?_
  refine gw_aload_n C d_La_worked_2 rfl 0 rfl ?_
  refine gw_iload_n C d_La_worked_3 rfl 1 rfl ?_
  refine gw_iload_n C d_La_worked_4 rfl 2 rfl ?_
  refine gw_callVC (T := T_Gw) (N := 1) (n := 2) (q0 := 0) (As := [.int x1, .int x2]) (st := [.int 0, .ref qo]) (hs := [((0, 10, 13, 25), gw_IOB), ((0, 10, 17, 19), gw_IAE)]) CT (c_Gw_worked l hfl D cI cL cZ ad hF) tb_816 tb_813 tb_814 tb_815 tbI_Gw (by decide +kernel) ⟨Nat.le_of_ble_eq_true rfl, Nat.le_of_ble_eq_true rfl⟩ ⟨Nat.le_of_ble_eq_true rfl, Nat.le_of_ble_eq_true rfl⟩ [1, 2, 3, 4, 5, 6, 7, 8, 9, 10, 11, 12, 13, 14, 15, 16, 17, 18, 19, 20, 21, 22, 23, 24, 25, 26, 27, 28, 29, 30, 31, 32] [0] (wH_C ad cI cL cZ qo f σ) (wH_Cf ad cI cL cZ qo f σ) (by decide) (wH_R ad cI cL cZ qo f σ) (by decide) (by decide) rfl rfl rfl (Nat.le_of_ble_eq_true rfl) d_La_worked_5 htab (fun hk => ?_) (fun hk => ?_)
  · refine gw_eq (ws' := (wH ad cI cL cZ qo f σ')) rfl rfl ?_
    refine gw_i2l C d_La_worked_8 ?_
    refine gw_last (ws' := (wH ad cI cL cZ qo (vp_updL f (0 : Int32).toNatClampNeg r.toInt64) σ')) C 0 1 rfl rfl (vp_in_nI (n := 0) (N := 1) (by decide) (by decide)) d_La_worked_9 rfl ?_
    refine gw_goto (tgt := 21) C d_La_worked_10 (by decide) ?_
    refine gw_iconst (v := 0) C d_La_worked_21 (by decide) ?_
    exact gw_iretT CT hr rfl d_La_worked_22
  · exact absurd rfl hk
set_option maxRecDepth 100000 in
set_option maxHeartbeats 4000000 in
theorem h_La_worked_1 (l : Launch) (hfl : l.flags = pinnedFlags ++ [noTraceFlag]) (D : va_G) (cI cL cZ : ClassId) (ad : Nat → Nat) (qo : Nat) (f : Nat → Int64) {σ σ' : St} {x1 : Int32} {x2 : Int32} {r : Int32} (hF : F_Gw_worked σ x1 x2 = some ((1, r), σ')) : gw_MH l y_La_worked w_La_worked rm_La_worked D gw_cl (gw_ty cI cL cZ) [.ref (ad 0), .int x1, .int x2, .ref qo] (wH ad cI cL cZ qo f σ) (wH ad cI cL cZ qo f σ') 1 (some (.int 1)) := by
  refine gw_startH (cc := b_La_worked) (nL := 5) (ret := some .int) (hh := [(0, 10, 13, 25), (0, 10, 17, 19)]) hfl (by decide) rfl (Nat.le_of_ble_eq_true rfl) (fun p e s m below meth c A CT hN hr htab => ?_)
  have C := CT.1
  refine gw_eq (lv' := [(0, .ref (ad 0)), (1, .int x1), (2, .int x2), (3, .ref qo)]) rfl rfl ?_
  refine gw_aload_n C d_La_worked_0 rfl 3 rfl ?_
  refine gw_iconst (v := 0) C d_La_worked_1 (by decide) ?_
  refine gw_aload_n C d_La_worked_2 rfl 0 rfl ?_
  refine gw_iload_n C d_La_worked_3 rfl 1 rfl ?_
  refine gw_iload_n C d_La_worked_4 rfl 2 rfl ?_
  refine gw_callVC (T := T_Gw) (N := 1) (n := 2) (q0 := 0) (As := [.int x1, .int x2]) (st := [.int 0, .ref qo]) (hs := [((0, 10, 13, 25), gw_IOB), ((0, 10, 17, 19), gw_IAE)]) CT (c_Gw_worked l hfl D cI cL cZ ad hF) tb_816 tb_813 tb_814 tb_815 tbI_Gw (by decide +kernel) ⟨Nat.le_of_ble_eq_true rfl, Nat.le_of_ble_eq_true rfl⟩ ⟨Nat.le_of_ble_eq_true rfl, Nat.le_of_ble_eq_true rfl⟩ [1, 2, 3, 4, 5, 6, 7, 8, 9, 10, 11, 12, 13, 14, 15, 16, 17, 18, 19, 20, 21, 22, 23, 24, 25, 26, 27, 28, 29, 30, 31, 32] [0] (wH_C ad cI cL cZ qo f σ) (wH_Cf ad cI cL cZ qo f σ) (by decide) (wH_R ad cI cL cZ qo f σ) (by decide) (by decide) rfl rfl rfl (Nat.le_of_ble_eq_true rfl) d_La_worked_5 htab (fun hk => ?_) (fun hk => ?_)
  · exact absurd hk (by decide)
  · refine ⟨?_, 13, by decide +kernel, fun x => ?_⟩
    · intro q hq
      simp only [List.mem_cons, List.not_mem_nil, or_false] at hq
      rcases hq with rfl | rfl
      · exact ⟨by decide, by decide, tb_390, fun h => absurd rfl h⟩
      · exact ⟨by decide, by decide, tb_362, fun _ => hN.2.2.2.2.2⟩
    · refine gw_eq (ws' := (wH ad cI cL cZ qo f σ')) rfl rfl ?_
      refine gw_astore (lv' := [(4, .ref x), (0, .ref (ad 0)), (1, .int x1), (2, .int x2), (3, .ref qo)]) C d_La_worked_13 (by decide) rfl ?_
      refine gw_iconst (v := 1) C d_La_worked_15 (by decide) ?_
      exact gw_iretT CT hr rfl d_La_worked_16
set_option maxRecDepth 100000 in
set_option maxHeartbeats 4000000 in
theorem h_La_worked_3 (l : Launch) (hfl : l.flags = pinnedFlags ++ [noTraceFlag]) (D : va_G) (cI cL cZ : ClassId) (ad : Nat → Nat) (qo : Nat) (f : Nat → Int64) {σ σ' : St} {x1 : Int32} {x2 : Int32} {r : Int32} (hF : F_Gw_worked σ x1 x2 = some ((3, r), σ')) : gw_MH l y_La_worked w_La_worked rm_La_worked D gw_cl (gw_ty cI cL cZ) [.ref (ad 0), .int x1, .int x2, .ref qo] (wH ad cI cL cZ qo f σ) (wH ad cI cL cZ qo f σ') 3 (some (.int 2)) := by
  refine gw_startH (cc := b_La_worked) (nL := 5) (ret := some .int) (hh := [(0, 10, 13, 25), (0, 10, 17, 19)]) hfl (by decide) rfl (Nat.le_of_ble_eq_true rfl) (fun p e s m below meth c A CT hN hr htab => ?_)
  have C := CT.1
  refine gw_eq (lv' := [(0, .ref (ad 0)), (1, .int x1), (2, .int x2), (3, .ref qo)]) rfl rfl ?_
  refine gw_aload_n C d_La_worked_0 rfl 3 rfl ?_
  refine gw_iconst (v := 0) C d_La_worked_1 (by decide) ?_
  refine gw_aload_n C d_La_worked_2 rfl 0 rfl ?_
  refine gw_iload_n C d_La_worked_3 rfl 1 rfl ?_
  refine gw_iload_n C d_La_worked_4 rfl 2 rfl ?_
  refine gw_callVC (T := T_Gw) (N := 1) (n := 2) (q0 := 0) (As := [.int x1, .int x2]) (st := [.int 0, .ref qo]) (hs := [((0, 10, 13, 25), gw_IOB), ((0, 10, 17, 19), gw_IAE)]) CT (c_Gw_worked l hfl D cI cL cZ ad hF) tb_816 tb_813 tb_814 tb_815 tbI_Gw (by decide +kernel) ⟨Nat.le_of_ble_eq_true rfl, Nat.le_of_ble_eq_true rfl⟩ ⟨Nat.le_of_ble_eq_true rfl, Nat.le_of_ble_eq_true rfl⟩ [1, 2, 3, 4, 5, 6, 7, 8, 9, 10, 11, 12, 13, 14, 15, 16, 17, 18, 19, 20, 21, 22, 23, 24, 25, 26, 27, 28, 29, 30, 31, 32] [0] (wH_C ad cI cL cZ qo f σ) (wH_Cf ad cI cL cZ qo f σ) (by decide) (wH_R ad cI cL cZ qo f σ) (by decide) (by decide) rfl rfl rfl (Nat.le_of_ble_eq_true rfl) d_La_worked_5 htab (fun hk => ?_) (fun hk => ?_)
  · exact absurd hk (by decide)
  · refine ⟨?_, 17, by decide +kernel, fun x => ?_⟩
    · intro q hq
      simp only [List.mem_cons, List.not_mem_nil, or_false] at hq
      rcases hq with rfl | rfl
      · exact ⟨by decide, by decide, tb_390, fun _ => hN.2.1⟩
      · exact ⟨by decide, by decide, tb_362, fun h => absurd rfl h⟩
    · refine gw_eq (ws' := (wH ad cI cL cZ qo f σ')) rfl rfl ?_
      refine gw_astore (lv' := [(4, .ref x), (0, .ref (ad 0)), (1, .int x1), (2, .int x2), (3, .ref qo)]) C d_La_worked_17 (by decide) rfl ?_
      refine gw_iconst (v := 2) C d_La_worked_19 (by decide) ?_
      exact gw_iretT CT hr rfl d_La_worked_20
set_option maxRecDepth 100000 in
set_option maxHeartbeats 4000000 in
theorem h_La_ring_0 (l : Launch) (hfl : l.flags = pinnedFlags ++ [noTraceFlag]) (D : va_G) (cI cL cZ : ClassId) (ad : Nat → Nat) (qo : Nat) (f : Nat → Int64) {σ σ' : St} {x1 : Int32} {r : Int32} (hF : F_Gw_ring σ x1 = some ((0, r), σ')) : gw_MH l y_La_ring w_La_ring rm_La_ring D gw_cl (gw_ty cI cL cZ) [.ref (ad 0), .int x1, .ref qo] (wH ad cI cL cZ qo f σ) (wH ad cI cL cZ qo (vp_updL f (0 : Int32).toNatClampNeg r.toInt64) σ') 0 (some (.int 0)) := by
  refine gw_startH (cc := b_La_ring) (nL := 4) (ret := some .int) (hh := [(0, 9, 12, 25)]) hfl (by decide) rfl (Nat.le_of_ble_eq_true rfl) (fun p e s m below meth c A CT hN hr htab => ?_)
  have C := CT.1
  refine gw_eq (lv' := [(0, .ref (ad 0)), (1, .int x1), (2, .ref qo)]) rfl rfl ?_
  refine gw_aload_n C d_La_ring_0 rfl 2 rfl ?_
  refine gw_iconst (v := 0) C d_La_ring_1 (by decide) ?_
  refine gw_aload_n C d_La_ring_2 rfl 0 rfl ?_
  refine gw_iload_n C d_La_ring_3 rfl 1 rfl ?_
  refine gw_callVC (T := T_Gw) (N := 1) (n := 1) (q0 := 0) (As := [.int x1]) (st := [.int 0, .ref qo]) (hs := [((0, 9, 12, 25), gw_IOB)]) CT (c_Gw_ring l hfl D cI cL cZ ad hF) tb_833 tb_830 tb_831 tb_832 tbI_Gw (by decide +kernel) ⟨Nat.le_of_ble_eq_true rfl, Nat.le_of_ble_eq_true rfl⟩ ⟨Nat.le_of_ble_eq_true rfl, Nat.le_of_ble_eq_true rfl⟩ [1, 2, 3, 4, 5, 6, 7, 8, 9, 10, 11, 12, 13, 14, 15, 16, 17, 18, 19, 20, 21, 22, 23, 24, 25, 26, 27, 28, 29, 30, 31, 32] [0] (wH_C ad cI cL cZ qo f σ) (wH_Cf ad cI cL cZ qo f σ) (by decide) (wH_R ad cI cL cZ qo f σ) (by decide) (by decide) rfl rfl rfl (Nat.le_of_ble_eq_true rfl) d_La_ring_4 htab (fun hk => ?_) (fun hk => ?_)
  · refine gw_eq (ws' := (wH ad cI cL cZ qo f σ')) rfl rfl ?_
    refine gw_i2l C d_La_ring_7 ?_
    refine gw_last (ws' := (wH ad cI cL cZ qo (vp_updL f (0 : Int32).toNatClampNeg r.toInt64) σ')) C 0 1 rfl rfl (vp_in_nI (n := 0) (N := 1) (by decide) (by decide)) d_La_ring_8 rfl ?_
    refine gw_goto (tgt := 15) C d_La_ring_9 (by decide) ?_
    refine gw_iconst (v := 0) C d_La_ring_15 (by decide) ?_
    exact gw_iretT CT hr rfl d_La_ring_16
  · exact absurd rfl hk
set_option maxRecDepth 100000 in
set_option maxHeartbeats 4000000 in
theorem h_La_ring_1 (l : Launch) (hfl : l.flags = pinnedFlags ++ [noTraceFlag]) (D : va_G) (cI cL cZ : ClassId) (ad : Nat → Nat) (qo : Nat) (f : Nat → Int64) {σ σ' : St} {x1 : Int32} {r : Int32} (hF : F_Gw_ring σ x1 = some ((1, r), σ')) : gw_MH l y_La_ring w_La_ring rm_La_ring D gw_cl (gw_ty cI cL cZ) [.ref (ad 0), .int x1, .ref qo] (wH ad cI cL cZ qo f σ) (wH ad cI cL cZ qo f σ') 1 (some (.int 1)) := by
  refine gw_startH (cc := b_La_ring) (nL := 4) (ret := some .int) (hh := [(0, 9, 12, 25)]) hfl (by decide) rfl (Nat.le_of_ble_eq_true rfl) (fun p e s m below meth c A CT hN hr htab => ?_)
  have C := CT.1
  refine gw_eq (lv' := [(0, .ref (ad 0)), (1, .int x1), (2, .ref qo)]) rfl rfl ?_
  refine gw_aload_n C d_La_ring_0 rfl 2 rfl ?_
  refine gw_iconst (v := 0) C d_La_ring_1 (by decide) ?_
  refine gw_aload_n C d_La_ring_2 rfl 0 rfl ?_
  refine gw_iload_n C d_La_ring_3 rfl 1 rfl ?_
  refine gw_callVC (T := T_Gw) (N := 1) (n := 1) (q0 := 0) (As := [.int x1]) (st := [.int 0, .ref qo]) (hs := [((0, 9, 12, 25), gw_IOB)]) CT (c_Gw_ring l hfl D cI cL cZ ad hF) tb_833 tb_830 tb_831 tb_832 tbI_Gw (by decide +kernel) ⟨Nat.le_of_ble_eq_true rfl, Nat.le_of_ble_eq_true rfl⟩ ⟨Nat.le_of_ble_eq_true rfl, Nat.le_of_ble_eq_true rfl⟩ [1, 2, 3, 4, 5, 6, 7, 8, 9, 10, 11, 12, 13, 14, 15, 16, 17, 18, 19, 20, 21, 22, 23, 24, 25, 26, 27, 28, 29, 30, 31, 32] [0] (wH_C ad cI cL cZ qo f σ) (wH_Cf ad cI cL cZ qo f σ) (by decide) (wH_R ad cI cL cZ qo f σ) (by decide) (by decide) rfl rfl rfl (Nat.le_of_ble_eq_true rfl) d_La_ring_4 htab (fun hk => ?_) (fun hk => ?_)
  · exact absurd hk (by decide)
  · refine ⟨?_, 12, by decide +kernel, fun x => ?_⟩
    · intro q hq
      simp only [List.mem_cons, List.not_mem_nil, or_false] at hq
      subst hq
      exact ⟨by decide, by decide, tb_390, fun h => absurd rfl h⟩
    · refine gw_eq (ws' := (wH ad cI cL cZ qo f σ')) rfl rfl ?_
      refine gw_astore_n (lv' := [(3, .ref x), (0, .ref (ad 0)), (1, .int x1), (2, .ref qo)]) C d_La_ring_12 rfl (by decide) rfl ?_
      refine gw_iconst (v := 1) C d_La_ring_13 (by decide) ?_
      exact gw_iretT CT hr rfl d_La_ring_14
set_option maxRecDepth 100000 in
set_option maxHeartbeats 4000000 in
theorem h_La_entry_0 (l : Launch) (hfl : l.flags = pinnedFlags ++ [noTraceFlag]) (D : va_G) (cI cL cZ : ClassId) (ad : Nat → Nat) (qo : Nat) (f : Nat → Int64) {σ σ' : St} {x1 : Int32} {r : Int32} (hF : F_Gw_entry σ x1 = some ((0, r), σ')) : gw_MH l y_La_entry w_La_entry rm_La_entry D gw_cl (gw_ty cI cL cZ) [.ref (ad 0), .int x1, .ref qo] (wH ad cI cL cZ qo f σ) (wH ad cI cL cZ qo (vp_updL f (0 : Int32).toNatClampNeg r.toInt64) σ') 0 (some (.int 0)) := by
  refine gw_startH (cc := b_La_entry) (nL := 4) (ret := some .int) (hh := [(0, 9, 12, 25)]) hfl (by decide) rfl (Nat.le_of_ble_eq_true rfl) (fun p e s m below meth c A CT hN hr htab => ?_)
  have C := CT.1
  refine gw_eq (lv' := [(0, .ref (ad 0)), (1, .int x1), (2, .ref qo)]) rfl rfl ?_
  refine gw_aload_n C d_La_entry_0 rfl 2 rfl ?_
  refine gw_iconst (v := 0) C d_La_entry_1 (by decide) ?_
  refine gw_aload_n C d_La_entry_2 rfl 0 rfl ?_
  refine gw_iload_n C d_La_entry_3 rfl 1 rfl ?_
  refine gw_callVC (T := T_Gw) (N := 1) (n := 1) (q0 := 0) (As := [.int x1]) (st := [.int 0, .ref qo]) (hs := [((0, 9, 12, 25), gw_IOB)]) CT (c_Gw_entry l hfl D cI cL cZ ad hF) tb_845 tb_842 tb_843 tb_844 tbI_Gw (by decide +kernel) ⟨Nat.le_of_ble_eq_true rfl, Nat.le_of_ble_eq_true rfl⟩ ⟨Nat.le_of_ble_eq_true rfl, Nat.le_of_ble_eq_true rfl⟩ [1, 2, 3, 4, 5, 6, 7, 8, 9, 10, 11, 12, 13, 14, 15, 16, 17, 18, 19, 20, 21, 22, 23, 24, 25, 26, 27, 28, 29, 30, 31, 32] [0] (wH_C ad cI cL cZ qo f σ) (wH_Cf ad cI cL cZ qo f σ) (by decide) (wH_R ad cI cL cZ qo f σ) (by decide) (by decide) rfl rfl rfl (Nat.le_of_ble_eq_true rfl) d_La_entry_4 htab (fun hk => ?_) (fun hk => ?_)
  · refine gw_eq (ws' := (wH ad cI cL cZ qo f σ')) rfl rfl ?_
    refine gw_i2l C d_La_entry_7 ?_
    refine gw_last (ws' := (wH ad cI cL cZ qo (vp_updL f (0 : Int32).toNatClampNeg r.toInt64) σ')) C 0 1 rfl rfl (vp_in_nI (n := 0) (N := 1) (by decide) (by decide)) d_La_entry_8 rfl ?_
    refine gw_goto (tgt := 15) C d_La_entry_9 (by decide) ?_
    refine gw_iconst (v := 0) C d_La_entry_15 (by decide) ?_
    exact gw_iretT CT hr rfl d_La_entry_16
  · exact absurd rfl hk
set_option maxRecDepth 100000 in
set_option maxHeartbeats 4000000 in
theorem h_La_entry_1 (l : Launch) (hfl : l.flags = pinnedFlags ++ [noTraceFlag]) (D : va_G) (cI cL cZ : ClassId) (ad : Nat → Nat) (qo : Nat) (f : Nat → Int64) {σ σ' : St} {x1 : Int32} {r : Int32} (hF : F_Gw_entry σ x1 = some ((1, r), σ')) : gw_MH l y_La_entry w_La_entry rm_La_entry D gw_cl (gw_ty cI cL cZ) [.ref (ad 0), .int x1, .ref qo] (wH ad cI cL cZ qo f σ) (wH ad cI cL cZ qo f σ') 1 (some (.int 1)) := by
  refine gw_startH (cc := b_La_entry) (nL := 4) (ret := some .int) (hh := [(0, 9, 12, 25)]) hfl (by decide) rfl (Nat.le_of_ble_eq_true rfl) (fun p e s m below meth c A CT hN hr htab => ?_)
  have C := CT.1
  refine gw_eq (lv' := [(0, .ref (ad 0)), (1, .int x1), (2, .ref qo)]) rfl rfl ?_
  refine gw_aload_n C d_La_entry_0 rfl 2 rfl ?_
  refine gw_iconst (v := 0) C d_La_entry_1 (by decide) ?_
  refine gw_aload_n C d_La_entry_2 rfl 0 rfl ?_
  refine gw_iload_n C d_La_entry_3 rfl 1 rfl ?_
  refine gw_callVC (T := T_Gw) (N := 1) (n := 1) (q0 := 0) (As := [.int x1]) (st := [.int 0, .ref qo]) (hs := [((0, 9, 12, 25), gw_IOB)]) CT (c_Gw_entry l hfl D cI cL cZ ad hF) tb_845 tb_842 tb_843 tb_844 tbI_Gw (by decide +kernel) ⟨Nat.le_of_ble_eq_true rfl, Nat.le_of_ble_eq_true rfl⟩ ⟨Nat.le_of_ble_eq_true rfl, Nat.le_of_ble_eq_true rfl⟩ [1, 2, 3, 4, 5, 6, 7, 8, 9, 10, 11, 12, 13, 14, 15, 16, 17, 18, 19, 20, 21, 22, 23, 24, 25, 26, 27, 28, 29, 30, 31, 32] [0] (wH_C ad cI cL cZ qo f σ) (wH_Cf ad cI cL cZ qo f σ) (by decide) (wH_R ad cI cL cZ qo f σ) (by decide) (by decide) rfl rfl rfl (Nat.le_of_ble_eq_true rfl) d_La_entry_4 htab (fun hk => ?_) (fun hk => ?_)
  · exact absurd hk (by decide)
  · refine ⟨?_, 12, by decide +kernel, fun x => ?_⟩
    · intro q hq
      simp only [List.mem_cons, List.not_mem_nil, or_false] at hq
      subst hq
      exact ⟨by decide, by decide, tb_390, fun h => absurd rfl h⟩
    · refine gw_eq (ws' := (wH ad cI cL cZ qo f σ')) rfl rfl ?_
      refine gw_astore_n (lv' := [(3, .ref x), (0, .ref (ad 0)), (1, .int x1), (2, .ref qo)]) C d_La_entry_12 rfl (by decide) rfl ?_
      refine gw_iconst (v := 1) C d_La_entry_13 (by decide) ?_
      exact gw_iretT CT hr rfl d_La_entry_14
set_option maxRecDepth 100000 in
set_option maxHeartbeats 4000000 in
theorem h_La_collect_0 (l : Launch) (hfl : l.flags = pinnedFlags ++ [noTraceFlag]) (D : va_G) (cI cL cZ : ClassId) (ad : Nat → Nat) (qo : Nat) (f : Nat → Int64) {σ σ' : St}  {r : Int32} (hF : F_Gw_collect σ  = some ((0, r), σ')) : gw_MH l y_La_collect w_La_collect rm_La_collect D gw_cl (gw_ty cI cL cZ) [.ref (ad 0), .ref qo] (wH ad cI cL cZ qo f σ) (wH ad cI cL cZ qo (vp_updL f (0 : Int32).toNatClampNeg r.toInt64) σ') 0 (some (.int 0)) := by
  refine gw_startH (cc := b_La_collect) (nL := 3) (ret := some .int) (hh := [(0, 8, 11, 13)]) hfl (by decide) rfl (Nat.le_of_ble_eq_true rfl) (fun p e s m below meth c A CT hN hr htab => ?_)
  have C := CT.1
  refine gw_eq (lv' := [(0, .ref (ad 0)), (1, .ref qo)]) rfl rfl ?_
  refine gw_aload_n C d_La_collect_0 rfl 1 rfl ?_
  refine gw_iconst (v := 0) C d_La_collect_1 (by decide) ?_
  refine gw_aload_n C d_La_collect_2 rfl 0 rfl ?_
  refine gw_callVC (T := T_Gw) (N := 1) (n := 0) (q0 := 0) (As := []) (st := [.int 0, .ref qo]) (hs := [((0, 8, 11, 13), gw_ISE)]) CT (c_Gw_collect l hfl D cI cL cZ ad hF) tb_855 tb_852 tb_853 tb_854 tbI_Gw (by decide +kernel) ⟨Nat.le_of_ble_eq_true rfl, Nat.le_of_ble_eq_true rfl⟩ ⟨Nat.le_of_ble_eq_true rfl, Nat.le_of_ble_eq_true rfl⟩ [1, 2, 3, 4, 5, 6, 7, 8, 9, 10, 11, 12, 13, 14, 15, 16, 17, 18, 19, 20, 21, 22, 23, 24, 25, 26, 27, 28, 29, 30, 31, 32] [0] (wH_C ad cI cL cZ qo f σ) (wH_Cf ad cI cL cZ qo f σ) (by decide) (wH_R ad cI cL cZ qo f σ) (by decide) (by decide) rfl rfl rfl (Nat.le_of_ble_eq_true rfl) d_La_collect_3 htab (fun hk => ?_) (fun hk => ?_)
  · refine gw_eq (ws' := (wH ad cI cL cZ qo f σ')) rfl rfl ?_
    refine gw_i2l C d_La_collect_6 ?_
    refine gw_last (ws' := (wH ad cI cL cZ qo (vp_updL f (0 : Int32).toNatClampNeg r.toInt64) σ')) C 0 1 rfl rfl (vp_in_nI (n := 0) (N := 1) (by decide) (by decide)) d_La_collect_7 rfl ?_
    refine gw_goto (tgt := 14) C d_La_collect_8 (by decide) ?_
    refine gw_iconst (v := 0) C d_La_collect_14 (by decide) ?_
    exact gw_iretT CT hr rfl d_La_collect_15
  · exact absurd rfl hk
set_option maxRecDepth 100000 in
set_option maxHeartbeats 4000000 in
theorem h_La_collect_2 (l : Launch) (hfl : l.flags = pinnedFlags ++ [noTraceFlag]) (D : va_G) (cI cL cZ : ClassId) (ad : Nat → Nat) (qo : Nat) (f : Nat → Int64) {σ σ' : St}  {r : Int32} (hF : F_Gw_collect σ  = some ((2, r), σ')) : gw_MH l y_La_collect w_La_collect rm_La_collect D gw_cl (gw_ty cI cL cZ) [.ref (ad 0), .ref qo] (wH ad cI cL cZ qo f σ) (wH ad cI cL cZ qo f σ') 2 (some (.int 1)) := by
  refine gw_startH (cc := b_La_collect) (nL := 3) (ret := some .int) (hh := [(0, 8, 11, 13)]) hfl (by decide) rfl (Nat.le_of_ble_eq_true rfl) (fun p e s m below meth c A CT hN hr htab => ?_)
  have C := CT.1
  refine gw_eq (lv' := [(0, .ref (ad 0)), (1, .ref qo)]) rfl rfl ?_
  refine gw_aload_n C d_La_collect_0 rfl 1 rfl ?_
  refine gw_iconst (v := 0) C d_La_collect_1 (by decide) ?_
  refine gw_aload_n C d_La_collect_2 rfl 0 rfl ?_
  refine gw_callVC (T := T_Gw) (N := 1) (n := 0) (q0 := 0) (As := []) (st := [.int 0, .ref qo]) (hs := [((0, 8, 11, 13), gw_ISE)]) CT (c_Gw_collect l hfl D cI cL cZ ad hF) tb_855 tb_852 tb_853 tb_854 tbI_Gw (by decide +kernel) ⟨Nat.le_of_ble_eq_true rfl, Nat.le_of_ble_eq_true rfl⟩ ⟨Nat.le_of_ble_eq_true rfl, Nat.le_of_ble_eq_true rfl⟩ [1, 2, 3, 4, 5, 6, 7, 8, 9, 10, 11, 12, 13, 14, 15, 16, 17, 18, 19, 20, 21, 22, 23, 24, 25, 26, 27, 28, 29, 30, 31, 32] [0] (wH_C ad cI cL cZ qo f σ) (wH_Cf ad cI cL cZ qo f σ) (by decide) (wH_R ad cI cL cZ qo f σ) (by decide) (by decide) rfl rfl rfl (Nat.le_of_ble_eq_true rfl) d_La_collect_3 htab (fun hk => ?_) (fun hk => ?_)
  · exact absurd hk (by decide)
  · refine ⟨?_, 11, by decide +kernel, fun x => ?_⟩
    · intro q hq
      simp only [List.mem_cons, List.not_mem_nil, or_false] at hq
      subst hq
      exact ⟨by decide, by decide, tb_270, fun h => absurd rfl h⟩
    · refine gw_eq (ws' := (wH ad cI cL cZ qo f σ')) rfl rfl ?_
      refine gw_astore_n (lv' := [(2, .ref x), (0, .ref (ad 0)), (1, .ref qo)]) C d_La_collect_11 rfl (by decide) rfl ?_
      refine gw_iconst (v := 1) C d_La_collect_12 (by decide) ?_
      exact gw_iretT CT hr rfl d_La_collect_13
set_option maxRecDepth 100000 in
set_option maxHeartbeats 4000000 in
theorem h_La_every_0 (l : Launch) (hfl : l.flags = pinnedFlags ++ [noTraceFlag]) (D : va_G) (cI cL cZ : ClassId) (ad : Nat → Nat) (qo : Nat) (f : Nat → Int64) {σ σ' : St} {x1 : Int32} {r : Int32} (hF : F_Gw_every σ x1 = some ((0, r), σ')) : gw_MH l y_La_every w_La_every rm_La_every D gw_cl (gw_ty cI cL cZ) [.ref (ad 0), .int x1, .ref qo] (wH ad cI cL cZ qo f σ) (wH ad cI cL cZ qo (vp_updL f (0 : Int32).toNatClampNeg r.toInt64) σ') 0 (some (.int 0)) := by
  refine gw_startH (cc := b_La_every) (nL := 4) (ret := some .int) (hh := [(0, 9, 12, 19)]) hfl (by decide) rfl (Nat.le_of_ble_eq_true rfl) (fun p e s m below meth c A CT hN hr htab => ?_)
  have C := CT.1
  refine gw_eq (lv' := [(0, .ref (ad 0)), (1, .int x1), (2, .ref qo)]) rfl rfl ?_
  refine gw_aload_n C d_La_every_0 rfl 2 rfl ?_
  refine gw_iconst (v := 0) C d_La_every_1 (by decide) ?_
  refine gw_aload_n C d_La_every_2 rfl 0 rfl ?_
  refine gw_iload_n C d_La_every_3 rfl 1 rfl ?_
  refine gw_callVC (T := T_Gw) (N := 1) (n := 1) (q0 := 0) (As := [.int x1]) (st := [.int 0, .ref qo]) (hs := [((0, 9, 12, 19), gw_IAE)]) CT (c_Gw_every l hfl D cI cL cZ ad hF) tb_863 tb_860 tb_861 tb_862 tbI_Gw (by decide +kernel) ⟨Nat.le_of_ble_eq_true rfl, Nat.le_of_ble_eq_true rfl⟩ ⟨Nat.le_of_ble_eq_true rfl, Nat.le_of_ble_eq_true rfl⟩ [1, 2, 3, 4, 5, 6, 7, 8, 9, 10, 11, 12, 13, 14, 15, 16, 17, 18, 19, 20, 21, 22, 23, 24, 25, 26, 27, 28, 29, 30, 31, 32] [0] (wH_C ad cI cL cZ qo f σ) (wH_Cf ad cI cL cZ qo f σ) (by decide) (wH_R ad cI cL cZ qo f σ) (by decide) (by decide) rfl rfl rfl (Nat.le_of_ble_eq_true rfl) d_La_every_4 htab (fun hk => ?_) (fun hk => ?_)
  · refine gw_eq (ws' := (wH ad cI cL cZ qo f σ')) rfl rfl ?_
    refine gw_i2l C d_La_every_7 ?_
    refine gw_last (ws' := (wH ad cI cL cZ qo (vp_updL f (0 : Int32).toNatClampNeg r.toInt64) σ')) C 0 1 rfl rfl (vp_in_nI (n := 0) (N := 1) (by decide) (by decide)) d_La_every_8 rfl ?_
    refine gw_goto (tgt := 15) C d_La_every_9 (by decide) ?_
    refine gw_iconst (v := 0) C d_La_every_15 (by decide) ?_
    exact gw_iretT CT hr rfl d_La_every_16
  · exact absurd rfl hk
set_option maxRecDepth 100000 in
set_option maxHeartbeats 4000000 in
theorem h_La_every_3 (l : Launch) (hfl : l.flags = pinnedFlags ++ [noTraceFlag]) (D : va_G) (cI cL cZ : ClassId) (ad : Nat → Nat) (qo : Nat) (f : Nat → Int64) {σ σ' : St} {x1 : Int32} {r : Int32} (hF : F_Gw_every σ x1 = some ((3, r), σ')) : gw_MH l y_La_every w_La_every rm_La_every D gw_cl (gw_ty cI cL cZ) [.ref (ad 0), .int x1, .ref qo] (wH ad cI cL cZ qo f σ) (wH ad cI cL cZ qo f σ') 3 (some (.int 1)) := by
  refine gw_startH (cc := b_La_every) (nL := 4) (ret := some .int) (hh := [(0, 9, 12, 19)]) hfl (by decide) rfl (Nat.le_of_ble_eq_true rfl) (fun p e s m below meth c A CT hN hr htab => ?_)
  have C := CT.1
  refine gw_eq (lv' := [(0, .ref (ad 0)), (1, .int x1), (2, .ref qo)]) rfl rfl ?_
  refine gw_aload_n C d_La_every_0 rfl 2 rfl ?_
  refine gw_iconst (v := 0) C d_La_every_1 (by decide) ?_
  refine gw_aload_n C d_La_every_2 rfl 0 rfl ?_
  refine gw_iload_n C d_La_every_3 rfl 1 rfl ?_
  refine gw_callVC (T := T_Gw) (N := 1) (n := 1) (q0 := 0) (As := [.int x1]) (st := [.int 0, .ref qo]) (hs := [((0, 9, 12, 19), gw_IAE)]) CT (c_Gw_every l hfl D cI cL cZ ad hF) tb_863 tb_860 tb_861 tb_862 tbI_Gw (by decide +kernel) ⟨Nat.le_of_ble_eq_true rfl, Nat.le_of_ble_eq_true rfl⟩ ⟨Nat.le_of_ble_eq_true rfl, Nat.le_of_ble_eq_true rfl⟩ [1, 2, 3, 4, 5, 6, 7, 8, 9, 10, 11, 12, 13, 14, 15, 16, 17, 18, 19, 20, 21, 22, 23, 24, 25, 26, 27, 28, 29, 30, 31, 32] [0] (wH_C ad cI cL cZ qo f σ) (wH_Cf ad cI cL cZ qo f σ) (by decide) (wH_R ad cI cL cZ qo f σ) (by decide) (by decide) rfl rfl rfl (Nat.le_of_ble_eq_true rfl) d_La_every_4 htab (fun hk => ?_) (fun hk => ?_)
  · exact absurd hk (by decide)
  · refine ⟨?_, 12, by decide +kernel, fun x => ?_⟩
    · intro q hq
      simp only [List.mem_cons, List.not_mem_nil, or_false] at hq
      subst hq
      exact ⟨by decide, by decide, tb_362, fun h => absurd rfl h⟩
    · refine gw_eq (ws' := (wH ad cI cL cZ qo f σ')) rfl rfl ?_
      refine gw_astore_n (lv' := [(3, .ref x), (0, .ref (ad 0)), (1, .int x1), (2, .ref qo)]) C d_La_every_12 rfl (by decide) rfl ?_
      refine gw_iconst (v := 1) C d_La_every_13 (by decide) ?_
      exact gw_iretT CT hr rfl d_La_every_14
