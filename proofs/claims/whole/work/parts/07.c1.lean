set_option maxRecDepth 100000 in
set_option maxHeartbeats 4000000 in
theorem c_Pl_clear (l : Launch) (D : va_G) (cI cL cZ : ClassId) (ad : Nat → Nat) {σ : St} {σ' : St} (hF : F_Pl_clear σ = some σ') : gw_M l y_Pl_clear w_Pl_clear rm_Pl_clear D gw_cl (gw_ty cI cL cZ) [.ref (ad 3)] (wC ad cI cL cZ σ) (wC ad cI cL cZ σ') none := by
  refine gw_start (cc := b_Pl_clear) (nL := 1) (ret := none) (by decide) rfl (Nat.le_of_ble_eq_true rfl) (fun p e s m below meth c A C hr _ => ?_)
  refine gw_eq (lv' := [(0, .ref (ad 3))]) rfl rfl ?_
  unfold F_Pl_clear at hF
  refine gw_aload_n C d_Pl_clear_0 rfl 0 rfl ?_
  refine gw_iconst (v := 0) C d_Pl_clear_1 (by decide) ?_
  refine fp_Pl_21 C d_Pl_clear_2 ?_
  cases hF
  exact gw_vret C hr rfl d_Pl_clear_5
set_option maxRecDepth 100000 in
set_option maxHeartbeats 4000000 in
theorem c_Th_clear (l : Launch) (D : va_G) (cI cL cZ : ClassId) (ad : Nat → Nat) {σ : St} {σ' : St} (hF : F_Th_clear σ = some σ') : gw_M l y_Th_clear w_Th_clear rm_Th_clear D gw_cl (gw_ty cI cL cZ) [.ref (ad 4)] (wC ad cI cL cZ σ) (wC ad cI cL cZ σ') none := by
  refine gw_start (cc := b_Th_clear) (nL := 1) (ret := none) (by decide) rfl (Nat.le_of_ble_eq_true rfl) (fun p e s m below meth c A C hr _ => ?_)
  refine gw_eq (lv' := [(0, .ref (ad 4))]) rfl rfl ?_
  unfold F_Th_clear at hF
  refine gw_aload_n C d_Th_clear_0 rfl 0 rfl ?_
  refine gw_iconst (v := 0) C d_Th_clear_1 (by decide) ?_
  refine fp_Th_49 C d_Th_clear_2 ?_
  refine gw_aload_n C d_Th_clear_5 rfl 0 rfl ?_
  refine gw_iconst (v := 0) C d_Th_clear_6 (by decide) ?_
  refine fp_Th_53 C d_Th_clear_7 ?_
  refine gw_aload_n C d_Th_clear_10 rfl 0 rfl ?_
  refine gw_iconst (v := 0) C d_Th_clear_11 (by decide) ?_
  refine fp_Th_56 C d_Th_clear_12 ?_
  cases hF
  exact gw_vret C hr rfl d_Th_clear_15
set_option maxRecDepth 100000 in
set_option maxHeartbeats 4000000 in
theorem c_Ro_clear (l : Launch) (D : va_G) (cI cL cZ : ClassId) (ad : Nat → Nat) {σ : St} {σ' : St} (hF : F_Ro_clear σ = some σ') : gw_M l y_Ro_clear w_Ro_clear rm_Ro_clear D gw_cl (gw_ty cI cL cZ) [.ref (ad 5)] (wC ad cI cL cZ σ) (wC ad cI cL cZ σ') none := by
  refine gw_start (cc := b_Ro_clear) (nL := 1) (ret := none) (by decide) rfl (Nat.le_of_ble_eq_true rfl) (fun p e s m below meth c A C hr _ => ?_)
  refine gw_eq (lv' := [(0, .ref (ad 5))]) rfl rfl ?_
  unfold F_Ro_clear at hF
  refine gw_aload_n C d_Ro_clear_0 rfl 0 rfl ?_
  refine gw_iconst (v := 0) C d_Ro_clear_1 (by decide) ?_
  refine fp_Ro_25 C d_Ro_clear_2 ?_
  refine gw_aload_n C d_Ro_clear_5 rfl 0 rfl ?_
  refine gw_iconst (v := 0) C d_Ro_clear_6 (by decide) ?_
  refine fp_Ro_29 C d_Ro_clear_7 ?_
  cases hF
  exact gw_vret C hr rfl d_Ro_clear_10
set_option maxRecDepth 100000 in
set_option maxHeartbeats 4000000 in
theorem c_Va_be (l : Launch) (D : va_G) (cI cL cZ : ClassId) (ad : Nat → Nat) {σ : St} {x1 : Int32} {x2 : Int64} {x4 : Int32} {x5 : Int32} {σ' : St} (hF : F_Va_be σ x1 x2 x4 x5 = some σ') : gw_M l y_Va_be w_Va_be rm_Va_be D gw_cl (gw_ty cI cL cZ) [.ref (ad 6), .int x1, .long x2, .int x4, .int x5] (wC ad cI cL cZ σ) (wC ad cI cL cZ σ') none := by
  refine gw_start (cc := b_Va_be) (nL := 6) (ret := none) (by decide) rfl (Nat.le_of_ble_eq_true rfl) (fun p e s m below meth c A C hr _ => ?_)
  refine gw_eq (lv' := [(0, .ref (ad 6)), (1, .int x1), (2, .long x2), (4, .int x4), (5, .int x5)]) rfl rfl ?_
  unfold F_Va_be at hF
  refine gw_aload_n C d_Va_be_0 rfl 0 rfl ?_
  refine gw_iload_n C d_Va_be_1 rfl 1 rfl ?_
  refine fp_Va_9 C d_Va_be_2 ?_
  refine gw_aload_n C d_Va_be_5 rfl 0 rfl ?_
  refine gw_lload_n C d_Va_be_6 rfl 2 rfl ?_
  refine fp_Va_15 C d_Va_be_7 ?_
  refine gw_aload_n C d_Va_be_10 rfl 0 rfl ?_
  refine gw_iload C d_Va_be_11 3 rfl ?_
  refine fp_Va_19 C d_Va_be_13 ?_
  refine gw_aload_n C d_Va_be_16 rfl 0 rfl ?_
  refine gw_iload C d_Va_be_17 4 rfl ?_
  refine fp_Va_22 C d_Va_be_19 ?_
  cases hF
  exact gw_vret C hr rfl d_Va_be_22
set_option maxRecDepth 100000 in
set_option maxHeartbeats 4000000 in
theorem c_Va_beNumber (l : Launch) (D : va_G) (cI cL cZ : ClassId) (ad : Nat → Nat) {σ : St} {x1 : Int64} {σ' : St} (hF : F_Va_beNumber σ x1 = some σ') : gw_M l y_Va_beNumber w_Va_beNumber rm_Va_beNumber D gw_cl (gw_ty cI cL cZ) [.ref (ad 6), .long x1] (wC ad cI cL cZ σ) (wC ad cI cL cZ σ') none := by
  refine gw_start (cc := b_Va_beNumber) (nL := 3) (ret := none) (by decide) rfl (Nat.le_of_ble_eq_true rfl) (fun p e s m below meth c A C hr _ => ?_)
  refine gw_eq (lv' := [(0, .ref (ad 6)), (1, .long x1)]) rfl rfl ?_
  unfold F_Va_beNumber at hF
  refine gw_aload_n C d_Va_beNumber_0 rfl 0 rfl ?_
  refine gw_iconst (v := 0) C d_Va_beNumber_1 (by decide) ?_
  refine gw_lload_n C d_Va_beNumber_2 rfl 1 rfl ?_
  refine gw_iconst (v := (-1)) C d_Va_beNumber_3 (by decide) ?_
  refine gw_iconst (v := (-1)) C d_Va_beNumber_4 (by decide) ?_
  obtain ⟨σ2, h1, hF⟩ := gw_bndv hF
  refine fc_Va_25 (As := [.int 0, .long x1, .int (-1), .int (-1)]) (st := []) (σ' := σ2) C (c_Va_be l D cI cL cZ ad h1) ⟨Nat.le_of_ble_eq_true rfl, Nat.le_of_ble_eq_true rfl⟩ ⟨Nat.le_of_ble_eq_true rfl, Nat.le_of_ble_eq_true rfl⟩ rfl (Nat.le_of_ble_eq_true rfl) d_Va_beNumber_5 ?_
  cases hF
  exact gw_vret C hr rfl d_Va_beNumber_8
set_option maxRecDepth 100000 in
set_option maxHeartbeats 4000000 in
theorem c_Wa_takeTerm (l : Launch) (D : va_G) (cI cL cZ : ClassId) (ad : Nat → Nat) {σ : St} {x1 : Int32} {x2 : Int32} {σ' : St} (hF : F_Wa_takeTerm σ x1 x2 = some σ') : gw_M l y_Wa_takeTerm w_Wa_takeTerm rm_Wa_takeTerm D gw_cl (gw_ty cI cL cZ) [.ref (ad 1), .int x1, .int x2] (wC ad cI cL cZ σ) (wC ad cI cL cZ σ') none := by
  refine gw_start (cc := b_Wa_takeTerm) (nL := 3) (ret := none) (by decide) rfl (Nat.le_of_ble_eq_true rfl) (fun p e s m below meth c A C hr _ => ?_)
  refine gw_eq (lv' := [(0, .ref (ad 1)), (1, .int x1), (2, .int x2)]) rfl rfl ?_
  unfold F_Wa_takeTerm at hF
  refine gw_aload_n C d_Wa_takeTerm_0 rfl 0 rfl ?_
  refine gw_iconst (v := 0) C d_Wa_takeTerm_1 (by decide) ?_
  refine fp_Wa_54 C d_Wa_takeTerm_2 ?_
  refine gw_aload_n C d_Wa_takeTerm_5 rfl 0 rfl ?_
  refine gw_iload_n C d_Wa_takeTerm_6 rfl 1 rfl ?_
  refine fp_Wa_57 C d_Wa_takeTerm_7 ?_
  refine gw_aload_n C d_Wa_takeTerm_10 rfl 0 rfl ?_
  refine gw_iload_n C d_Wa_takeTerm_11 rfl 2 rfl ?_
  refine fp_Wa_60 C d_Wa_takeTerm_12 ?_
  cases hF
  exact gw_vret C hr rfl d_Wa_takeTerm_15
set_option maxRecDepth 100000 in
set_option maxHeartbeats 4000000 in
theorem c_Wa_start (l : Launch) (D : va_G) (cI cL cZ : ClassId) (ad : Nat → Nat) {σ : St} {x1 : Int32} {x2 : Int32} {σ' : St} (hF : F_Wa_start σ x1 x2 = some σ') : gw_M l y_Wa_start w_Wa_start rm_Wa_start D gw_cl (gw_ty cI cL cZ) [.ref (ad 1), .int x1, .int x2] (wC ad cI cL cZ σ) (wC ad cI cL cZ σ') none := by
  refine gw_start (cc := b_Wa_start) (nL := 3) (ret := none) (by decide) rfl (Nat.le_of_ble_eq_true rfl) (fun p e s m below meth c A C hr _ => ?_)
  refine gw_eq (lv' := [(0, .ref (ad 1)), (1, .int x1), (2, .int x2)]) rfl rfl ?_
  unfold F_Wa_start at hF
  refine gw_aload_n C d_Wa_start_0 rfl 0 rfl ?_
  refine fg_Wa_21 C d_Wa_start_1 ?_
  obtain ⟨σ2, h1, hF⟩ := gw_bndv hF
  refine fc_Wa_84 (As := []) (st := []) (σ' := σ2) C (c_Pl_clear l D cI cL cZ ad h1) ⟨Nat.le_of_ble_eq_true rfl, Nat.le_of_ble_eq_true rfl⟩ ⟨Nat.le_of_ble_eq_true rfl, Nat.le_of_ble_eq_true rfl⟩ rfl (Nat.le_of_ble_eq_true rfl) d_Wa_start_4 ?_
  refine gw_aload_n C d_Wa_start_7 rfl 0 rfl ?_
  refine fg_Wa_28 C d_Wa_start_8 ?_
  obtain ⟨σ4, h3, hF⟩ := gw_bndv hF
  refine fc_Wa_87 (As := []) (st := []) (σ' := σ4) C (c_Th_clear l D cI cL cZ ad h3) ⟨Nat.le_of_ble_eq_true rfl, Nat.le_of_ble_eq_true rfl⟩ ⟨Nat.le_of_ble_eq_true rfl, Nat.le_of_ble_eq_true rfl⟩ rfl (Nat.le_of_ble_eq_true rfl) d_Wa_start_11 ?_
  refine gw_aload_n C d_Wa_start_14 rfl 0 rfl ?_
  refine fg_Wa_35 C d_Wa_start_15 ?_
  obtain ⟨σ6, h5, hF⟩ := gw_bndv hF
  refine fc_Wa_88 (As := []) (st := []) (σ' := σ6) C (c_Ro_clear l D cI cL cZ ad h5) ⟨Nat.le_of_ble_eq_true rfl, Nat.le_of_ble_eq_true rfl⟩ ⟨Nat.le_of_ble_eq_true rfl, Nat.le_of_ble_eq_true rfl⟩ rfl (Nat.le_of_ble_eq_true rfl) d_Wa_start_18 ?_
  refine gw_aload_n C d_Wa_start_21 rfl 0 rfl ?_
  refine fg_Wa_42 C d_Wa_start_22 ?_
  refine gw_lconst (v := 0) C d_Wa_start_25 rfl ?_
  obtain ⟨σ8, h7, hF⟩ := gw_bndv hF
  refine fc_Wa_89 (As := [.long 0]) (st := []) (σ' := σ8) C (c_Va_beNumber l D cI cL cZ ad h7) ⟨Nat.le_of_ble_eq_true rfl, Nat.le_of_ble_eq_true rfl⟩ ⟨Nat.le_of_ble_eq_true rfl, Nat.le_of_ble_eq_true rfl⟩ rfl (Nat.le_of_ble_eq_true rfl) d_Wa_start_26 ?_
  refine gw_aload_n C d_Wa_start_29 rfl 0 rfl ?_
  refine gw_iconst (v := 1) C d_Wa_start_30 (by decide) ?_
  refine fp_Wa_46 C d_Wa_start_31 ?_
  refine gw_aload_n C d_Wa_start_34 rfl 0 rfl ?_
  refine gw_iload_n C d_Wa_start_35 rfl 2 rfl ?_
  obtain ⟨h9, hF⟩ := gw_grd hF
  refine fp_Wa_50 C h9 d_Wa_start_36 ?_
  refine gw_aload_n C d_Wa_start_39 rfl 0 rfl ?_
  refine gw_iload_n C d_Wa_start_40 rfl 1 rfl ?_
  refine gw_iconst (v := (-1)) C d_Wa_start_41 (by decide) ?_
  obtain ⟨σ11, h10, hF⟩ := gw_bndv hF
  refine fc_Wa_93 (As := [.int x1, .int (-1)]) (st := []) (σ' := σ11) C (c_Wa_takeTerm l D cI cL cZ ad h10) ⟨Nat.le_of_ble_eq_true rfl, Nat.le_of_ble_eq_true rfl⟩ ⟨Nat.le_of_ble_eq_true rfl, Nat.le_of_ble_eq_true rfl⟩ rfl (Nat.le_of_ble_eq_true rfl) d_Wa_start_42 ?_
  refine gw_aload_n C d_Wa_start_45 rfl 0 rfl ?_
  refine gw_iconst (v := (-1)) C d_Wa_start_46 (by decide) ?_
  refine fp_Wa_63 C d_Wa_start_47 ?_
  refine gw_aload_n C d_Wa_start_50 rfl 0 rfl ?_
  refine gw_iconst (v := 0) C d_Wa_start_51 (by decide) ?_
  refine fp_Wa_66 C d_Wa_start_52 ?_
  refine gw_aload_n C d_Wa_start_55 rfl 0 rfl ?_
  refine gw_iconst (v := 0) C d_Wa_start_56 (by decide) ?_
  refine fp_Wa_69 C d_Wa_start_57 ?_
  refine gw_aload_n C d_Wa_start_60 rfl 0 rfl ?_
  refine gw_iconst (v := 0) C d_Wa_start_61 (by decide) ?_
  refine fp_Wa_72 C d_Wa_start_62 ?_
  refine gw_aload_n C d_Wa_start_65 rfl 0 rfl ?_
  refine gw_iconst (v := (-1)) C d_Wa_start_66 (by decide) ?_
  refine fp_Wa_75 C d_Wa_start_67 ?_
  cases hF
  exact gw_vret C hr rfl d_Wa_start_70
set_option maxRecDepth 100000 in
set_option maxHeartbeats 4000000 in
theorem c_Wa_turnTo (l : Launch) (D : va_G) (cI cL cZ : ClassId) (ad : Nat → Nat) {σ : St} {x1 : Int32} {σ' : St} (hF : F_Wa_turnTo σ x1 = some σ') : gw_M l y_Wa_turnTo w_Wa_turnTo rm_Wa_turnTo D gw_cl (gw_ty cI cL cZ) [.ref (ad 1), .int x1] (wC ad cI cL cZ σ) (wC ad cI cL cZ σ') none := by
  refine gw_start (cc := b_Wa_turnTo) (nL := 2) (ret := none) (by decide) rfl (Nat.le_of_ble_eq_true rfl) (fun p e s m below meth c A C hr _ => ?_)
  refine gw_eq (lv' := [(0, .ref (ad 1)), (1, .int x1)]) rfl rfl ?_
  unfold F_Wa_turnTo at hF
  refine gw_aload_n C d_Wa_turnTo_0 rfl 0 rfl ?_
  refine gw_iconst (v := 2) C d_Wa_turnTo_1 (by decide) ?_
  refine fp_Wa_54 C d_Wa_turnTo_2 ?_
  refine gw_aload_n C d_Wa_turnTo_5 rfl 0 rfl ?_
  refine gw_iload_n C d_Wa_turnTo_6 rfl 1 rfl ?_
  refine fp_Wa_63 C d_Wa_turnTo_7 ?_
  refine gw_aload_n C d_Wa_turnTo_10 rfl 0 rfl ?_
  refine gw_iconst (v := 1) C d_Wa_turnTo_11 (by decide) ?_
  refine fp_Wa_46 C d_Wa_turnTo_12 ?_
  cases hF
  exact gw_vret C hr rfl d_Wa_turnTo_15
set_option maxRecDepth 100000 in
set_option maxHeartbeats 4000000 in
theorem c_Th_forgetReached (l : Launch) (D : va_G) (cI cL cZ : ClassId) (ad : Nat → Nat) {σ : St} {σ' : St} (hF : F_Th_forgetReached σ = some σ') : gw_M l y_Th_forgetReached w_Th_forgetReached rm_Th_forgetReached D gw_cl (gw_ty cI cL cZ) [.ref (ad 4)] (wC ad cI cL cZ σ) (wC ad cI cL cZ σ') none := by
  refine gw_start (cc := b_Th_forgetReached) (nL := 1) (ret := none) (by decide) rfl (Nat.le_of_ble_eq_true rfl) (fun p e s m below meth c A C hr _ => ?_)
  refine gw_eq (lv' := [(0, .ref (ad 4))]) rfl rfl ?_
  unfold F_Th_forgetReached at hF
  refine gw_aload_n C d_Th_forgetReached_0 rfl 0 rfl ?_
  refine gw_iconst (v := 0) C d_Th_forgetReached_1 (by decide) ?_
  refine fp_Th_56 C d_Th_forgetReached_2 ?_
  cases hF
  exact gw_vret C hr rfl d_Th_forgetReached_5
set_option maxRecDepth 100000 in
set_option maxHeartbeats 4000000 in
theorem c_Pl_mark (l : Launch) (D : va_G) (cI cL cZ : ClassId) (ad : Nat → Nat) {σ : St} {x1 : Int32} {x2 : Int32} {r : Int32} {σ' : St} (hF : F_Pl_mark σ x1 x2 = some (r, σ')) : gw_M l y_Pl_mark w_Pl_mark rm_Pl_mark D gw_cl (gw_ty cI cL cZ) [.ref (ad 3), .int x1, .int x2] (wC ad cI cL cZ σ) (wC ad cI cL cZ σ') (some (.int r)) := by
  refine gw_start (cc := b_Pl_mark) (nL := 3) (ret := (some .boolean)) (by decide) rfl (Nat.le_of_ble_eq_true rfl) (fun p e s m below meth c A C hr _ => ?_)
  refine gw_eq (lv' := [(0, .ref (ad 3)), (1, .int x1), (2, .int x2)]) rfl rfl ?_
  unfold F_Pl_mark at hF
  refine gw_iload_n C d_Pl_mark_0 rfl 1 rfl ?_
  refine gw_if_lt (tgt := 21) C d_Pl_mark_1 (by decide) (fun h1 => ?_) (fun h1 => ?_)
  · have hF := gw_pos h1 hF
    refine gw_iconst (v := 0) C d_Pl_mark_21 (by decide) ?_
    cases hF
    exact gw_zret C hr rfl rfl d_Pl_mark_22
  · have hF := gw_neg h1 hF
    refine gw_iload_n C d_Pl_mark_4 rfl 1 rfl ?_
    refine gw_sipush (v := 1000) C d_Pl_mark_5 (by decide) ?_
    refine gw_icmp_ge (tgt := 21) C d_Pl_mark_8 (by decide) (fun h2 => ?_) (fun h2 => ?_)
    · have hF := gw_pos h2 hF
      refine gw_iconst (v := 0) C d_Pl_mark_21 (by decide) ?_
      cases hF
      exact gw_zret C hr rfl rfl d_Pl_mark_22
    · have hF := gw_neg h2 hF
      refine gw_aload_n C d_Pl_mark_11 rfl 0 rfl ?_
      refine fg_Pl_18 C d_Pl_mark_12 ?_
      refine gw_iload_n C d_Pl_mark_15 rfl 1 rfl ?_
      obtain ⟨h3, hF⟩ := gw_grd hF
      refine alwC_15 (v := σ.2.1 7 x1.toNatClampNeg) C h3 rfl d_Pl_mark_16 ?_
      refine gw_iload_n C d_Pl_mark_17 rfl 2 rfl ?_
      refine gw_icmp_ne (tgt := 23) C d_Pl_mark_18 (by decide) (fun h4 => ?_) (fun h4 => ?_)
      · have hF := gw_neg h4 hF
        refine gw_aload_n C d_Pl_mark_23 rfl 0 rfl ?_
        refine fg_Pl_18 C d_Pl_mark_24 ?_
        refine gw_iload_n C d_Pl_mark_27 rfl 1 rfl ?_
        refine gw_iload_n C d_Pl_mark_28 rfl 2 rfl ?_
        obtain ⟨h5, hF⟩ := gw_grd hF
        refine aswC_15 C h5 d_Pl_mark_29 ?_
        refine gw_iconst (v := 1) C d_Pl_mark_30 (by decide) ?_
        cases hF
        exact gw_zret C hr rfl rfl d_Pl_mark_31
      · have hF := gw_pos h4 hF
        refine gw_iconst (v := 0) C d_Pl_mark_21 (by decide) ?_
        cases hF
        exact gw_zret C hr rfl rfl d_Pl_mark_22
set_option maxRecDepth 100000 in
set_option maxHeartbeats 4000000 in
theorem c_Pl_has (l : Launch) (D : va_G) (cI cL cZ : ClassId) (ad : Nat → Nat) {σ : St} {x1 : Int32} {r : Int32} {σ' : St} (hF : F_Pl_has σ x1 = some (r, σ')) : gw_M l y_Pl_has w_Pl_has rm_Pl_has D gw_cl (gw_ty cI cL cZ) [.ref (ad 3), .int x1] (wC ad cI cL cZ σ) (wC ad cI cL cZ σ') (some (.int r)) := by
  refine gw_start (cc := b_Pl_has) (nL := 2) (ret := (some .boolean)) (by decide) rfl (Nat.le_of_ble_eq_true rfl) (fun p e s m below meth c A C hr _ => ?_)
  refine gw_eq (lv' := [(0, .ref (ad 3)), (1, .int x1)]) rfl rfl ?_
  unfold F_Pl_has at hF
  refine gw_iload_n C d_Pl_has_0 rfl 1 rfl ?_
  refine gw_if_lt (tgt := 23) C d_Pl_has_1 (by decide) (fun h1 => ?_) (fun h1 => ?_)
  · have hF := gw_pos h1 hF
    refine gw_iconst (v := 0) C d_Pl_has_23 (by decide) ?_
    cases hF
    exact gw_zret C hr rfl rfl d_Pl_has_24
  · have hF := gw_neg h1 hF
    refine gw_iload_n C d_Pl_has_4 rfl 1 rfl ?_
    refine gw_aload_n C d_Pl_has_5 rfl 0 rfl ?_
    refine fg_Pl_21 (v := σ.1 13) C rfl d_Pl_has_6 ?_
    refine gw_icmp_ge (tgt := 23) C d_Pl_has_9 (by decide) (fun h2 => ?_) (fun h2 => ?_)
    · have hF := gw_pos h2 hF
      refine gw_iconst (v := 0) C d_Pl_has_23 (by decide) ?_
      cases hF
      exact gw_zret C hr rfl rfl d_Pl_has_24
    · have hF := gw_neg h2 hF
      refine gw_iload_n C d_Pl_has_12 rfl 1 rfl ?_
      refine gw_sipush (v := 1000) C d_Pl_has_13 (by decide) ?_
      refine gw_icmp_ge (tgt := 23) C d_Pl_has_16 (by decide) (fun h3 => ?_) (fun h3 => ?_)
      · have hF := gw_pos h3 hF
        refine gw_iconst (v := 0) C d_Pl_has_23 (by decide) ?_
        cases hF
        exact gw_zret C hr rfl rfl d_Pl_has_24
      · have hF := gw_neg h3 hF
        refine gw_iconst (v := 1) C d_Pl_has_19 (by decide) ?_
        refine gw_goto (tgt := 24) C d_Pl_has_20 (by decide) ?_
        cases hF
        exact gw_zret C hr rfl rfl d_Pl_has_24
set_option maxRecDepth 100000 in
set_option maxHeartbeats 4000000 in
theorem c_Pl_heldBy (l : Launch) (D : va_G) (cI cL cZ : ClassId) (ad : Nat → Nat) {σ : St} {x1 : Int32} {r : Int32} {σ' : St} (hF : F_Pl_heldBy σ x1 = some (r, σ')) : gw_M l y_Pl_heldBy w_Pl_heldBy rm_Pl_heldBy D gw_cl (gw_ty cI cL cZ) [.ref (ad 3), .int x1] (wC ad cI cL cZ σ) (wC ad cI cL cZ σ') (some (.int r)) := by
  refine gw_start (cc := b_Pl_heldBy) (nL := 2) (ret := (some .int)) (by decide) rfl (Nat.le_of_ble_eq_true rfl) (fun p e s m below meth c A C hr _ => ?_)
  refine gw_eq (lv' := [(0, .ref (ad 3)), (1, .int x1)]) rfl rfl ?_
  unfold F_Pl_heldBy at hF
  refine gw_aload_n C d_Pl_heldBy_0 rfl 0 rfl ?_
  refine gw_iload_n C d_Pl_heldBy_1 rfl 1 rfl ?_
  obtain ⟨r2, σ3, h1, hF⟩ := gw_bnd hF
  refine fc_Pl_25 (As := [.int x1]) (st := []) (σ' := σ3) C (c_Pl_has l D cI cL cZ ad h1) ⟨Nat.le_of_ble_eq_true rfl, Nat.le_of_ble_eq_true rfl⟩ ⟨Nat.le_of_ble_eq_true rfl, Nat.le_of_ble_eq_true rfl⟩ rfl (Nat.le_of_ble_eq_true rfl) d_Pl_heldBy_2 ?_
  refine gw_if_eq (tgt := 17) C d_Pl_heldBy_5 (by decide) (fun h4 => ?_) (fun h4 => ?_)
  · have hF := gw_pos h4 hF
    refine gw_iconst (v := (-1)) C d_Pl_heldBy_17 (by decide) ?_
    cases hF
    exact gw_iret C hr rfl d_Pl_heldBy_18
  · have hF := gw_neg h4 hF
    refine gw_aload_n C d_Pl_heldBy_8 rfl 0 rfl ?_
    refine fg_Pl_9 C d_Pl_heldBy_9 ?_
    refine gw_iload_n C d_Pl_heldBy_12 rfl 1 rfl ?_
    obtain ⟨h5, hF⟩ := gw_grd hF
    refine alwC_13 (v := σ3.2.1 5 x1.toNatClampNeg) C h5 rfl d_Pl_heldBy_13 ?_
    refine gw_goto (tgt := 18) C d_Pl_heldBy_14 (by decide) ?_
    cases hF
    exact gw_iret C hr rfl d_Pl_heldBy_18
set_option maxRecDepth 100000 in
set_option maxHeartbeats 4000000 in
theorem c_Th_reach (l : Launch) (D : va_G) (cI cL cZ : ClassId) (ad : Nat → Nat) {σ : St} {x1 : Int32} {x2 : Int32} {σ' : St} (hF : F_Th_reach σ x1 x2 = some σ') : gw_M l y_Th_reach w_Th_reach rm_Th_reach D gw_cl (gw_ty cI cL cZ) [.ref (ad 4), .int x1, .int x2] (wC ad cI cL cZ σ) (wC ad cI cL cZ σ') none := by
  refine gw_start (cc := b_Th_reach) (nL := 4) (ret := none) (by decide) rfl (Nat.le_of_ble_eq_true rfl) (fun p e s m below meth c A C hr _ => ?_)
  refine gw_eq (lv' := [(0, .ref (ad 4)), (1, .int x1), (2, .int x2)]) rfl rfl ?_
  unfold F_Th_reach at hF
  refine gw_aload_n C d_Th_reach_0 rfl 0 rfl ?_
  refine fg_Th_56 (v := σ.1 16) C rfl d_Th_reach_1 ?_
  refine gw_istore_n (lv' := [(3, .int (σ.1 16)), (0, .ref (ad 4)), (1, .int x1), (2, .int x2)]) C d_Th_reach_4 rfl (by decide) rfl ?_
  refine gw_iload_n C d_Th_reach_5 rfl 2 rfl ?_
  refine gw_if_lt (tgt := 37) C d_Th_reach_6 (by decide) (fun h1 => ?_) (fun h1 => ?_)
  · have hF := gw_pos h1 hF
    cases hF
    exact gw_vret C hr rfl d_Th_reach_37
  · have hF := gw_neg h1 hF
    refine gw_iload_n C d_Th_reach_9 rfl 2 rfl ?_
    refine gw_sipush (v := 1000) C d_Th_reach_10 (by decide) ?_
    refine gw_icmp_ge (tgt := 37) C d_Th_reach_13 (by decide) (fun h2 => ?_) (fun h2 => ?_)
    · have hF := gw_pos h2 hF
      cases hF
      exact gw_vret C hr rfl d_Th_reach_37
    · have hF := gw_neg h2 hF
      refine gw_iload_n C d_Th_reach_16 rfl 0 rfl ?_
      refine gw_if_lt (tgt := 37) C d_Th_reach_17 (by decide) (fun h3 => ?_) (fun h3 => ?_)
      · have hF := gw_pos h3 hF
        cases hF
        exact gw_vret C hr rfl d_Th_reach_37
      · have hF := gw_neg h3 hF
        refine gw_iload_n C d_Th_reach_20 rfl 0 rfl ?_
        refine gw_sipush (v := 300) C d_Th_reach_21 (by decide) ?_
        refine gw_icmp_ge (tgt := 37) C d_Th_reach_24 (by decide) (fun h4 => ?_) (fun h4 => ?_)
        · have hF := gw_pos h4 hF
          cases hF
          exact gw_vret C hr rfl d_Th_reach_37
        · have hF := gw_neg h4 hF
          refine gw_aload_n C d_Th_reach_27 rfl 1 rfl ?_
          refine fg_Th_40 C d_Th_reach_28 ?_
          refine gw_iload_n C d_Th_reach_31 rfl 2 rfl ?_
          obtain ⟨h5, hF⟩ := gw_grd hF
          refine alwC_25 (v := σ.2.1 16 x1.toNatClampNeg) C h5 rfl d_Th_reach_32 ?_
          refine gw_iload_n C d_Th_reach_33 rfl 3 rfl ?_
          refine gw_icmp_ne (tgt := 38) C d_Th_reach_34 (by decide) (fun h6 => ?_) (fun h6 => ?_)
          · have hF := gw_neg h6 hF
            refine gw_aload_n C d_Th_reach_38 rfl 1 rfl ?_
            refine fg_Th_40 C d_Th_reach_39 ?_
            refine gw_iload_n C d_Th_reach_42 rfl 2 rfl ?_
            refine gw_iload_n C d_Th_reach_43 rfl 3 rfl ?_
            obtain ⟨h7, hF⟩ := gw_grd hF
            refine aswC_25 C h7 d_Th_reach_44 ?_
            refine gw_aload_n C d_Th_reach_45 rfl 1 rfl ?_
            refine fg_Th_46 C d_Th_reach_46 ?_
            refine gw_iload_n C d_Th_reach_49 rfl 0 rfl ?_
            refine gw_iload_n C d_Th_reach_50 rfl 2 rfl ?_
            obtain ⟨h8, hF⟩ := gw_grd hF
            refine aswC_27 C h8 d_Th_reach_51 ?_
            refine gw_aload_n C d_Th_reach_52 rfl 1 rfl ?_
            refine gw_iload_n C d_Th_reach_53 rfl 0 rfl ?_
            refine gw_iconst (v := 1) C d_Th_reach_54 (by decide) ?_
            refine gw_iadd C d_Th_reach_55 ?_
            refine fp_Th_56 C d_Th_reach_56 ?_
            cases hF
            exact gw_vret C hr rfl d_Th_reach_59
          · have hF := gw_pos h6 hF
            cases hF
            exact gw_vret C hr rfl d_Th_reach_37
set_option maxRecDepth 100000 in
set_option maxHeartbeats 4000000 in
theorem c_Pl_outerOf (l : Launch) (D : va_G) (cI cL cZ : ClassId) (ad : Nat → Nat) {σ : St} {x1 : Int32} {r : Int32} {σ' : St} (hF : F_Pl_outerOf σ x1 = some (r, σ')) : gw_M l y_Pl_outerOf w_Pl_outerOf rm_Pl_outerOf D gw_cl (gw_ty cI cL cZ) [.ref (ad 3), .int x1] (wC ad cI cL cZ σ) (wC ad cI cL cZ σ') (some (.int r)) := by
  refine gw_start (cc := b_Pl_outerOf) (nL := 2) (ret := (some .int)) (by decide) rfl (Nat.le_of_ble_eq_true rfl) (fun p e s m below meth c A C hr _ => ?_)
  refine gw_eq (lv' := [(0, .ref (ad 3)), (1, .int x1)]) rfl rfl ?_
  unfold F_Pl_outerOf at hF
  refine gw_aload_n C d_Pl_outerOf_0 rfl 0 rfl ?_
  refine gw_iload_n C d_Pl_outerOf_1 rfl 1 rfl ?_
  obtain ⟨r2, σ3, h1, hF⟩ := gw_bnd hF
  refine fc_Pl_25 (As := [.int x1]) (st := []) (σ' := σ3) C (c_Pl_has l D cI cL cZ ad h1) ⟨Nat.le_of_ble_eq_true rfl, Nat.le_of_ble_eq_true rfl⟩ ⟨Nat.le_of_ble_eq_true rfl, Nat.le_of_ble_eq_true rfl⟩ rfl (Nat.le_of_ble_eq_true rfl) d_Pl_outerOf_2 ?_
  refine gw_if_eq (tgt := 17) C d_Pl_outerOf_5 (by decide) (fun h4 => ?_) (fun h4 => ?_)
  · have hF := gw_pos h4 hF
    refine gw_iconst (v := (-1)) C d_Pl_outerOf_17 (by decide) ?_
    cases hF
    exact gw_iret C hr rfl d_Pl_outerOf_18
  · have hF := gw_neg h4 hF
    refine gw_aload_n C d_Pl_outerOf_8 rfl 0 rfl ?_
    refine fg_Pl_15 C d_Pl_outerOf_9 ?_
    refine gw_iload_n C d_Pl_outerOf_12 rfl 1 rfl ?_
    obtain ⟨h5, hF⟩ := gw_grd hF
    refine alwC_14 (v := σ3.2.1 6 x1.toNatClampNeg) C h5 rfl d_Pl_outerOf_13 ?_
    refine gw_goto (tgt := 18) C d_Pl_outerOf_14 (by decide) ?_
    cases hF
    exact gw_iret C hr rfl d_Pl_outerOf_18
set_option maxRecDepth 100000 in
set_option maxHeartbeats 4000000 in
theorem k_Wa_reachPlaces_4 {p : Program} (l : Launch) {e : Env} {s : State} {m : MethodId} {args : Array Value} {below : List Frame} {meth : Method} {c : Code} {D : va_G} {A : Nat → Prop} {cI cL cZ : ClassId} {ad : Nat → Nat} (C : gw_C p s m args meth c b_Wa_reachPlaces 4 R_Wa D gw_cl (gw_ty cI cL cZ) A) (hr : meth.sig.returnType = none) {σ' : St} : ∀ (n : Nat) (σ : St) (x2 : Int32) (x3 : Int32) (hF : K_Wa_reachPlaces_4 n σ x2 x3 = some σ'), gw_W p l e rm_Wa_reachPlaces s m args below meth c D gw_cl A (MQ below (gw_Qc D gw_cl (wC ad cI cL cZ σ') none A) args s 0 0 A) 0 0 4 (wC ad cI cL cZ σ) [(0, .ref (ad 1)), (2, .int x2), (3, .int x3)] 4 []
  | 0, σ, x2, x3, hF => by cases hF
  | n + 1, σ, x2, x3, hF => by
    unfold K_Wa_reachPlaces_4 at hF
    refine gw_iload_n C d_Wa_reachPlaces_4 rfl 2 rfl ?_
    refine gw_sipush (v := 1000) C d_Wa_reachPlaces_5 (by decide) ?_
    refine gw_icmp_ge (tgt := 60) C d_Wa_reachPlaces_8 (by decide) (fun h1 => ?_) (fun h1 => ?_)
    · have hF := gw_pos h1 hF
      cases hF
      exact gw_vret C hr rfl d_Wa_reachPlaces_60
    · have hF := gw_neg h1 hF
      refine gw_aload_n C d_Wa_reachPlaces_11 rfl 0 rfl ?_
      refine fg_Wa_21 C d_Wa_reachPlaces_12 ?_
      refine gw_iload_n C d_Wa_reachPlaces_15 rfl 1 rfl ?_
      refine gw_aload_n C d_Wa_reachPlaces_16 rfl 0 rfl ?_
      refine fg_Wa_81 (v := σ.1 11) C rfl d_Wa_reachPlaces_17 ?_
      obtain ⟨r3, σ4, h2, hF⟩ := gw_bnd hF
      refine fc_Wa_299 (As := [.int x2, .int (σ.1 11)]) (st := []) (σ' := σ4) C (c_Pl_mark l D cI cL cZ ad h2) ⟨Nat.le_of_ble_eq_true rfl, Nat.le_of_ble_eq_true rfl⟩ ⟨Nat.le_of_ble_eq_true rfl, Nat.le_of_ble_eq_true rfl⟩ rfl (Nat.le_of_ble_eq_true rfl) d_Wa_reachPlaces_20 ?_
      refine gw_if_eq (tgt := 60) C d_Wa_reachPlaces_23 (by decide) (fun h5 => ?_) (fun h5 => ?_)
      · have hF := gw_pos h5 hF
        cases hF
        exact gw_vret C hr rfl d_Wa_reachPlaces_60
      · have hF := gw_neg h5 hF
        refine gw_aload_n C d_Wa_reachPlaces_26 rfl 0 rfl ?_
        refine fg_Wa_28 C d_Wa_reachPlaces_27 ?_
        refine gw_aload_n C d_Wa_reachPlaces_30 rfl 0 rfl ?_
        refine fg_Wa_21 C d_Wa_reachPlaces_31 ?_
        refine gw_iload_n C d_Wa_reachPlaces_34 rfl 1 rfl ?_
        obtain ⟨r7, σ8, h6, hF⟩ := gw_bnd hF
        refine fc_Wa_303 (As := [.int x2]) (st := [.ref (ad 4)]) (σ' := σ8) C (c_Pl_heldBy l D cI cL cZ ad h6) ⟨Nat.le_of_ble_eq_true rfl, Nat.le_of_ble_eq_true rfl⟩ ⟨Nat.le_of_ble_eq_true rfl, Nat.le_of_ble_eq_true rfl⟩ rfl (Nat.le_of_ble_eq_true rfl) d_Wa_reachPlaces_35 ?_
        refine gw_aload_n C d_Wa_reachPlaces_38 rfl 0 rfl ?_
        refine fg_Wa_81 (v := σ8.1 11) C rfl d_Wa_reachPlaces_39 ?_
        obtain ⟨σ10, h9, hF⟩ := gw_bndv hF
        refine fc_Wa_287 (As := [.int r7, .int (σ8.1 11)]) (st := []) (σ' := σ10) C (c_Th_reach l D cI cL cZ ad h9) ⟨Nat.le_of_ble_eq_true rfl, Nat.le_of_ble_eq_true rfl⟩ ⟨Nat.le_of_ble_eq_true rfl, Nat.le_of_ble_eq_true rfl⟩ rfl (Nat.le_of_ble_eq_true rfl) d_Wa_reachPlaces_42 ?_
        refine gw_aload_n C d_Wa_reachPlaces_45 rfl 0 rfl ?_
        refine fg_Wa_21 C d_Wa_reachPlaces_46 ?_
        refine gw_iload_n C d_Wa_reachPlaces_49 rfl 1 rfl ?_
        obtain ⟨r12, σ13, h11, hF⟩ := gw_bnd hF
        refine fc_Wa_306 (As := [.int x2]) (st := []) (σ' := σ13) C (c_Pl_outerOf l D cI cL cZ ad h11) ⟨Nat.le_of_ble_eq_true rfl, Nat.le_of_ble_eq_true rfl⟩ ⟨Nat.le_of_ble_eq_true rfl, Nat.le_of_ble_eq_true rfl⟩ rfl (Nat.le_of_ble_eq_true rfl) d_Wa_reachPlaces_50 ?_
        refine gw_istore_n (lv' := [(2, .int r12), (0, .ref (ad 1)), (3, .int x3)]) C d_Wa_reachPlaces_53 rfl (by decide) rfl ?_
        refine gw_iinc (q := 2) (v := x3 + 1) (lv' := [(3, .int (x3 + 1)), (2, .int r12), (0, .ref (ad 1))]) C d_Wa_reachPlaces_54 rfl rfl (by decide) rfl ?_
        refine gw_goto (tgt := 4) C d_Wa_reachPlaces_57 (by decide) ?_
        refine gw_less [2, 1, 0] rfl ?_
        exact k_Wa_reachPlaces_4 l C hr n _ _ _ hF
set_option maxRecDepth 100000 in
set_option maxHeartbeats 4000000 in
theorem c_Wa_reachPlaces (l : Launch) (D : va_G) (cI cL cZ : ClassId) (ad : Nat → Nat) {σ : St} {x1 : Int32} {σ' : St} (hF : F_Wa_reachPlaces σ x1 = some σ') : gw_M l y_Wa_reachPlaces w_Wa_reachPlaces rm_Wa_reachPlaces D gw_cl (gw_ty cI cL cZ) [.ref (ad 1), .int x1] (wC ad cI cL cZ σ) (wC ad cI cL cZ σ') none := by
  refine gw_start (cc := b_Wa_reachPlaces) (nL := 4) (ret := none) (by decide) rfl (Nat.le_of_ble_eq_true rfl) (fun p e s m below meth c A C hr _ => ?_)
  refine gw_eq (lv' := [(0, .ref (ad 1)), (1, .int x1)]) rfl rfl ?_
  unfold F_Wa_reachPlaces at hF
  refine gw_iload_n C d_Wa_reachPlaces_0 rfl 1 rfl ?_
  refine gw_istore_n (lv' := [(2, .int x1), (0, .ref (ad 1)), (1, .int x1)]) C d_Wa_reachPlaces_1 rfl (by decide) rfl ?_
  refine gw_iconst (v := 0) C d_Wa_reachPlaces_2 (by decide) ?_
  refine gw_istore_n (lv' := [(3, .int 0), (2, .int x1), (0, .ref (ad 1)), (1, .int x1)]) C d_Wa_reachPlaces_3 rfl (by decide) rfl ?_
  refine gw_less [2, 1, 0] rfl ?_
  exact k_Wa_reachPlaces_4 l C hr gw_N _ _ _ hF
set_option maxRecDepth 100000 in
set_option maxHeartbeats 4000000 in
theorem c_Wa_reachOfValue (l : Launch) (D : va_G) (cI cL cZ : ClassId) (ad : Nat → Nat) {σ : St} {x1 : Int32} {x2 : Int32} {x3 : Int32} {σ' : St} (hF : F_Wa_reachOfValue σ x1 x2 x3 = some σ') : gw_M l y_Wa_reachOfValue w_Wa_reachOfValue rm_Wa_reachOfValue D gw_cl (gw_ty cI cL cZ) [.ref (ad 1), .int x1, .int x2, .int x3] (wC ad cI cL cZ σ) (wC ad cI cL cZ σ') none := by
  refine gw_start (cc := b_Wa_reachOfValue) (nL := 4) (ret := none) (by decide) rfl (Nat.le_of_ble_eq_true rfl) (fun p e s m below meth c A C hr _ => ?_)
  refine gw_eq (lv' := [(0, .ref (ad 1)), (1, .int x1), (2, .int x2), (3, .int x3)]) rfl rfl ?_
  unfold F_Wa_reachOfValue at hF
  refine gw_iload_n C d_Wa_reachOfValue_0 rfl 1 rfl ?_
  refine gw_iconst (v := 1) C d_Wa_reachOfValue_1 (by decide) ?_
  refine gw_icmp_ne (tgt := 13) C d_Wa_reachOfValue_2 (by decide) (fun h1 => ?_) (fun h1 => ?_)
  · have hF := gw_neg h1 hF
    refine gw_iload_n C d_Wa_reachOfValue_13 rfl 1 rfl ?_
    refine gw_iconst (v := 2) C d_Wa_reachOfValue_14 (by decide) ?_
    refine gw_icmp_ne (tgt := 42) C d_Wa_reachOfValue_15 (by decide) (fun h2 => ?_) (fun h2 => ?_)
    · have hF := gw_neg h2 hF
      cases hF
      exact gw_vret C hr rfl d_Wa_reachOfValue_42
    · have hF := gw_pos h2 hF
      refine gw_aload_n C d_Wa_reachOfValue_18 rfl 0 rfl ?_
      refine fg_Wa_28 C d_Wa_reachOfValue_19 ?_
      refine gw_iload_n C d_Wa_reachOfValue_22 rfl 2 rfl ?_
      refine gw_aload_n C d_Wa_reachOfValue_23 rfl 0 rfl ?_
      refine fg_Wa_81 (v := σ.1 11) C rfl d_Wa_reachOfValue_24 ?_
      obtain ⟨σ4, h3, hF⟩ := gw_bndv hF
      refine fc_Wa_287 (As := [.int x2, .int (σ.1 11)]) (st := []) (σ' := σ4) C (c_Th_reach l D cI cL cZ ad h3) ⟨Nat.le_of_ble_eq_true rfl, Nat.le_of_ble_eq_true rfl⟩ ⟨Nat.le_of_ble_eq_true rfl, Nat.le_of_ble_eq_true rfl⟩ rfl (Nat.le_of_ble_eq_true rfl) d_Wa_reachOfValue_27 ?_
      refine gw_aload_n C d_Wa_reachOfValue_30 rfl 0 rfl ?_
      refine fg_Wa_28 C d_Wa_reachOfValue_31 ?_
      refine gw_iload_n C d_Wa_reachOfValue_34 rfl 3 rfl ?_
      refine gw_aload_n C d_Wa_reachOfValue_35 rfl 0 rfl ?_
      refine fg_Wa_81 (v := σ4.1 11) C rfl d_Wa_reachOfValue_36 ?_
      obtain ⟨σ6, h5, hF⟩ := gw_bndv hF
      refine fc_Wa_287 (As := [.int x3, .int (σ4.1 11)]) (st := []) (σ' := σ6) C (c_Th_reach l D cI cL cZ ad h5) ⟨Nat.le_of_ble_eq_true rfl, Nat.le_of_ble_eq_true rfl⟩ ⟨Nat.le_of_ble_eq_true rfl, Nat.le_of_ble_eq_true rfl⟩ rfl (Nat.le_of_ble_eq_true rfl) d_Wa_reachOfValue_39 ?_
      cases hF
      exact gw_vret C hr rfl d_Wa_reachOfValue_42
  · have hF := gw_pos h1 hF
    refine gw_aload_n C d_Wa_reachOfValue_5 rfl 0 rfl ?_
    refine gw_iload_n C d_Wa_reachOfValue_6 rfl 3 rfl ?_
    obtain ⟨σ8, h7, hF⟩ := gw_bndv hF
    refine fc_Wa_280 (As := [.int x3]) (st := []) (σ' := σ8) C (c_Wa_reachPlaces l D cI cL cZ ad h7) ⟨Nat.le_of_ble_eq_true rfl, Nat.le_of_ble_eq_true rfl⟩ ⟨Nat.le_of_ble_eq_true rfl, Nat.le_of_ble_eq_true rfl⟩ rfl (Nat.le_of_ble_eq_true rfl) d_Wa_reachOfValue_7 ?_
    refine gw_goto (tgt := 42) C d_Wa_reachOfValue_10 (by decide) ?_
    cases hF
    exact gw_vret C hr rfl d_Wa_reachOfValue_42
set_option maxRecDepth 100000 in
set_option maxHeartbeats 4000000 in
theorem c_Wa_reachFromHand (l : Launch) (D : va_G) (cI cL cZ : ClassId) (ad : Nat → Nat) {σ : St} {σ' : St} (hF : F_Wa_reachFromHand σ = some σ') : gw_M l y_Wa_reachFromHand w_Wa_reachFromHand rm_Wa_reachFromHand D gw_cl (gw_ty cI cL cZ) [.ref (ad 1)] (wC ad cI cL cZ σ) (wC ad cI cL cZ σ') none := by
  refine gw_start (cc := b_Wa_reachFromHand) (nL := 1) (ret := none) (by decide) rfl (Nat.le_of_ble_eq_true rfl) (fun p e s m below meth c A C hr _ => ?_)
  refine gw_eq (lv' := [(0, .ref (ad 1))]) rfl rfl ?_
  unfold F_Wa_reachFromHand at hF
  refine gw_aload_n C d_Wa_reachFromHand_0 rfl 0 rfl ?_
  refine fg_Wa_54 (v := σ.1 2) C rfl d_Wa_reachFromHand_1 ?_
  refine gw_if_ne (tgt := 18) C d_Wa_reachFromHand_4 (by decide) (fun h1 => ?_) (fun h1 => ?_)
  · have hF := gw_neg h1 hF
    refine gw_aload_n C d_Wa_reachFromHand_18 rfl 0 rfl ?_
    refine fg_Wa_54 (v := σ.1 2) C rfl d_Wa_reachFromHand_19 ?_
    refine gw_iconst (v := 1) C d_Wa_reachFromHand_22 (by decide) ?_
    refine gw_icmp_ne (tgt := 54) C d_Wa_reachFromHand_23 (by decide) (fun h2 => ?_) (fun h2 => ?_)
    · have hF := gw_neg h2 hF
      refine gw_aload_n C d_Wa_reachFromHand_54 rfl 0 rfl ?_
      refine fg_Wa_28 C d_Wa_reachFromHand_55 ?_
      refine gw_aload_n C d_Wa_reachFromHand_58 rfl 0 rfl ?_
      refine fg_Wa_63 (v := σ.1 5) C rfl d_Wa_reachFromHand_59 ?_
      refine gw_aload_n C d_Wa_reachFromHand_62 rfl 0 rfl ?_
      refine fg_Wa_81 (v := σ.1 11) C rfl d_Wa_reachFromHand_63 ?_
      obtain ⟨σ4, h3, hF⟩ := gw_bndv hF
      refine fc_Wa_287 (As := [.int (σ.1 5), .int (σ.1 11)]) (st := []) (σ' := σ4) C (c_Th_reach l D cI cL cZ ad h3) ⟨Nat.le_of_ble_eq_true rfl, Nat.le_of_ble_eq_true rfl⟩ ⟨Nat.le_of_ble_eq_true rfl, Nat.le_of_ble_eq_true rfl⟩ rfl (Nat.le_of_ble_eq_true rfl) d_Wa_reachFromHand_66 ?_
      cases hF
      exact gw_vret C hr rfl d_Wa_reachFromHand_69
    · have hF := gw_pos h2 hF
      refine gw_aload_n C d_Wa_reachFromHand_26 rfl 0 rfl ?_
      refine gw_aload_n C d_Wa_reachFromHand_27 rfl 0 rfl ?_
      refine fg_Wa_42 C d_Wa_reachFromHand_28 ?_
      refine fg_Wa_248 (v := σ.1 19) C rfl d_Wa_reachFromHand_31 ?_
      refine gw_aload_n C d_Wa_reachFromHand_34 rfl 0 rfl ?_
      refine fg_Wa_42 C d_Wa_reachFromHand_35 ?_
      refine fg_Wa_239 (v := σ.1 20) C rfl d_Wa_reachFromHand_38 ?_
      refine gw_aload_n C d_Wa_reachFromHand_41 rfl 0 rfl ?_
      refine fg_Wa_42 C d_Wa_reachFromHand_42 ?_
      refine fg_Wa_245 (v := σ.1 21) C rfl d_Wa_reachFromHand_45 ?_
      obtain ⟨σ6, h5, hF⟩ := gw_bndv hF
      refine fc_Wa_283 (As := [.int (σ.1 19), .int (σ.1 20), .int (σ.1 21)]) (st := []) (σ' := σ6) C (c_Wa_reachOfValue l D cI cL cZ ad h5) ⟨Nat.le_of_ble_eq_true rfl, Nat.le_of_ble_eq_true rfl⟩ ⟨Nat.le_of_ble_eq_true rfl, Nat.le_of_ble_eq_true rfl⟩ rfl (Nat.le_of_ble_eq_true rfl) d_Wa_reachFromHand_48 ?_
      refine gw_goto (tgt := 69) C d_Wa_reachFromHand_51 (by decide) ?_
      cases hF
      exact gw_vret C hr rfl d_Wa_reachFromHand_69
  · have hF := gw_pos h1 hF
    refine gw_aload_n C d_Wa_reachFromHand_7 rfl 0 rfl ?_
    refine gw_aload_n C d_Wa_reachFromHand_8 rfl 0 rfl ?_
    refine fg_Wa_60 (v := σ.1 4) C rfl d_Wa_reachFromHand_9 ?_
    obtain ⟨σ8, h7, hF⟩ := gw_bndv hF
    refine fc_Wa_280 (As := [.int (σ.1 4)]) (st := []) (σ' := σ8) C (c_Wa_reachPlaces l D cI cL cZ ad h7) ⟨Nat.le_of_ble_eq_true rfl, Nat.le_of_ble_eq_true rfl⟩ ⟨Nat.le_of_ble_eq_true rfl, Nat.le_of_ble_eq_true rfl⟩ rfl (Nat.le_of_ble_eq_true rfl) d_Wa_reachFromHand_12 ?_
    refine gw_goto (tgt := 69) C d_Wa_reachFromHand_15 (by decide) ?_
    cases hF
    exact gw_vret C hr rfl d_Wa_reachFromHand_69
set_option maxRecDepth 100000 in
set_option maxHeartbeats 4000000 in
theorem c_Ro_has (l : Launch) (D : va_G) (cI cL cZ : ClassId) (ad : Nat → Nat) {σ : St} {x1 : Int32} {r : Int32} {σ' : St} (hF : F_Ro_has σ x1 = some (r, σ')) : gw_M l y_Ro_has w_Ro_has rm_Ro_has D gw_cl (gw_ty cI cL cZ) [.ref (ad 5), .int x1] (wC ad cI cL cZ σ) (wC ad cI cL cZ σ') (some (.int r)) := by
  refine gw_start (cc := b_Ro_has) (nL := 2) (ret := (some .boolean)) (by decide) rfl (Nat.le_of_ble_eq_true rfl) (fun p e s m below meth c A C hr _ => ?_)
  refine gw_eq (lv' := [(0, .ref (ad 5)), (1, .int x1)]) rfl rfl ?_
  unfold F_Ro_has at hF
  refine gw_iload_n C d_Ro_has_0 rfl 1 rfl ?_
  refine gw_if_lt (tgt := 23) C d_Ro_has_1 (by decide) (fun h1 => ?_) (fun h1 => ?_)
  · have hF := gw_pos h1 hF
    refine gw_iconst (v := 0) C d_Ro_has_23 (by decide) ?_
    cases hF
    exact gw_zret C hr rfl rfl d_Ro_has_24
  · have hF := gw_neg h1 hF
    refine gw_iload_n C d_Ro_has_4 rfl 1 rfl ?_
    refine gw_aload_n C d_Ro_has_5 rfl 0 rfl ?_
    refine fg_Ro_25 (v := σ.1 17) C rfl d_Ro_has_6 ?_
    refine gw_icmp_ge (tgt := 23) C d_Ro_has_9 (by decide) (fun h2 => ?_) (fun h2 => ?_)
    · have hF := gw_pos h2 hF
      refine gw_iconst (v := 0) C d_Ro_has_23 (by decide) ?_
      cases hF
      exact gw_zret C hr rfl rfl d_Ro_has_24
    · have hF := gw_neg h2 hF
      refine gw_iload_n C d_Ro_has_12 rfl 1 rfl ?_
      refine gw_sipush (v := 300) C d_Ro_has_13 (by decide) ?_
      refine gw_icmp_ge (tgt := 23) C d_Ro_has_16 (by decide) (fun h3 => ?_) (fun h3 => ?_)
      · have hF := gw_pos h3 hF
        refine gw_iconst (v := 0) C d_Ro_has_23 (by decide) ?_
        cases hF
        exact gw_zret C hr rfl rfl d_Ro_has_24
      · have hF := gw_neg h3 hF
        refine gw_iconst (v := 1) C d_Ro_has_19 (by decide) ?_
        refine gw_goto (tgt := 24) C d_Ro_has_20 (by decide) ?_
        cases hF
        exact gw_zret C hr rfl rfl d_Ro_has_24
set_option maxRecDepth 100000 in
set_option maxHeartbeats 4000000 in
theorem c_Ro_kindOf (l : Launch) (D : va_G) (cI cL cZ : ClassId) (ad : Nat → Nat) {σ : St} {x1 : Int32} {r : Int32} {σ' : St} (hF : F_Ro_kindOf σ x1 = some (r, σ')) : gw_M l y_Ro_kindOf w_Ro_kindOf rm_Ro_kindOf D gw_cl (gw_ty cI cL cZ) [.ref (ad 5), .int x1] (wC ad cI cL cZ σ) (wC ad cI cL cZ σ') (some (.int r)) := by
  refine gw_start (cc := b_Ro_kindOf) (nL := 2) (ret := (some .int)) (by decide) rfl (Nat.le_of_ble_eq_true rfl) (fun p e s m below meth c A C hr _ => ?_)
  refine gw_eq (lv' := [(0, .ref (ad 5)), (1, .int x1)]) rfl rfl ?_
  unfold F_Ro_kindOf at hF
  refine gw_aload_n C d_Ro_kindOf_0 rfl 0 rfl ?_
  refine gw_iload_n C d_Ro_kindOf_1 rfl 1 rfl ?_
  obtain ⟨r2, σ3, h1, hF⟩ := gw_bnd hF
  refine fc_Ro_32 (As := [.int x1]) (st := []) (σ' := σ3) C (c_Ro_has l D cI cL cZ ad h1) ⟨Nat.le_of_ble_eq_true rfl, Nat.le_of_ble_eq_true rfl⟩ ⟨Nat.le_of_ble_eq_true rfl, Nat.le_of_ble_eq_true rfl⟩ rfl (Nat.le_of_ble_eq_true rfl) d_Ro_kindOf_2 ?_
  refine gw_if_eq (tgt := 17) C d_Ro_kindOf_5 (by decide) (fun h4 => ?_) (fun h4 => ?_)
  · have hF := gw_pos h4 hF
    refine gw_iconst (v := (-1)) C d_Ro_kindOf_17 (by decide) ?_
    cases hF
    exact gw_iret C hr rfl d_Ro_kindOf_18
  · have hF := gw_neg h4 hF
    refine gw_aload_n C d_Ro_kindOf_8 rfl 0 rfl ?_
    refine fg_Ro_9 C d_Ro_kindOf_9 ?_
    refine gw_iload_n C d_Ro_kindOf_12 rfl 1 rfl ?_
    obtain ⟨h5, hF⟩ := gw_grd hF
    refine alwC_28 (v := σ3.2.1 19 x1.toNatClampNeg) C h5 rfl d_Ro_kindOf_13 ?_
    refine gw_goto (tgt := 18) C d_Ro_kindOf_14 (by decide) ?_
    cases hF
    exact gw_iret C hr rfl d_Ro_kindOf_18
set_option maxRecDepth 100000 in
set_option maxHeartbeats 4000000 in
theorem c_Ro_firstOf (l : Launch) (D : va_G) (cI cL cZ : ClassId) (ad : Nat → Nat) {σ : St} {x1 : Int32} {r : Int32} {σ' : St} (hF : F_Ro_firstOf σ x1 = some (r, σ')) : gw_M l y_Ro_firstOf w_Ro_firstOf rm_Ro_firstOf D gw_cl (gw_ty cI cL cZ) [.ref (ad 5), .int x1] (wC ad cI cL cZ σ) (wC ad cI cL cZ σ') (some (.int r)) := by
  refine gw_start (cc := b_Ro_firstOf) (nL := 2) (ret := (some .int)) (by decide) rfl (Nat.le_of_ble_eq_true rfl) (fun p e s m below meth c A C hr _ => ?_)
  refine gw_eq (lv' := [(0, .ref (ad 5)), (1, .int x1)]) rfl rfl ?_
  unfold F_Ro_firstOf at hF
  refine gw_aload_n C d_Ro_firstOf_0 rfl 0 rfl ?_
  refine gw_iload_n C d_Ro_firstOf_1 rfl 1 rfl ?_
  obtain ⟨r2, σ3, h1, hF⟩ := gw_bnd hF
  refine fc_Ro_32 (As := [.int x1]) (st := []) (σ' := σ3) C (c_Ro_has l D cI cL cZ ad h1) ⟨Nat.le_of_ble_eq_true rfl, Nat.le_of_ble_eq_true rfl⟩ ⟨Nat.le_of_ble_eq_true rfl, Nat.le_of_ble_eq_true rfl⟩ rfl (Nat.le_of_ble_eq_true rfl) d_Ro_firstOf_2 ?_
  refine gw_if_eq (tgt := 17) C d_Ro_firstOf_5 (by decide) (fun h4 => ?_) (fun h4 => ?_)
  · have hF := gw_pos h4 hF
    refine gw_iconst (v := (-1)) C d_Ro_firstOf_17 (by decide) ?_
    cases hF
    exact gw_iret C hr rfl d_Ro_firstOf_18
  · have hF := gw_neg h4 hF
    refine gw_aload_n C d_Ro_firstOf_8 rfl 0 rfl ?_
    refine fg_Ro_15 C d_Ro_firstOf_9 ?_
    refine gw_iload_n C d_Ro_firstOf_12 rfl 1 rfl ?_
    obtain ⟨h5, hF⟩ := gw_grd hF
    refine alwC_29 (v := σ3.2.1 20 x1.toNatClampNeg) C h5 rfl d_Ro_firstOf_13 ?_
    refine gw_goto (tgt := 18) C d_Ro_firstOf_14 (by decide) ?_
    cases hF
    exact gw_iret C hr rfl d_Ro_firstOf_18
set_option maxRecDepth 100000 in
set_option maxHeartbeats 4000000 in
theorem c_Ro_secondOf (l : Launch) (D : va_G) (cI cL cZ : ClassId) (ad : Nat → Nat) {σ : St} {x1 : Int32} {r : Int32} {σ' : St} (hF : F_Ro_secondOf σ x1 = some (r, σ')) : gw_M l y_Ro_secondOf w_Ro_secondOf rm_Ro_secondOf D gw_cl (gw_ty cI cL cZ) [.ref (ad 5), .int x1] (wC ad cI cL cZ σ) (wC ad cI cL cZ σ') (some (.int r)) := by
  refine gw_start (cc := b_Ro_secondOf) (nL := 2) (ret := (some .int)) (by decide) rfl (Nat.le_of_ble_eq_true rfl) (fun p e s m below meth c A C hr _ => ?_)
  refine gw_eq (lv' := [(0, .ref (ad 5)), (1, .int x1)]) rfl rfl ?_
  unfold F_Ro_secondOf at hF
  refine gw_aload_n C d_Ro_secondOf_0 rfl 0 rfl ?_
  refine gw_iload_n C d_Ro_secondOf_1 rfl 1 rfl ?_
  obtain ⟨r2, σ3, h1, hF⟩ := gw_bnd hF
  refine fc_Ro_32 (As := [.int x1]) (st := []) (σ' := σ3) C (c_Ro_has l D cI cL cZ ad h1) ⟨Nat.le_of_ble_eq_true rfl, Nat.le_of_ble_eq_true rfl⟩ ⟨Nat.le_of_ble_eq_true rfl, Nat.le_of_ble_eq_true rfl⟩ rfl (Nat.le_of_ble_eq_true rfl) d_Ro_secondOf_2 ?_
  refine gw_if_eq (tgt := 17) C d_Ro_secondOf_5 (by decide) (fun h4 => ?_) (fun h4 => ?_)
  · have hF := gw_pos h4 hF
    refine gw_iconst (v := (-1)) C d_Ro_secondOf_17 (by decide) ?_
    cases hF
    exact gw_iret C hr rfl d_Ro_secondOf_18
  · have hF := gw_neg h4 hF
    refine gw_aload_n C d_Ro_secondOf_8 rfl 0 rfl ?_
    refine fg_Ro_18 C d_Ro_secondOf_9 ?_
    refine gw_iload_n C d_Ro_secondOf_12 rfl 1 rfl ?_
    obtain ⟨h5, hF⟩ := gw_grd hF
    refine alwC_30 (v := σ3.2.1 21 x1.toNatClampNeg) C h5 rfl d_Ro_secondOf_13 ?_
    refine gw_goto (tgt := 18) C d_Ro_secondOf_14 (by decide) ?_
    cases hF
    exact gw_iret C hr rfl d_Ro_secondOf_18
set_option maxRecDepth 100000 in
set_option maxHeartbeats 4000000 in
theorem k_Wa_reachFromRow_2 {p : Program} (l : Launch) {e : Env} {s : State} {m : MethodId} {args : Array Value} {below : List Frame} {meth : Method} {c : Code} {D : va_G} {A : Nat → Prop} {cI cL cZ : ClassId} {ad : Nat → Nat} (C : gw_C p s m args meth c b_Wa_reachFromRow 2 R_Wa D gw_cl (gw_ty cI cL cZ) A) (hr : meth.sig.returnType = none) {σ' : St} : ∀ (n : Nat) (σ : St) (x1 : Int32) (hF : K_Wa_reachFromRow_2 n σ x1 = some σ'), gw_W p l e rm_Wa_reachFromRow s m args below meth c D gw_cl A (MQ below (gw_Qc D gw_cl (wC ad cI cL cZ σ') none A) args s 0 0 A) 0 0 2 (wC ad cI cL cZ σ) [(0, .ref (ad 1)), (1, .int x1)] 2 []
  | 0, σ, x1, hF => by cases hF
  | n + 1, σ, x1, hF => by
    unfold K_Wa_reachFromRow_2 at hF
    refine gw_iload_n C d_Wa_reachFromRow_2 rfl 1 rfl ?_
    refine gw_aload_n C d_Wa_reachFromRow_3 rfl 0 rfl ?_
    refine fg_Wa_35 C d_Wa_reachFromRow_4 ?_
    refine fg_Wa_111 (v := σ.1 17) C rfl d_Wa_reachFromRow_7 ?_
    refine gw_icmp_ge (tgt := 99) C d_Wa_reachFromRow_10 (by decide) (fun h1 => ?_) (fun h1 => ?_)
    · have hF := gw_pos h1 hF
      cases hF
      exact gw_vret C hr rfl d_Wa_reachFromRow_99
    · have hF := gw_neg h1 hF
      refine gw_aload_n C d_Wa_reachFromRow_13 rfl 0 rfl ?_
      refine fg_Wa_35 C d_Wa_reachFromRow_14 ?_
      refine gw_iload_n C d_Wa_reachFromRow_17 rfl 1 rfl ?_
      obtain ⟨r3, σ4, h2, hF⟩ := gw_bnd hF
      refine fc_Wa_124 (As := [.int x1]) (st := []) (σ' := σ4) C (c_Ro_kindOf l D cI cL cZ ad h2) ⟨Nat.le_of_ble_eq_true rfl, Nat.le_of_ble_eq_true rfl⟩ ⟨Nat.le_of_ble_eq_true rfl, Nat.le_of_ble_eq_true rfl⟩ rfl (Nat.le_of_ble_eq_true rfl) d_Wa_reachFromRow_18 ?_
      by_cases h5 : r3 = 0
      · have hF := gw_pos h5 hF
        refine gw_tableIn (tgt := 56) C d_Wa_reachFromRow_21 (by rw [h5]; decide) (by rw [h5]; decide) (by rw [h5]; rfl) (by decide) ?_
        refine gw_aload_n C d_Wa_reachFromRow_56 rfl 0 rfl ?_
        refine fg_Wa_28 C d_Wa_reachFromRow_57 ?_
        refine gw_aload_n C d_Wa_reachFromRow_60 rfl 0 rfl ?_
        refine fg_Wa_35 C d_Wa_reachFromRow_61 ?_
        refine gw_iload_n C d_Wa_reachFromRow_64 rfl 1 rfl ?_
        obtain ⟨r7, σ8, h6, hF⟩ := gw_bnd hF
        refine fc_Wa_128 (As := [.int x1]) (st := [.ref (ad 4)]) (σ' := σ8) C (c_Ro_firstOf l D cI cL cZ ad h6) ⟨Nat.le_of_ble_eq_true rfl, Nat.le_of_ble_eq_true rfl⟩ ⟨Nat.le_of_ble_eq_true rfl, Nat.le_of_ble_eq_true rfl⟩ rfl (Nat.le_of_ble_eq_true rfl) d_Wa_reachFromRow_65 ?_
        refine gw_aload_n C d_Wa_reachFromRow_68 rfl 0 rfl ?_
        refine fg_Wa_81 (v := σ8.1 11) C rfl d_Wa_reachFromRow_69 ?_
        obtain ⟨σ10, h9, hF⟩ := gw_bndv hF
        refine fc_Wa_287 (As := [.int r7, .int (σ8.1 11)]) (st := []) (σ' := σ10) C (c_Th_reach l D cI cL cZ ad h9) ⟨Nat.le_of_ble_eq_true rfl, Nat.le_of_ble_eq_true rfl⟩ ⟨Nat.le_of_ble_eq_true rfl, Nat.le_of_ble_eq_true rfl⟩ rfl (Nat.le_of_ble_eq_true rfl) d_Wa_reachFromRow_72 ?_
        refine gw_goto (tgt := 93) C d_Wa_reachFromRow_75 (by decide) ?_
        refine gw_iinc (q := 1) (v := x1 + 1) (lv' := [(1, .int (x1 + 1)), (0, .ref (ad 1))]) C d_Wa_reachFromRow_93 rfl rfl (by decide) rfl ?_
        refine gw_goto (tgt := 2) C d_Wa_reachFromRow_96 (by decide) ?_
        refine gw_less [1, 0] rfl ?_
        exact k_Wa_reachFromRow_2 l C hr n _ _ hF
      · have hF := gw_neg h5 hF
        by_cases h11 : r3 = 1
        · have hF := gw_pos h11 hF
          refine gw_tableIn (tgt := 56) C d_Wa_reachFromRow_21 (by rw [h11]; decide) (by rw [h11]; decide) (by rw [h11]; rfl) (by decide) ?_
          refine gw_aload_n C d_Wa_reachFromRow_56 rfl 0 rfl ?_
          refine fg_Wa_28 C d_Wa_reachFromRow_57 ?_
          refine gw_aload_n C d_Wa_reachFromRow_60 rfl 0 rfl ?_
          refine fg_Wa_35 C d_Wa_reachFromRow_61 ?_
          refine gw_iload_n C d_Wa_reachFromRow_64 rfl 1 rfl ?_
          obtain ⟨r13, σ14, h12, hF⟩ := gw_bnd hF
          refine fc_Wa_128 (As := [.int x1]) (st := [.ref (ad 4)]) (σ' := σ14) C (c_Ro_firstOf l D cI cL cZ ad h12) ⟨Nat.le_of_ble_eq_true rfl, Nat.le_of_ble_eq_true rfl⟩ ⟨Nat.le_of_ble_eq_true rfl, Nat.le_of_ble_eq_true rfl⟩ rfl (Nat.le_of_ble_eq_true rfl) d_Wa_reachFromRow_65 ?_
          refine gw_aload_n C d_Wa_reachFromRow_68 rfl 0 rfl ?_
          refine fg_Wa_81 (v := σ14.1 11) C rfl d_Wa_reachFromRow_69 ?_
          obtain ⟨σ16, h15, hF⟩ := gw_bndv hF
          refine fc_Wa_287 (As := [.int r13, .int (σ14.1 11)]) (st := []) (σ' := σ16) C (c_Th_reach l D cI cL cZ ad h15) ⟨Nat.le_of_ble_eq_true rfl, Nat.le_of_ble_eq_true rfl⟩ ⟨Nat.le_of_ble_eq_true rfl, Nat.le_of_ble_eq_true rfl⟩ rfl (Nat.le_of_ble_eq_true rfl) d_Wa_reachFromRow_72 ?_
          refine gw_goto (tgt := 93) C d_Wa_reachFromRow_75 (by decide) ?_
          refine gw_iinc (q := 1) (v := x1 + 1) (lv' := [(1, .int (x1 + 1)), (0, .ref (ad 1))]) C d_Wa_reachFromRow_93 rfl rfl (by decide) rfl ?_
          refine gw_goto (tgt := 2) C d_Wa_reachFromRow_96 (by decide) ?_
          refine gw_less [1, 0] rfl ?_
          exact k_Wa_reachFromRow_2 l C hr n _ _ hF
        · have hF := gw_neg h11 hF
          by_cases h17 : r3 = 2
          · have hF := gw_pos h17 hF
            refine gw_tableIn (tgt := 78) C d_Wa_reachFromRow_21 (by rw [h17]; decide) (by rw [h17]; decide) (by rw [h17]; rfl) (by decide) ?_
            refine gw_aload_n C d_Wa_reachFromRow_78 rfl 0 rfl ?_
            refine gw_aload_n C d_Wa_reachFromRow_79 rfl 0 rfl ?_
            refine fg_Wa_35 C d_Wa_reachFromRow_80 ?_
            refine gw_iload_n C d_Wa_reachFromRow_83 rfl 1 rfl ?_
            obtain ⟨r19, σ20, h18, hF⟩ := gw_bnd hF
            refine fc_Wa_224 (As := [.int x1]) (st := [.ref (ad 1)]) (σ' := σ20) C (c_Ro_secondOf l D cI cL cZ ad h18) ⟨Nat.le_of_ble_eq_true rfl, Nat.le_of_ble_eq_true rfl⟩ ⟨Nat.le_of_ble_eq_true rfl, Nat.le_of_ble_eq_true rfl⟩ rfl (Nat.le_of_ble_eq_true rfl) d_Wa_reachFromRow_84 ?_
            obtain ⟨σ22, h21, hF⟩ := gw_bndv hF
            refine fc_Wa_280 (As := [.int r19]) (st := []) (σ' := σ22) C (c_Wa_reachPlaces l D cI cL cZ ad h21) ⟨Nat.le_of_ble_eq_true rfl, Nat.le_of_ble_eq_true rfl⟩ ⟨Nat.le_of_ble_eq_true rfl, Nat.le_of_ble_eq_true rfl⟩ rfl (Nat.le_of_ble_eq_true rfl) d_Wa_reachFromRow_87 ?_
            refine gw_goto (tgt := 93) C d_Wa_reachFromRow_90 (by decide) ?_
            refine gw_iinc (q := 1) (v := x1 + 1) (lv' := [(1, .int (x1 + 1)), (0, .ref (ad 1))]) C d_Wa_reachFromRow_93 rfl rfl (by decide) rfl ?_
            refine gw_goto (tgt := 2) C d_Wa_reachFromRow_96 (by decide) ?_
            refine gw_less [1, 0] rfl ?_
            exact k_Wa_reachFromRow_2 l C hr n _ _ hF
          · have hF := gw_neg h17 hF
            by_cases h23 : r3 = 3
            · have hF := gw_pos h23 hF
              refine gw_tableIn (tgt := 93) C d_Wa_reachFromRow_21 (by rw [h23]; decide) (by rw [h23]; decide) (by rw [h23]; rfl) (by decide) ?_
              refine gw_iinc (q := 1) (v := x1 + 1) (lv' := [(1, .int (x1 + 1)), (0, .ref (ad 1))]) C d_Wa_reachFromRow_93 rfl rfl (by decide) rfl ?_
              refine gw_goto (tgt := 2) C d_Wa_reachFromRow_96 (by decide) ?_
              refine gw_less [1, 0] rfl ?_
              exact k_Wa_reachFromRow_2 l C hr n _ _ hF
            · have hF := gw_neg h23 hF
              by_cases h24 : r3 = 4
              · have hF := gw_pos h24 hF
                refine gw_tableIn (tgt := 78) C d_Wa_reachFromRow_21 (by rw [h24]; decide) (by rw [h24]; decide) (by rw [h24]; rfl) (by decide) ?_
                refine gw_aload_n C d_Wa_reachFromRow_78 rfl 0 rfl ?_
                refine gw_aload_n C d_Wa_reachFromRow_79 rfl 0 rfl ?_
                refine fg_Wa_35 C d_Wa_reachFromRow_80 ?_
                refine gw_iload_n C d_Wa_reachFromRow_83 rfl 1 rfl ?_
                obtain ⟨r26, σ27, h25, hF⟩ := gw_bnd hF
                refine fc_Wa_224 (As := [.int x1]) (st := [.ref (ad 1)]) (σ' := σ27) C (c_Ro_secondOf l D cI cL cZ ad h25) ⟨Nat.le_of_ble_eq_true rfl, Nat.le_of_ble_eq_true rfl⟩ ⟨Nat.le_of_ble_eq_true rfl, Nat.le_of_ble_eq_true rfl⟩ rfl (Nat.le_of_ble_eq_true rfl) d_Wa_reachFromRow_84 ?_
                obtain ⟨σ29, h28, hF⟩ := gw_bndv hF
                refine fc_Wa_280 (As := [.int r26]) (st := []) (σ' := σ29) C (c_Wa_reachPlaces l D cI cL cZ ad h28) ⟨Nat.le_of_ble_eq_true rfl, Nat.le_of_ble_eq_true rfl⟩ ⟨Nat.le_of_ble_eq_true rfl, Nat.le_of_ble_eq_true rfl⟩ rfl (Nat.le_of_ble_eq_true rfl) d_Wa_reachFromRow_87 ?_
                refine gw_goto (tgt := 93) C d_Wa_reachFromRow_90 (by decide) ?_
                refine gw_iinc (q := 1) (v := x1 + 1) (lv' := [(1, .int (x1 + 1)), (0, .ref (ad 1))]) C d_Wa_reachFromRow_93 rfl rfl (by decide) rfl ?_
                refine gw_goto (tgt := 2) C d_Wa_reachFromRow_96 (by decide) ?_
                refine gw_less [1, 0] rfl ?_
                exact k_Wa_reachFromRow_2 l C hr n _ _ hF
              · have hF := gw_neg h24 hF
                refine gw_tableOut (tgt := 93) C d_Wa_reachFromRow_21 (gw_out5 h5 h11 h17 h23 h24) (by decide) ?_
                refine gw_iinc (q := 1) (v := x1 + 1) (lv' := [(1, .int (x1 + 1)), (0, .ref (ad 1))]) C d_Wa_reachFromRow_93 rfl rfl (by decide) rfl ?_
                refine gw_goto (tgt := 2) C d_Wa_reachFromRow_96 (by decide) ?_
                refine gw_less [1, 0] rfl ?_
                exact k_Wa_reachFromRow_2 l C hr n _ _ hF
set_option maxRecDepth 100000 in
set_option maxHeartbeats 4000000 in
theorem c_Wa_reachFromRow (l : Launch) (D : va_G) (cI cL cZ : ClassId) (ad : Nat → Nat) {σ : St} {σ' : St} (hF : F_Wa_reachFromRow σ = some σ') : gw_M l y_Wa_reachFromRow w_Wa_reachFromRow rm_Wa_reachFromRow D gw_cl (gw_ty cI cL cZ) [.ref (ad 1)] (wC ad cI cL cZ σ) (wC ad cI cL cZ σ') none := by
  refine gw_start (cc := b_Wa_reachFromRow) (nL := 2) (ret := none) (by decide) rfl (Nat.le_of_ble_eq_true rfl) (fun p e s m below meth c A C hr _ => ?_)
  refine gw_eq (lv' := [(0, .ref (ad 1))]) rfl rfl ?_
  unfold F_Wa_reachFromRow at hF
  refine gw_iconst (v := 0) C d_Wa_reachFromRow_0 (by decide) ?_
  refine gw_istore_n (lv' := [(1, .int 0), (0, .ref (ad 1))]) C d_Wa_reachFromRow_1 rfl (by decide) rfl ?_
  refine gw_less [1, 0] rfl ?_
  exact k_Wa_reachFromRow_2 l C hr gw_N _ _ hF
