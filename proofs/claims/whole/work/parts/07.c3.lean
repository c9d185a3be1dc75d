set_option maxRecDepth 100000 in
set_option maxHeartbeats 4000000 in
theorem c_Th_putInWork (l : Launch) (D : va_G) (cI cL cZ : ClassId) (ad : Nat → Nat) {σ : St} {x1 : Int32} {x2 : Int32} {σ' : St} (hF : F_Th_putInWork σ x1 x2 = some σ') : gw_M l y_Th_putInWork w_Th_putInWork rm_Th_putInWork D gw_cl (gw_ty cI cL cZ) [.ref (ad 4), .int x1, .int x2] (wC ad cI cL cZ σ) (wC ad cI cL cZ σ') none := by
  refine gw_start (cc := b_Th_putInWork) (nL := 3) (ret := none) (by decide) rfl (Nat.le_of_ble_eq_true rfl) (fun p e s m below meth c A C hr _ => ?_)
  refine gw_eq (lv' := [(0, .ref (ad 4)), (1, .int x1), (2, .int x2)]) rfl rfl ?_
  unfold F_Th_putInWork at hF
  refine gw_aload_n C d_Th_putInWork_0 rfl 0 rfl ?_
  refine gw_iload_n C d_Th_putInWork_1 rfl 1 rfl ?_
  obtain ⟨r2, σ3, h1, hF⟩ := gw_bnd hF
  refine fc_Th_59 (As := [.int x1]) (st := []) (σ' := σ3) C (c_Th_has l D cI cL cZ ad h1) ⟨Nat.le_of_ble_eq_true rfl, Nat.le_of_ble_eq_true rfl⟩ ⟨Nat.le_of_ble_eq_true rfl, Nat.le_of_ble_eq_true rfl⟩ rfl (Nat.le_of_ble_eq_true rfl) d_Th_putInWork_2 ?_
  refine gw_if_eq (tgt := 22) C d_Th_putInWork_5 (by decide) (fun h4 => ?_) (fun h4 => ?_)
  · have hF := gw_pos h4 hF
    cases hF
    exact gw_vret C hr rfl d_Th_putInWork_22
  · have hF := gw_neg h4 hF
    refine gw_aload_n C d_Th_putInWork_8 rfl 0 rfl ?_
    refine fg_Th_9 C d_Th_putInWork_9 ?_
    refine gw_iload_n C d_Th_putInWork_12 rfl 1 rfl ?_
    refine gw_iconst (v := 1) C d_Th_putInWork_13 (by decide) ?_
    obtain ⟨h5, hF⟩ := gw_grd hF
    refine aswC_16 C h5 d_Th_putInWork_14 ?_
    refine gw_aload_n C d_Th_putInWork_15 rfl 0 rfl ?_
    refine fg_Th_24 C d_Th_putInWork_16 ?_
    refine gw_iload_n C d_Th_putInWork_19 rfl 1 rfl ?_
    refine gw_iload_n C d_Th_putInWork_20 rfl 2 rfl ?_
    obtain ⟨h6, hF⟩ := gw_grd hF
    refine aswC_20 C h6 d_Th_putInWork_21 ?_
    cases hF
    exact gw_vret C hr rfl d_Th_putInWork_22
set_option maxRecDepth 100000 in
set_option maxHeartbeats 4000000 in
theorem c_Ro_add (l : Launch) (D : va_G) (cI cL cZ : ClassId) (ad : Nat → Nat) {σ : St} {x1 : Int32} {x2 : Int32} {x3 : Int32} {x4 : Int64} {σ' : St} (hF : F_Ro_add σ x1 x2 x3 x4 = some σ') : gw_M l y_Ro_add w_Ro_add rm_Ro_add D gw_cl (gw_ty cI cL cZ) [.ref (ad 5), .int x1, .int x2, .int x3, .long x4] (wC ad cI cL cZ σ) (wC ad cI cL cZ σ') none := by
  refine gw_start (cc := b_Ro_add) (nL := 7) (ret := none) (by decide) rfl (Nat.le_of_ble_eq_true rfl) (fun p e s m below meth c A C hr _ => ?_)
  refine gw_eq (lv' := [(0, .ref (ad 5)), (1, .int x1), (2, .int x2), (3, .int x3), (4, .long x4)]) rfl rfl ?_
  unfold F_Ro_add at hF
  refine gw_aload_n C d_Ro_add_0 rfl 0 rfl ?_
  refine fg_Ro_25 (v := σ.1 17) C rfl d_Ro_add_1 ?_
  refine gw_istore (lv' := [(6, .int (σ.1 17)), (0, .ref (ad 5)), (1, .int x1), (2, .int x2), (3, .int x3), (4, .long x4)]) C d_Ro_add_4 (by decide) rfl ?_
  refine gw_iload C d_Ro_add_6 0 rfl ?_
  refine gw_if_lt (tgt := 19) C d_Ro_add_8 (by decide) (fun h1 => ?_) (fun h1 => ?_)
  · have hF := gw_pos h1 hF
    cases hF
    exact gw_vret C hr rfl d_Ro_add_19
  · have hF := gw_neg h1 hF
    refine gw_iload C d_Ro_add_11 0 rfl ?_
    refine gw_sipush (v := 300) C d_Ro_add_13 (by decide) ?_
    refine gw_icmp_lt (tgt := 20) C d_Ro_add_16 (by decide) (fun h2 => ?_) (fun h2 => ?_)
    · have hF := gw_pos h2 hF
      refine gw_aload_n C d_Ro_add_20 rfl 1 rfl ?_
      refine fg_Ro_9 C d_Ro_add_21 ?_
      refine gw_iload C d_Ro_add_24 0 rfl ?_
      refine gw_iload_n C d_Ro_add_26 rfl 2 rfl ?_
      obtain ⟨h3, hF⟩ := gw_grd hF
      refine aswC_28 C h3 d_Ro_add_27 ?_
      refine gw_aload_n C d_Ro_add_28 rfl 1 rfl ?_
      refine fg_Ro_15 C d_Ro_add_29 ?_
      refine gw_iload C d_Ro_add_32 0 rfl ?_
      refine gw_iload_n C d_Ro_add_34 rfl 3 rfl ?_
      obtain ⟨h4, hF⟩ := gw_grd hF
      refine aswC_29 C h4 d_Ro_add_35 ?_
      refine gw_aload_n C d_Ro_add_36 rfl 1 rfl ?_
      refine fg_Ro_18 C d_Ro_add_37 ?_
      refine gw_iload C d_Ro_add_40 0 rfl ?_
      refine gw_iload_n C d_Ro_add_42 rfl 4 rfl ?_
      obtain ⟨h5, hF⟩ := gw_grd hF
      refine aswC_30 C h5 d_Ro_add_43 ?_
      refine gw_aload_n C d_Ro_add_44 rfl 1 rfl ?_
      refine fg_Ro_21 C d_Ro_add_45 ?_
      refine gw_iload C d_Ro_add_48 0 rfl ?_
      refine gw_lload C d_Ro_add_50 5 rfl ?_
      obtain ⟨h6, hF⟩ := gw_grd hF
      refine aswC_31 C h6 d_Ro_add_52 ?_
      refine gw_aload_n C d_Ro_add_53 rfl 1 rfl ?_
      refine gw_iload C d_Ro_add_54 0 rfl ?_
      refine gw_iconst (v := 1) C d_Ro_add_56 (by decide) ?_
      refine gw_iadd C d_Ro_add_57 ?_
      refine fp_Ro_25 C d_Ro_add_58 ?_
      refine gw_aload_n C d_Ro_add_61 rfl 1 rfl ?_
      refine fg_Ro_25 (v := (σ.1 17) + 1) C rfl d_Ro_add_62 ?_
      refine gw_aload_n C d_Ro_add_65 rfl 1 rfl ?_
      refine fg_Ro_29 (v := σ.1 18) C rfl d_Ro_add_66 ?_
      refine gw_icmp_le (tgt := 80) C d_Ro_add_69 (by decide) (fun h7 => ?_) (fun h7 => ?_)
      · have hF := gw_pos h7 hF
        cases hF
        exact gw_vret C hr rfl d_Ro_add_80
      · have hF := gw_neg h7 hF
        refine gw_aload_n C d_Ro_add_72 rfl 1 rfl ?_
        refine gw_aload_n C d_Ro_add_73 rfl 1 rfl ?_
        refine fg_Ro_25 (v := (σ.1 17) + 1) C rfl d_Ro_add_74 ?_
        refine fp_Ro_29 C d_Ro_add_77 ?_
        cases hF
        exact gw_vret C hr rfl d_Ro_add_80
    · have hF := gw_neg h2 hF
      cases hF
      exact gw_vret C hr rfl d_Ro_add_19
set_option maxRecDepth 100000 in
set_option maxHeartbeats 4000000 in
theorem c_Th_termOf (l : Launch) (D : va_G) (cI cL cZ : ClassId) (ad : Nat → Nat) {σ : St} {x1 : Int32} {r : Int32} {σ' : St} (hF : F_Th_termOf σ x1 = some (r, σ')) : gw_M l y_Th_termOf w_Th_termOf rm_Th_termOf D gw_cl (gw_ty cI cL cZ) [.ref (ad 4), .int x1] (wC ad cI cL cZ σ) (wC ad cI cL cZ σ') (some (.int r)) := by
  refine gw_start (cc := b_Th_termOf) (nL := 2) (ret := (some .int)) (by decide) rfl (Nat.le_of_ble_eq_true rfl) (fun p e s m below meth c A C hr _ => ?_)
  refine gw_eq (lv' := [(0, .ref (ad 4)), (1, .int x1)]) rfl rfl ?_
  unfold F_Th_termOf at hF
  refine gw_aload_n C d_Th_termOf_0 rfl 0 rfl ?_
  refine gw_iload_n C d_Th_termOf_1 rfl 1 rfl ?_
  obtain ⟨r2, σ3, h1, hF⟩ := gw_bnd hF
  refine fc_Th_59 (As := [.int x1]) (st := []) (σ' := σ3) C (c_Th_has l D cI cL cZ ad h1) ⟨Nat.le_of_ble_eq_true rfl, Nat.le_of_ble_eq_true rfl⟩ ⟨Nat.le_of_ble_eq_true rfl, Nat.le_of_ble_eq_true rfl⟩ rfl (Nat.le_of_ble_eq_true rfl) d_Th_termOf_2 ?_
  refine gw_if_eq (tgt := 17) C d_Th_termOf_5 (by decide) (fun h4 => ?_) (fun h4 => ?_)
  · have hF := gw_pos h4 hF
    refine gw_iconst (v := (-1)) C d_Th_termOf_17 (by decide) ?_
    cases hF
    exact gw_iret C hr rfl d_Th_termOf_18
  · have hF := gw_neg h4 hF
    refine gw_aload_n C d_Th_termOf_8 rfl 0 rfl ?_
    refine fg_Th_15 C d_Th_termOf_9 ?_
    refine gw_iload_n C d_Th_termOf_12 rfl 1 rfl ?_
    obtain ⟨h5, hF⟩ := gw_grd hF
    refine alwC_17 (v := σ3.2.1 9 x1.toNatClampNeg) C h5 rfl d_Th_termOf_13 ?_
    refine gw_goto (tgt := 18) C d_Th_termOf_14 (by decide) ?_
    cases hF
    exact gw_iret C hr rfl d_Th_termOf_18
set_option maxRecDepth 100000 in
set_option maxHeartbeats 4000000 in
theorem k_Wa_needWaiting_38 {p : Program} (l : Launch) {e : Env} {s : State} {m : MethodId} {args : Array Value} {below : List Frame} {meth : Method} {c : Code} {D : va_G} {A : Nat → Prop} {cI cL cZ : ClassId} {ad : Nat → Nat} (C : gw_C p s m args meth c b_Wa_needWaiting 3 R_Wa D gw_cl (gw_ty cI cL cZ) A) (hr : meth.sig.returnType = none) {σ : St} {x1 : Int32} {σ' : St} (hF : K_Wa_needWaiting_38 σ x1 = some σ') : gw_W p l e rm_Wa_needWaiting s m args below meth c D gw_cl A (MQ below (gw_Qc D gw_cl (wC ad cI cL cZ σ') none A) args s 0 0 A) 0 0 3 (wC ad cI cL cZ σ) [(0, .ref (ad 1)), (1, .int x1)] 38 [] := by
  unfold K_Wa_needWaiting_38 at hF
  refine gw_aload_n C d_Wa_needWaiting_38 rfl 0 rfl ?_
  refine gw_dup C d_Wa_needWaiting_39 rfl ?_
  refine fg_Wa_72 (v := σ.1 8) C rfl d_Wa_needWaiting_40 ?_
  refine gw_iconst (v := 1) C d_Wa_needWaiting_43 (by decide) ?_
  refine gw_iadd C d_Wa_needWaiting_44 ?_
  refine fp_Wa_72 C d_Wa_needWaiting_45 ?_
  refine gw_aload_n C d_Wa_needWaiting_48 rfl 0 rfl ?_
  refine fg_Wa_28 C d_Wa_needWaiting_49 ?_
  refine gw_iload_n C d_Wa_needWaiting_52 rfl 1 rfl ?_
  obtain ⟨σ4, h3, hF⟩ := gw_bndv hF
  refine fc_Wa_200 (As := [.int x1]) (st := []) (σ' := σ4) C (c_Th_countWork l D cI cL cZ ad h3) ⟨Nat.le_of_ble_eq_true rfl, Nat.le_of_ble_eq_true rfl⟩ ⟨Nat.le_of_ble_eq_true rfl, Nat.le_of_ble_eq_true rfl⟩ rfl (Nat.le_of_ble_eq_true rfl) d_Wa_needWaiting_53 ?_
  refine gw_aload_n C d_Wa_needWaiting_56 rfl 0 rfl ?_
  refine fg_Wa_50 (v := σ4.1 1) C rfl d_Wa_needWaiting_57 ?_
  refine gw_if_eq (tgt := 89) C d_Wa_needWaiting_60 (by decide) (fun h5 => ?_) (fun h5 => ?_)
  · have hF := gw_pos h5 hF
    refine gw_aload_n C d_Wa_needWaiting_89 rfl 0 rfl ?_
    refine gw_aload_n C d_Wa_needWaiting_90 rfl 0 rfl ?_
    refine fg_Wa_28 C d_Wa_needWaiting_91 ?_
    refine gw_iload_n C d_Wa_needWaiting_94 rfl 1 rfl ?_
    obtain ⟨r7, σ8, h6, hF⟩ := gw_bnd hF
    refine fc_Wa_209 (As := [.int x1]) (st := [.ref (ad 1)]) (σ' := σ8) C (c_Th_termOf l D cI cL cZ ad h6) ⟨Nat.le_of_ble_eq_true rfl, Nat.le_of_ble_eq_true rfl⟩ ⟨Nat.le_of_ble_eq_true rfl, Nat.le_of_ble_eq_true rfl⟩ rfl (Nat.le_of_ble_eq_true rfl) d_Wa_needWaiting_95 ?_
    refine gw_aload_n C d_Wa_needWaiting_98 rfl 0 rfl ?_
    refine fg_Wa_28 C d_Wa_needWaiting_99 ?_
    refine gw_iload_n C d_Wa_needWaiting_102 rfl 1 rfl ?_
    obtain ⟨r10, σ11, h9, hF⟩ := gw_bnd hF
    refine fc_Wa_212 (As := [.int x1]) (st := [.int r7, .ref (ad 1)]) (σ' := σ11) C (c_Th_placesOf l D cI cL cZ ad h9) ⟨Nat.le_of_ble_eq_true rfl, Nat.le_of_ble_eq_true rfl⟩ ⟨Nat.le_of_ble_eq_true rfl, Nat.le_of_ble_eq_true rfl⟩ rfl (Nat.le_of_ble_eq_true rfl) d_Wa_needWaiting_103 ?_
    obtain ⟨σ13, h12, hF⟩ := gw_bndv hF
    refine fc_Wa_93 (As := [.int r7, .int r10]) (st := []) (σ' := σ13) C (c_Wa_takeTerm l D cI cL cZ ad h12) ⟨Nat.le_of_ble_eq_true rfl, Nat.le_of_ble_eq_true rfl⟩ ⟨Nat.le_of_ble_eq_true rfl, Nat.le_of_ble_eq_true rfl⟩ rfl (Nat.le_of_ble_eq_true rfl) d_Wa_needWaiting_106 ?_
    cases hF
    exact gw_vret C hr rfl d_Wa_needWaiting_109
  · have hF := gw_neg h5 hF
    refine gw_aload_n C d_Wa_needWaiting_63 rfl 0 rfl ?_
    refine fg_Wa_28 C d_Wa_needWaiting_64 ?_
    refine gw_iload_n C d_Wa_needWaiting_67 rfl 1 rfl ?_
    refine gw_aload_n C d_Wa_needWaiting_68 rfl 0 rfl ?_
    refine fg_Wa_35 C d_Wa_needWaiting_69 ?_
    obtain ⟨r15, σ16, h14, hF⟩ := gw_bnd hF
    refine fc_Wa_203 (As := []) (st := [.int x1, .ref (ad 4)]) (σ' := σ16) C (c_Ro_newestInWork l D cI cL cZ ad h14) ⟨Nat.le_of_ble_eq_true rfl, Nat.le_of_ble_eq_true rfl⟩ ⟨Nat.le_of_ble_eq_true rfl, Nat.le_of_ble_eq_true rfl⟩ rfl (Nat.le_of_ble_eq_true rfl) d_Wa_needWaiting_72 ?_
    obtain ⟨σ18, h17, hF⟩ := gw_bndv hF
    refine fc_Wa_206 (As := [.int x1, .int r15]) (st := []) (σ' := σ18) C (c_Th_putInWork l D cI cL cZ ad h17) ⟨Nat.le_of_ble_eq_true rfl, Nat.le_of_ble_eq_true rfl⟩ ⟨Nat.le_of_ble_eq_true rfl, Nat.le_of_ble_eq_true rfl⟩ rfl (Nat.le_of_ble_eq_true rfl) d_Wa_needWaiting_75 ?_
    refine gw_aload_n C d_Wa_needWaiting_78 rfl 0 rfl ?_
    refine fg_Wa_35 C d_Wa_needWaiting_79 ?_
    refine gw_iconst (v := 0) C d_Wa_needWaiting_82 (by decide) ?_
    refine gw_iload_n C d_Wa_needWaiting_83 rfl 1 rfl ?_
    refine gw_iconst (v := (-1)) C d_Wa_needWaiting_84 (by decide) ?_
    refine gw_lconst (v := 0) C d_Wa_needWaiting_85 rfl ?_
    obtain ⟨σ20, h19, hF⟩ := gw_bndv hF
    refine fc_Wa_182 (As := [.int 0, .int x1, .int (-1), .long 0]) (st := []) (σ' := σ20) C (c_Ro_add l D cI cL cZ ad h19) ⟨Nat.le_of_ble_eq_true rfl, Nat.le_of_ble_eq_true rfl⟩ ⟨Nat.le_of_ble_eq_true rfl, Nat.le_of_ble_eq_true rfl⟩ rfl (Nat.le_of_ble_eq_true rfl) d_Wa_needWaiting_86 ?_
    refine gw_aload_n C d_Wa_needWaiting_89 rfl 0 rfl ?_
    refine gw_aload_n C d_Wa_needWaiting_90 rfl 0 rfl ?_
    refine fg_Wa_28 C d_Wa_needWaiting_91 ?_
    refine gw_iload_n C d_Wa_needWaiting_94 rfl 1 rfl ?_
    obtain ⟨r22, σ23, h21, hF⟩ := gw_bnd hF
    refine fc_Wa_209 (As := [.int x1]) (st := [.ref (ad 1)]) (σ' := σ23) C (c_Th_termOf l D cI cL cZ ad h21) ⟨Nat.le_of_ble_eq_true rfl, Nat.le_of_ble_eq_true rfl⟩ ⟨Nat.le_of_ble_eq_true rfl, Nat.le_of_ble_eq_true rfl⟩ rfl (Nat.le_of_ble_eq_true rfl) d_Wa_needWaiting_95 ?_
    refine gw_aload_n C d_Wa_needWaiting_98 rfl 0 rfl ?_
    refine fg_Wa_28 C d_Wa_needWaiting_99 ?_
    refine gw_iload_n C d_Wa_needWaiting_102 rfl 1 rfl ?_
    obtain ⟨r25, σ26, h24, hF⟩ := gw_bnd hF
    refine fc_Wa_212 (As := [.int x1]) (st := [.int r22, .ref (ad 1)]) (σ' := σ26) C (c_Th_placesOf l D cI cL cZ ad h24) ⟨Nat.le_of_ble_eq_true rfl, Nat.le_of_ble_eq_true rfl⟩ ⟨Nat.le_of_ble_eq_true rfl, Nat.le_of_ble_eq_true rfl⟩ rfl (Nat.le_of_ble_eq_true rfl) d_Wa_needWaiting_103 ?_
    obtain ⟨σ28, h27, hF⟩ := gw_bndv hF
    refine fc_Wa_93 (As := [.int r22, .int r25]) (st := []) (σ' := σ28) C (c_Wa_takeTerm l D cI cL cZ ad h27) ⟨Nat.le_of_ble_eq_true rfl, Nat.le_of_ble_eq_true rfl⟩ ⟨Nat.le_of_ble_eq_true rfl, Nat.le_of_ble_eq_true rfl⟩ rfl (Nat.le_of_ble_eq_true rfl) d_Wa_needWaiting_106 ?_
    cases hF
    exact gw_vret C hr rfl d_Wa_needWaiting_109
set_option maxRecDepth 100000 in
set_option maxHeartbeats 4000000 in
theorem k_Wa_needWaiting_27 {p : Program} (l : Launch) {e : Env} {s : State} {m : MethodId} {args : Array Value} {below : List Frame} {meth : Method} {c : Code} {D : va_G} {A : Nat → Prop} {cI cL cZ : ClassId} {ad : Nat → Nat} (C : gw_C p s m args meth c b_Wa_needWaiting 3 R_Wa D gw_cl (gw_ty cI cL cZ) A) (hr : meth.sig.returnType = none) {σ : St} {x1 : Int32} {x2 : Int32} {σ' : St} (hF : K_Wa_needWaiting_27 σ x1 x2 = some σ') : gw_W p l e rm_Wa_needWaiting s m args below meth c D gw_cl A (MQ below (gw_Qc D gw_cl (wC ad cI cL cZ σ') none A) args s 0 0 A) 0 0 3 (wC ad cI cL cZ σ) [(0, .ref (ad 1)), (1, .int x1), (2, .int x2)] 27 [] := by
  unfold K_Wa_needWaiting_27 at hF
  refine gw_iload_n C d_Wa_needWaiting_27 rfl 2 rfl ?_
  refine gw_if_eq (tgt := 38) C d_Wa_needWaiting_28 (by decide) (fun h2 => ?_) (fun h2 => ?_)
  · have hF := gw_pos h2 hF
    refine gw_less [0, 1] rfl ?_
    exact k_Wa_needWaiting_38 l C hr hF
  · have hF := gw_neg h2 hF
    refine gw_aload_n C d_Wa_needWaiting_31 rfl 0 rfl ?_
    refine fg_Wa_35 C d_Wa_needWaiting_32 ?_
    obtain ⟨σ30, h29, hF⟩ := gw_bndv hF
    refine fc_Wa_190 (As := []) (st := []) (σ' := σ30) C (c_Ro_drop l D cI cL cZ ad h29) ⟨Nat.le_of_ble_eq_true rfl, Nat.le_of_ble_eq_true rfl⟩ ⟨Nat.le_of_ble_eq_true rfl, Nat.le_of_ble_eq_true rfl⟩ rfl (Nat.le_of_ble_eq_true rfl) d_Wa_needWaiting_35 ?_
    refine gw_less [0, 1] rfl ?_
    exact k_Wa_needWaiting_38 l C hr hF
set_option maxRecDepth 100000 in
set_option maxHeartbeats 4000000 in
theorem c_Wa_needWaiting (l : Launch) (D : va_G) (cI cL cZ : ClassId) (ad : Nat → Nat) {σ : St} {x1 : Int32} {x2 : Int32} {σ' : St} (hF : F_Wa_needWaiting σ x1 x2 = some σ') : gw_M l y_Wa_needWaiting w_Wa_needWaiting rm_Wa_needWaiting D gw_cl (gw_ty cI cL cZ) [.ref (ad 1), .int x1, .int x2] (wC ad cI cL cZ σ) (wC ad cI cL cZ σ') none := by
  refine gw_start (cc := b_Wa_needWaiting) (nL := 3) (ret := none) (by decide) rfl (Nat.le_of_ble_eq_true rfl) (fun p e s m below meth c A C hr _ => ?_)
  refine gw_eq (lv' := [(0, .ref (ad 1)), (1, .int x1), (2, .int x2)]) rfl rfl ?_
  unfold F_Wa_needWaiting at hF
  refine gw_aload_n C d_Wa_needWaiting_0 rfl 0 rfl ?_
  refine fg_Wa_50 (v := σ.1 1) C rfl d_Wa_needWaiting_1 ?_
  refine gw_if_eq (tgt := 27) C d_Wa_needWaiting_4 (by decide) (fun h1 => ?_) (fun h1 => ?_)
  · have hF := gw_pos h1 hF
    exact k_Wa_needWaiting_27 l C hr hF
  · have hF := gw_neg h1 hF
    refine gw_iload_n C d_Wa_needWaiting_7 rfl 2 rfl ?_
    refine gw_if_ne (tgt := 27) C d_Wa_needWaiting_8 (by decide) (fun h31 => ?_) (fun h31 => ?_)
    · have hF := gw_neg h31 hF
      exact k_Wa_needWaiting_27 l C hr hF
    · have hF := gw_pos h31 hF
      refine gw_aload_n C d_Wa_needWaiting_11 rfl 0 rfl ?_
      refine fg_Wa_35 C d_Wa_needWaiting_12 ?_
      obtain ⟨r33, σ34, h32, hF⟩ := gw_bnd hF
      refine fc_Wa_178 (As := []) (st := []) (σ' := σ34) C (c_Ro_isFull l D cI cL cZ ad h32) ⟨Nat.le_of_ble_eq_true rfl, Nat.le_of_ble_eq_true rfl⟩ ⟨Nat.le_of_ble_eq_true rfl, Nat.le_of_ble_eq_true rfl⟩ rfl (Nat.le_of_ble_eq_true rfl) d_Wa_needWaiting_15 ?_
      refine gw_if_eq (tgt := 27) C d_Wa_needWaiting_18 (by decide) (fun h35 => ?_) (fun h35 => ?_)
      · have hF := gw_pos h35 hF
        exact k_Wa_needWaiting_27 l C hr hF
      · have hF := gw_neg h35 hF
        refine gw_aload_n C d_Wa_needWaiting_21 rfl 0 rfl ?_
        refine gw_iconst (v := 5) C d_Wa_needWaiting_22 (by decide) ?_
        refine fp_Wa_46 C d_Wa_needWaiting_23 ?_
        cases hF
        exact gw_vret C hr rfl d_Wa_needWaiting_26
set_option maxRecDepth 100000 in
set_option maxHeartbeats 4000000 in
theorem k_Wa_need_47 {p : Program} (l : Launch) {e : Env} {s : State} {m : MethodId} {args : Array Value} {below : List Frame} {meth : Method} {c : Code} {D : va_G} {A : Nat → Prop} {cI cL cZ : ClassId} {ad : Nat → Nat} (C : gw_C p s m args meth c b_Wa_need 3 R_Wa D gw_cl (gw_ty cI cL cZ) A) (hr : meth.sig.returnType = none) {σ : St} {x1 : Int32} {σ' : St} (hF : K_Wa_need_47 σ x1 = some σ') : gw_W p l e rm_Wa_need s m args below meth c D gw_cl A (MQ below (gw_Qc D gw_cl (wC ad cI cL cZ σ') none A) args s 0 0 A) 0 0 3 (wC ad cI cL cZ σ) [(0, .ref (ad 1)), (1, .int x1)] 47 [] := by
  unfold K_Wa_need_47 at hF
  refine gw_aload_n C d_Wa_need_47 rfl 0 rfl ?_
  refine gw_dup C d_Wa_need_48 rfl ?_
  refine fg_Wa_69 (v := σ.1 7) C rfl d_Wa_need_49 ?_
  refine gw_iconst (v := 1) C d_Wa_need_52 (by decide) ?_
  refine gw_iadd C d_Wa_need_53 ?_
  refine fp_Wa_69 C d_Wa_need_54 ?_
  refine gw_aload_n C d_Wa_need_57 rfl 0 rfl ?_
  refine fg_Wa_28 C d_Wa_need_58 ?_
  refine gw_iload_n C d_Wa_need_61 rfl 1 rfl ?_
  refine gw_aload_n C d_Wa_need_62 rfl 0 rfl ?_
  refine fg_Wa_42 C d_Wa_need_63 ?_
  obtain ⟨σ11, h10, hF⟩ := gw_bndv hF
  refine fc_Wa_193 (As := [.int x1, .ref (ad 6)]) (st := []) (σ' := σ11) C (c_Th_copyValue l D cI cL cZ ad h10) ⟨Nat.le_of_ble_eq_true rfl, Nat.le_of_ble_eq_true rfl⟩ ⟨Nat.le_of_ble_eq_true rfl, Nat.le_of_ble_eq_true rfl⟩ rfl (Nat.le_of_ble_eq_true rfl) d_Wa_need_66 ?_
  refine gw_aload_n C d_Wa_need_69 rfl 0 rfl ?_
  refine gw_iconst (v := 1) C d_Wa_need_70 (by decide) ?_
  refine fp_Wa_54 C d_Wa_need_71 ?_
  refine gw_goto (tgt := 104) C d_Wa_need_74 (by decide) ?_
  cases hF
  exact gw_vret C hr rfl d_Wa_need_104
set_option maxRecDepth 100000 in
set_option maxHeartbeats 4000000 in
theorem c_Wa_need (l : Launch) (D : va_G) (cI cL cZ : ClassId) (ad : Nat → Nat) {σ : St} {x1 : Int32} {x2 : Int32} {σ' : St} (hF : F_Wa_need σ x1 x2 = some σ') : gw_M l y_Wa_need w_Wa_need rm_Wa_need D gw_cl (gw_ty cI cL cZ) [.ref (ad 1), .int x1, .int x2] (wC ad cI cL cZ σ) (wC ad cI cL cZ σ') none := by
  refine gw_start (cc := b_Wa_need) (nL := 3) (ret := none) (by decide) rfl (Nat.le_of_ble_eq_true rfl) (fun p e s m below meth c A C hr _ => ?_)
  refine gw_eq (lv' := [(0, .ref (ad 1)), (1, .int x1), (2, .int x2)]) rfl rfl ?_
  unfold F_Wa_need at hF
  refine gw_aload_n C d_Wa_need_0 rfl 0 rfl ?_
  refine fg_Wa_28 C d_Wa_need_1 ?_
  refine gw_iload_n C d_Wa_need_4 rfl 1 rfl ?_
  obtain ⟨r2, σ3, h1, hF⟩ := gw_bnd hF
  refine fc_Wa_187 (As := [.int x1]) (st := []) (σ' := σ3) C (c_Th_stateOf l D cI cL cZ ad h1) ⟨Nat.le_of_ble_eq_true rfl, Nat.le_of_ble_eq_true rfl⟩ ⟨Nat.le_of_ble_eq_true rfl, Nat.le_of_ble_eq_true rfl⟩ rfl (Nat.le_of_ble_eq_true rfl) d_Wa_need_5 ?_
  by_cases h4 : r2 = 0
  · have hF := gw_pos h4 hF
    refine gw_tableIn (tgt := 77) C d_Wa_need_8 (by rw [h4]; decide) (by rw [h4]; decide) (by rw [h4]; rfl) (by decide) ?_
    refine gw_aload_n C d_Wa_need_77 rfl 0 rfl ?_
    refine gw_iload_n C d_Wa_need_78 rfl 1 rfl ?_
    refine gw_iload_n C d_Wa_need_79 rfl 2 rfl ?_
    obtain ⟨σ6, h5, hF⟩ := gw_bndv hF
    refine fc_Wa_197 (As := [.int x1, .int x2]) (st := []) (σ' := σ6) C (c_Wa_needWaiting l D cI cL cZ ad h5) ⟨Nat.le_of_ble_eq_true rfl, Nat.le_of_ble_eq_true rfl⟩ ⟨Nat.le_of_ble_eq_true rfl, Nat.le_of_ble_eq_true rfl⟩ rfl (Nat.le_of_ble_eq_true rfl) d_Wa_need_80 ?_
    refine gw_goto (tgt := 104) C d_Wa_need_83 (by decide) ?_
    cases hF
    exact gw_vret C hr rfl d_Wa_need_104
  · have hF := gw_neg h4 hF
    by_cases h7 : r2 = 1
    · have hF := gw_pos h7 hF
      refine gw_tableIn (tgt := 86) C d_Wa_need_8 (by rw [h7]; decide) (by rw [h7]; decide) (by rw [h7]; rfl) (by decide) ?_
      refine gw_aload_n C d_Wa_need_86 rfl 0 rfl ?_
      refine gw_iload_n C d_Wa_need_87 rfl 1 rfl ?_
      refine fp_Wa_75 C d_Wa_need_88 ?_
      refine gw_aload_n C d_Wa_need_91 rfl 0 rfl ?_
      refine gw_iconst (v := 3) C d_Wa_need_92 (by decide) ?_
      refine fp_Wa_46 C d_Wa_need_93 ?_
      refine gw_goto (tgt := 104) C d_Wa_need_96 (by decide) ?_
      cases hF
      exact gw_vret C hr rfl d_Wa_need_104
    · have hF := gw_neg h7 hF
      by_cases h8 : r2 = 2
      · have hF := gw_pos h8 hF
        refine gw_tableIn (tgt := 36) C d_Wa_need_8 (by rw [h8]; decide) (by rw [h8]; decide) (by rw [h8]; rfl) (by decide) ?_
        refine gw_iload_n C d_Wa_need_36 rfl 2 rfl ?_
        refine gw_if_eq (tgt := 47) C d_Wa_need_37 (by decide) (fun h9 => ?_) (fun h9 => ?_)
        · have hF := gw_pos h9 hF
          refine gw_less [0, 1] rfl ?_
          exact k_Wa_need_47 l C hr hF
        · have hF := gw_neg h9 hF
          refine gw_aload_n C d_Wa_need_40 rfl 0 rfl ?_
          refine fg_Wa_35 C d_Wa_need_41 ?_
          obtain ⟨σ13, h12, hF⟩ := gw_bndv hF
          refine fc_Wa_190 (As := []) (st := []) (σ' := σ13) C (c_Ro_drop l D cI cL cZ ad h12) ⟨Nat.le_of_ble_eq_true rfl, Nat.le_of_ble_eq_true rfl⟩ ⟨Nat.le_of_ble_eq_true rfl, Nat.le_of_ble_eq_true rfl⟩ rfl (Nat.le_of_ble_eq_true rfl) d_Wa_need_44 ?_
          refine gw_less [0, 1] rfl ?_
          exact k_Wa_need_47 l C hr hF
      · have hF := gw_neg h8 hF
        refine gw_tableOut (tgt := 99) C d_Wa_need_8 (gw_out3 h4 h7 h8) (by decide) ?_
        refine gw_aload_n C d_Wa_need_99 rfl 0 rfl ?_
        refine gw_iconst (v := 4) C d_Wa_need_100 (by decide) ?_
        refine fp_Wa_46 C d_Wa_need_101 ?_
        cases hF
        exact gw_vret C hr rfl d_Wa_need_104
set_option maxRecDepth 100000 in
set_option maxHeartbeats 4000000 in
theorem c_Te_secondOf (l : Launch) (D : va_G) (cI cL cZ : ClassId) (ad : Nat → Nat) {σ : St} {x1 : Int32} {r : Int32} {σ' : St} (hF : F_Te_secondOf σ x1 = some (r, σ')) : gw_M l y_Te_secondOf w_Te_secondOf rm_Te_secondOf D gw_cl (gw_ty cI cL cZ) [.ref (ad 2), .int x1] (wC ad cI cL cZ σ) (wC ad cI cL cZ σ') (some (.int r)) := by
  refine gw_start (cc := b_Te_secondOf) (nL := 2) (ret := (some .int)) (by decide) rfl (Nat.le_of_ble_eq_true rfl) (fun p e s m below meth c A C hr _ => ?_)
  refine gw_eq (lv' := [(0, .ref (ad 2)), (1, .int x1)]) rfl rfl ?_
  unfold F_Te_secondOf at hF
  refine gw_aload_n C d_Te_secondOf_0 rfl 0 rfl ?_
  refine gw_iload_n C d_Te_secondOf_1 rfl 1 rfl ?_
  obtain ⟨r2, σ3, h1, hF⟩ := gw_bnd hF
  refine fc_Te_52 (As := [.int x1]) (st := []) (σ' := σ3) C (c_Te_has l D cI cL cZ ad h1) ⟨Nat.le_of_ble_eq_true rfl, Nat.le_of_ble_eq_true rfl⟩ ⟨Nat.le_of_ble_eq_true rfl, Nat.le_of_ble_eq_true rfl⟩ rfl (Nat.le_of_ble_eq_true rfl) d_Te_secondOf_2 ?_
  refine gw_if_eq (tgt := 17) C d_Te_secondOf_5 (by decide) (fun h4 => ?_) (fun h4 => ?_)
  · have hF := gw_pos h4 hF
    refine gw_iconst (v := (-1)) C d_Te_secondOf_17 (by decide) ?_
    cases hF
    exact gw_iret C hr rfl d_Te_secondOf_18
  · have hF := gw_neg h4 hF
    refine gw_aload_n C d_Te_secondOf_8 rfl 0 rfl ?_
    refine fg_Te_18 C d_Te_secondOf_9 ?_
    refine gw_iload_n C d_Te_secondOf_12 rfl 1 rfl ?_
    obtain ⟨h5, hF⟩ := gw_grd hF
    refine alwC_9 (v := σ3.2.1 2 x1.toNatClampNeg) C h5 rfl d_Te_secondOf_13 ?_
    refine gw_goto (tgt := 18) C d_Te_secondOf_14 (by decide) ?_
    cases hF
    exact gw_iret C hr rfl d_Te_secondOf_18
set_option maxRecDepth 100000 in
set_option maxHeartbeats 4000000 in
theorem c_Wa_newThingsFor (l : Launch) (D : va_G) (cI cL cZ : ClassId) (ad : Nat → Nat) {σ : St} {x1 : Int32} {r : Int32} {σ' : St} (hF : F_Wa_newThingsFor σ x1 = some (r, σ')) : gw_M l y_Wa_newThingsFor w_Wa_newThingsFor rm_Wa_newThingsFor D gw_cl (gw_ty cI cL cZ) [.ref (ad 1), .int x1] (wC ad cI cL cZ σ) (wC ad cI cL cZ σ') (some (.int r)) := by
  refine gw_start (cc := b_Wa_newThingsFor) (nL := 2) (ret := (some .int)) (by decide) rfl (Nat.le_of_ble_eq_true rfl) (fun p e s m below meth c A C hr _ => ?_)
  refine gw_eq (lv' := [(0, .ref (ad 1)), (1, .int x1)]) rfl rfl ?_
  unfold F_Wa_newThingsFor at hF
  refine gw_aload_n C d_Wa_newThingsFor_0 rfl 0 rfl ?_
  refine fg_Wa_12 C d_Wa_newThingsFor_1 ?_
  refine gw_iload_n C d_Wa_newThingsFor_4 rfl 1 rfl ?_
  obtain ⟨r2, σ3, h1, hF⟩ := gw_bnd hF
  refine fc_Wa_131 (As := [.int x1]) (st := []) (σ' := σ3) C (c_Te_sortOf l D cI cL cZ ad h1) ⟨Nat.le_of_ble_eq_true rfl, Nat.le_of_ble_eq_true rfl⟩ ⟨Nat.le_of_ble_eq_true rfl, Nat.le_of_ble_eq_true rfl⟩ rfl (Nat.le_of_ble_eq_true rfl) d_Wa_newThingsFor_5 ?_
  refine gw_iconst (v := 1) C d_Wa_newThingsFor_8 (by decide) ?_
  refine gw_icmp_ne (tgt := 16) C d_Wa_newThingsFor_9 (by decide) (fun h4 => ?_) (fun h4 => ?_)
  · have hF := gw_neg h4 hF
    refine gw_iconst (v := 1) C d_Wa_newThingsFor_16 (by decide) ?_
    cases hF
    exact gw_iret C hr rfl d_Wa_newThingsFor_17
  · have hF := gw_pos h4 hF
    refine gw_iconst (v := 0) C d_Wa_newThingsFor_12 (by decide) ?_
    refine gw_goto (tgt := 17) C d_Wa_newThingsFor_13 (by decide) ?_
    cases hF
    exact gw_iret C hr rfl d_Wa_newThingsFor_17
set_option maxRecDepth 100000 in
set_option maxHeartbeats 4000000 in
theorem c_Th_hasRoomFor (l : Launch) (D : va_G) (cI cL cZ : ClassId) (ad : Nat → Nat) {σ : St} {x1 : Int32} {r : Int32} {σ' : St} (hF : F_Th_hasRoomFor σ x1 = some (r, σ')) : gw_M l y_Th_hasRoomFor w_Th_hasRoomFor rm_Th_hasRoomFor D gw_cl (gw_ty cI cL cZ) [.ref (ad 4), .int x1] (wC ad cI cL cZ σ) (wC ad cI cL cZ σ') (some (.int r)) := by
  refine gw_start (cc := b_Th_hasRoomFor) (nL := 2) (ret := (some .boolean)) (by decide) rfl (Nat.le_of_ble_eq_true rfl) (fun p e s m below meth c A C hr _ => ?_)
  refine gw_eq (lv' := [(0, .ref (ad 4)), (1, .int x1)]) rfl rfl ?_
  unfold F_Th_hasRoomFor at hF
  refine gw_aload_n C d_Th_hasRoomFor_0 rfl 0 rfl ?_
  refine fg_Th_49 (v := σ.1 14) C rfl d_Th_hasRoomFor_1 ?_
  refine gw_iload_n C d_Th_hasRoomFor_4 rfl 1 rfl ?_
  refine gw_iadd C d_Th_hasRoomFor_5 ?_
  refine gw_sipush (v := 1000) C d_Th_hasRoomFor_6 (by decide) ?_
  refine gw_icmp_gt (tgt := 28) C d_Th_hasRoomFor_9 (by decide) (fun h1 => ?_) (fun h1 => ?_)
  · have hF := gw_pos h1 hF
    refine gw_iconst (v := 0) C d_Th_hasRoomFor_28 (by decide) ?_
    cases hF
    exact gw_zret C hr rfl rfl d_Th_hasRoomFor_29
  · have hF := gw_neg h1 hF
    refine gw_aload_n C d_Th_hasRoomFor_12 rfl 0 rfl ?_
    refine fg_Th_53 (v := σ.1 15) C rfl d_Th_hasRoomFor_13 ?_
    refine gw_iload_n C d_Th_hasRoomFor_16 rfl 1 rfl ?_
    refine gw_iadd C d_Th_hasRoomFor_17 ?_
    refine gw_sipush (v := 300) C d_Th_hasRoomFor_18 (by decide) ?_
    refine gw_icmp_gt (tgt := 28) C d_Th_hasRoomFor_21 (by decide) (fun h2 => ?_) (fun h2 => ?_)
    · have hF := gw_pos h2 hF
      refine gw_iconst (v := 0) C d_Th_hasRoomFor_28 (by decide) ?_
      cases hF
      exact gw_zret C hr rfl rfl d_Th_hasRoomFor_29
    · have hF := gw_neg h2 hF
      refine gw_iconst (v := 1) C d_Th_hasRoomFor_24 (by decide) ?_
      refine gw_goto (tgt := 29) C d_Th_hasRoomFor_25 (by decide) ?_
      cases hF
      exact gw_zret C hr rfl rfl d_Th_hasRoomFor_29
set_option maxRecDepth 100000 in
set_option maxHeartbeats 4000000 in
theorem c_Th_add (l : Launch) (D : va_G) (cI cL cZ : ClassId) (ad : Nat → Nat) {σ : St} {x1 : Int32} {x2 : Int32} {r : Int32} {σ' : St} (hF : F_Th_add σ x1 x2 = some (r, σ')) : gw_M l y_Th_add w_Th_add rm_Th_add D gw_cl (gw_ty cI cL cZ) [.ref (ad 4), .int x1, .int x2] (wC ad cI cL cZ σ) (wC ad cI cL cZ σ') (some (.int r)) := by
  refine gw_start (cc := b_Th_add) (nL := 5) (ret := (some .int)) (by decide) rfl (Nat.le_of_ble_eq_true rfl) (fun p e s m below meth c A C hr _ => ?_)
  refine gw_eq (lv' := [(0, .ref (ad 4)), (1, .int x1), (2, .int x2)]) rfl rfl ?_
  unfold F_Th_add at hF
  refine gw_aload_n C d_Th_add_0 rfl 0 rfl ?_
  refine fg_Th_49 (v := σ.1 14) C rfl d_Th_add_1 ?_
  refine gw_istore_n (lv' := [(3, .int (σ.1 14)), (0, .ref (ad 4)), (1, .int x1), (2, .int x2)]) C d_Th_add_4 rfl (by decide) rfl ?_
  refine gw_aload_n C d_Th_add_5 rfl 1 rfl ?_
  refine fg_Th_53 (v := σ.1 15) C rfl d_Th_add_6 ?_
  refine gw_istore (lv' := [(4, .int (σ.1 15)), (3, .int (σ.1 14)), (0, .ref (ad 4)), (1, .int x1), (2, .int x2)]) C d_Th_add_9 (by decide) rfl ?_
  refine gw_iload_n C d_Th_add_11 rfl 1 rfl ?_
  refine gw_if_lt (tgt := 35) C d_Th_add_12 (by decide) (fun h1 => ?_) (fun h1 => ?_)
  · have hF := gw_pos h1 hF
    refine gw_iconst (v := (-1)) C d_Th_add_35 (by decide) ?_
    cases hF
    exact gw_iret C hr rfl d_Th_add_36
  · have hF := gw_neg h1 hF
    refine gw_iload_n C d_Th_add_15 rfl 1 rfl ?_
    refine gw_sipush (v := 1000) C d_Th_add_16 (by decide) ?_
    refine gw_icmp_ge (tgt := 35) C d_Th_add_19 (by decide) (fun h2 => ?_) (fun h2 => ?_)
    · have hF := gw_pos h2 hF
      refine gw_iconst (v := (-1)) C d_Th_add_35 (by decide) ?_
      cases hF
      exact gw_iret C hr rfl d_Th_add_36
    · have hF := gw_neg h2 hF
      refine gw_iload C d_Th_add_22 0 rfl ?_
      refine gw_if_lt (tgt := 35) C d_Th_add_24 (by decide) (fun h3 => ?_) (fun h3 => ?_)
      · have hF := gw_pos h3 hF
        refine gw_iconst (v := (-1)) C d_Th_add_35 (by decide) ?_
        cases hF
        exact gw_iret C hr rfl d_Th_add_36
      · have hF := gw_neg h3 hF
        refine gw_iload C d_Th_add_27 0 rfl ?_
        refine gw_sipush (v := 300) C d_Th_add_29 (by decide) ?_
        refine gw_icmp_lt (tgt := 37) C d_Th_add_32 (by decide) (fun h4 => ?_) (fun h4 => ?_)
        · have hF := gw_pos h4 hF
          refine gw_aload_n C d_Th_add_37 rfl 2 rfl ?_
          refine fg_Th_9 C d_Th_add_38 ?_
          refine gw_iload_n C d_Th_add_41 rfl 1 rfl ?_
          refine gw_iconst (v := 0) C d_Th_add_42 (by decide) ?_
          obtain ⟨h5, hF⟩ := gw_grd hF
          refine aswC_16 C h5 d_Th_add_43 ?_
          refine gw_aload_n C d_Th_add_44 rfl 2 rfl ?_
          refine fg_Th_15 C d_Th_add_45 ?_
          refine gw_iload_n C d_Th_add_48 rfl 1 rfl ?_
          refine gw_iload_n C d_Th_add_49 rfl 3 rfl ?_
          obtain ⟨h6, hF⟩ := gw_grd hF
          refine aswC_17 C h6 d_Th_add_50 ?_
          refine gw_aload_n C d_Th_add_51 rfl 2 rfl ?_
          refine fg_Th_18 C d_Th_add_52 ?_
          refine gw_iload_n C d_Th_add_55 rfl 1 rfl ?_
          refine gw_iload_n C d_Th_add_56 rfl 4 rfl ?_
          obtain ⟨h7, hF⟩ := gw_grd hF
          refine aswC_18 C h7 d_Th_add_57 ?_
          refine gw_aload_n C d_Th_add_58 rfl 2 rfl ?_
          refine fg_Th_21 C d_Th_add_59 ?_
          refine gw_iload_n C d_Th_add_62 rfl 1 rfl ?_
          refine gw_iconst (v := 0) C d_Th_add_63 (by decide) ?_
          obtain ⟨h8, hF⟩ := gw_grd hF
          refine aswC_19 C h8 d_Th_add_64 ?_
          refine gw_aload_n C d_Th_add_65 rfl 2 rfl ?_
          refine fg_Th_24 C d_Th_add_66 ?_
          refine gw_iload_n C d_Th_add_69 rfl 1 rfl ?_
          refine gw_iconst (v := (-1)) C d_Th_add_70 (by decide) ?_
          obtain ⟨h9, hF⟩ := gw_grd hF
          refine aswC_20 C h9 d_Th_add_71 ?_
          refine gw_aload_n C d_Th_add_72 rfl 2 rfl ?_
          refine fg_Th_43 C d_Th_add_73 ?_
          refine gw_iload C d_Th_add_76 0 rfl ?_
          refine gw_iload_n C d_Th_add_78 rfl 1 rfl ?_
          obtain ⟨h10, hF⟩ := gw_grd hF
          refine aswC_26 C h10 d_Th_add_79 ?_
          refine gw_aload_n C d_Th_add_80 rfl 2 rfl ?_
          refine gw_iload_n C d_Th_add_81 rfl 1 rfl ?_
          refine gw_iconst (v := 1) C d_Th_add_82 (by decide) ?_
          refine gw_iadd C d_Th_add_83 ?_
          refine fp_Th_49 C d_Th_add_84 ?_
          refine gw_aload_n C d_Th_add_87 rfl 2 rfl ?_
          refine gw_iload C d_Th_add_88 0 rfl ?_
          refine gw_iconst (v := 1) C d_Th_add_90 (by decide) ?_
          refine gw_iadd C d_Th_add_91 ?_
          refine fp_Th_53 C d_Th_add_92 ?_
          refine gw_iload_n C d_Th_add_95 rfl 1 rfl ?_
          cases hF
          exact gw_iret C hr rfl d_Th_add_96
        · have hF := gw_neg h4 hF
          refine gw_iconst (v := (-1)) C d_Th_add_35 (by decide) ?_
          cases hF
          exact gw_iret C hr rfl d_Th_add_36
set_option maxRecDepth 100000 in
set_option maxHeartbeats 4000000 in
theorem c_Wa_thingFor (l : Launch) (D : va_G) (cI cL cZ : ClassId) (ad : Nat → Nat) {σ : St} {x1 : Int32} {r : Int32} {σ' : St} (hF : F_Wa_thingFor σ x1 = some (r, σ')) : gw_M l y_Wa_thingFor w_Wa_thingFor rm_Wa_thingFor D gw_cl (gw_ty cI cL cZ) [.ref (ad 1), .int x1] (wC ad cI cL cZ σ) (wC ad cI cL cZ σ') (some (.int r)) := by
  refine gw_start (cc := b_Wa_thingFor) (nL := 2) (ret := (some .int)) (by decide) rfl (Nat.le_of_ble_eq_true rfl) (fun p e s m below meth c A C hr _ => ?_)
  refine gw_eq (lv' := [(0, .ref (ad 1)), (1, .int x1)]) rfl rfl ?_
  unfold F_Wa_thingFor at hF
  refine gw_aload_n C d_Wa_thingFor_0 rfl 0 rfl ?_
  refine fg_Wa_12 C d_Wa_thingFor_1 ?_
  refine gw_iload_n C d_Wa_thingFor_4 rfl 1 rfl ?_
  obtain ⟨r2, σ3, h1, hF⟩ := gw_bnd hF
  refine fc_Wa_131 (As := [.int x1]) (st := []) (σ' := σ3) C (c_Te_sortOf l D cI cL cZ ad h1) ⟨Nat.le_of_ble_eq_true rfl, Nat.le_of_ble_eq_true rfl⟩ ⟨Nat.le_of_ble_eq_true rfl, Nat.le_of_ble_eq_true rfl⟩ rfl (Nat.le_of_ble_eq_true rfl) d_Wa_thingFor_5 ?_
  refine gw_iconst (v := 1) C d_Wa_thingFor_8 (by decide) ?_
  refine gw_icmp_ne (tgt := 32) C d_Wa_thingFor_9 (by decide) (fun h4 => ?_) (fun h4 => ?_)
  · have hF := gw_neg h4 hF
    refine gw_aload_n C d_Wa_thingFor_32 rfl 0 rfl ?_
    refine fg_Wa_28 C d_Wa_thingFor_33 ?_
    refine gw_iload_n C d_Wa_thingFor_36 rfl 1 rfl ?_
    refine gw_aload_n C d_Wa_thingFor_37 rfl 0 rfl ?_
    refine fg_Wa_60 (v := σ3.1 4) C rfl d_Wa_thingFor_38 ?_
    obtain ⟨r6, σ7, h5, hF⟩ := gw_bnd hF
    refine fc_Wa_162 (As := [.int x1, .int (σ3.1 4)]) (st := []) (σ' := σ7) C (c_Th_add l D cI cL cZ ad h5) ⟨Nat.le_of_ble_eq_true rfl, Nat.le_of_ble_eq_true rfl⟩ ⟨Nat.le_of_ble_eq_true rfl, Nat.le_of_ble_eq_true rfl⟩ rfl (Nat.le_of_ble_eq_true rfl) d_Wa_thingFor_41 ?_
    cases hF
    exact gw_iret C hr rfl d_Wa_thingFor_44
  · have hF := gw_pos h4 hF
    refine gw_aload_n C d_Wa_thingFor_12 rfl 0 rfl ?_
    refine fg_Wa_21 C d_Wa_thingFor_13 ?_
    refine gw_aload_n C d_Wa_thingFor_16 rfl 0 rfl ?_
    refine fg_Wa_60 (v := σ3.1 4) C rfl d_Wa_thingFor_17 ?_
    refine gw_aload_n C d_Wa_thingFor_20 rfl 0 rfl ?_
    refine fg_Wa_12 C d_Wa_thingFor_21 ?_
    refine gw_iload_n C d_Wa_thingFor_24 rfl 1 rfl ?_
    obtain ⟨r9, σ10, h8, hF⟩ := gw_bnd hF
    refine fc_Wa_141 (As := [.int x1]) (st := [.int (σ3.1 4), .ref (ad 3)]) (σ' := σ10) C (c_Te_firstOf l D cI cL cZ ad h8) ⟨Nat.le_of_ble_eq_true rfl, Nat.le_of_ble_eq_true rfl⟩ ⟨Nat.le_of_ble_eq_true rfl, Nat.le_of_ble_eq_true rfl⟩ rfl (Nat.le_of_ble_eq_true rfl) d_Wa_thingFor_25 ?_
    obtain ⟨r12, σ13, h11, hF⟩ := gw_bnd hF
    refine fc_Wa_142 (As := [.int (σ3.1 4), .int r9]) (st := []) (σ' := σ13) C (c_Pl_thingAt l D cI cL cZ ad h11) ⟨Nat.le_of_ble_eq_true rfl, Nat.le_of_ble_eq_true rfl⟩ ⟨Nat.le_of_ble_eq_true rfl, Nat.le_of_ble_eq_true rfl⟩ rfl (Nat.le_of_ble_eq_true rfl) d_Wa_thingFor_28 ?_
    cases hF
    exact gw_iret C hr rfl d_Wa_thingFor_31
set_option maxRecDepth 100000 in
set_option maxHeartbeats 4000000 in
theorem c_Va_bePair (l : Launch) (D : va_G) (cI cL cZ : ClassId) (ad : Nat → Nat) {σ : St} {x1 : Int32} {x2 : Int32} {σ' : St} (hF : F_Va_bePair σ x1 x2 = some σ') : gw_M l y_Va_bePair w_Va_bePair rm_Va_bePair D gw_cl (gw_ty cI cL cZ) [.ref (ad 6), .int x1, .int x2] (wC ad cI cL cZ σ) (wC ad cI cL cZ σ') none := by
  refine gw_start (cc := b_Va_bePair) (nL := 3) (ret := none) (by decide) rfl (Nat.le_of_ble_eq_true rfl) (fun p e s m below meth c A C hr _ => ?_)
  refine gw_eq (lv' := [(0, .ref (ad 6)), (1, .int x1), (2, .int x2)]) rfl rfl ?_
  unfold F_Va_bePair at hF
  refine gw_aload_n C d_Va_bePair_0 rfl 0 rfl ?_
  refine gw_iconst (v := 2) C d_Va_bePair_1 (by decide) ?_
  refine gw_lconst (v := 0) C d_Va_bePair_2 rfl ?_
  refine gw_iload_n C d_Va_bePair_3 rfl 1 rfl ?_
  refine gw_iload_n C d_Va_bePair_4 rfl 2 rfl ?_
  obtain ⟨σ2, h1, hF⟩ := gw_bndv hF
  refine fc_Va_25 (As := [.int 2, .long 0, .int x1, .int x2]) (st := []) (σ' := σ2) C (c_Va_be l D cI cL cZ ad h1) ⟨Nat.le_of_ble_eq_true rfl, Nat.le_of_ble_eq_true rfl⟩ ⟨Nat.le_of_ble_eq_true rfl, Nat.le_of_ble_eq_true rfl⟩ rfl (Nat.le_of_ble_eq_true rfl) d_Va_bePair_5 ?_
  cases hF
  exact gw_vret C hr rfl d_Va_bePair_8
set_option maxRecDepth 100000 in
set_option maxHeartbeats 4000000 in
theorem c_Wa_makePair (l : Launch) (D : va_G) (cI cL cZ : ClassId) (ad : Nat → Nat) {σ : St} {x1 : Int32} {x2 : Int32} {σ' : St} (hF : F_Wa_makePair σ x1 x2 = some σ') : gw_M l y_Wa_makePair w_Wa_makePair rm_Wa_makePair D gw_cl (gw_ty cI cL cZ) [.ref (ad 1), .int x1, .int x2] (wC ad cI cL cZ σ) (wC ad cI cL cZ σ') none := by
  refine gw_start (cc := b_Wa_makePair) (nL := 5) (ret := none) (by decide) rfl (Nat.le_of_ble_eq_true rfl) (fun p e s m below meth c A C hr _ => ?_)
  refine gw_eq (lv' := [(0, .ref (ad 1)), (1, .int x1), (2, .int x2)]) rfl rfl ?_
  unfold F_Wa_makePair at hF
  refine gw_aload_n C d_Wa_makePair_0 rfl 0 rfl ?_
  refine fg_Wa_28 C d_Wa_makePair_1 ?_
  refine gw_aload_n C d_Wa_makePair_4 rfl 0 rfl ?_
  refine gw_iload_n C d_Wa_makePair_5 rfl 1 rfl ?_
  obtain ⟨r2, σ3, h1, hF⟩ := gw_bnd hF
  refine fc_Wa_165 (As := [.int x1]) (st := [.ref (ad 4)]) (σ' := σ3) C (c_Wa_newThingsFor l D cI cL cZ ad h1) ⟨Nat.le_of_ble_eq_true rfl, Nat.le_of_ble_eq_true rfl⟩ ⟨Nat.le_of_ble_eq_true rfl, Nat.le_of_ble_eq_true rfl⟩ rfl (Nat.le_of_ble_eq_true rfl) d_Wa_makePair_6 ?_
  refine gw_aload_n C d_Wa_makePair_9 rfl 0 rfl ?_
  refine gw_iload_n C d_Wa_makePair_10 rfl 2 rfl ?_
  obtain ⟨r5, σ6, h4, hF⟩ := gw_bnd hF
  refine fc_Wa_165 (As := [.int x2]) (st := [.int r2, .ref (ad 4)]) (σ' := σ6) C (c_Wa_newThingsFor l D cI cL cZ ad h4) ⟨Nat.le_of_ble_eq_true rfl, Nat.le_of_ble_eq_true rfl⟩ ⟨Nat.le_of_ble_eq_true rfl, Nat.le_of_ble_eq_true rfl⟩ rfl (Nat.le_of_ble_eq_true rfl) d_Wa_makePair_11 ?_
  refine gw_iadd C d_Wa_makePair_14 ?_
  obtain ⟨r8, σ9, h7, hF⟩ := gw_bnd hF
  refine fc_Wa_168 (As := [.int (r2 + r5)]) (st := []) (σ' := σ9) C (c_Th_hasRoomFor l D cI cL cZ ad h7) ⟨Nat.le_of_ble_eq_true rfl, Nat.le_of_ble_eq_true rfl⟩ ⟨Nat.le_of_ble_eq_true rfl, Nat.le_of_ble_eq_true rfl⟩ rfl (Nat.le_of_ble_eq_true rfl) d_Wa_makePair_15 ?_
  refine gw_if_ne (tgt := 27) C d_Wa_makePair_18 (by decide) (fun h10 => ?_) (fun h10 => ?_)
  · have hF := gw_neg h10 hF
    refine gw_aload_n C d_Wa_makePair_27 rfl 0 rfl ?_
    refine gw_iload_n C d_Wa_makePair_28 rfl 1 rfl ?_
    obtain ⟨r12, σ13, h11, hF⟩ := gw_bnd hF
    refine fc_Wa_172 (As := [.int x1]) (st := []) (σ' := σ13) C (c_Wa_thingFor l D cI cL cZ ad h11) ⟨Nat.le_of_ble_eq_true rfl, Nat.le_of_ble_eq_true rfl⟩ ⟨Nat.le_of_ble_eq_true rfl, Nat.le_of_ble_eq_true rfl⟩ rfl (Nat.le_of_ble_eq_true rfl) d_Wa_makePair_29 ?_
    refine gw_istore_n (lv' := [(3, .int r12), (0, .ref (ad 1)), (1, .int x1), (2, .int x2)]) C d_Wa_makePair_32 rfl (by decide) rfl ?_
    refine gw_aload_n C d_Wa_makePair_33 rfl 1 rfl ?_
    refine gw_iload_n C d_Wa_makePair_34 rfl 3 rfl ?_
    obtain ⟨r15, σ16, h14, hF⟩ := gw_bnd hF
    refine fc_Wa_172 (As := [.int x2]) (st := []) (σ' := σ16) C (c_Wa_thingFor l D cI cL cZ ad h14) ⟨Nat.le_of_ble_eq_true rfl, Nat.le_of_ble_eq_true rfl⟩ ⟨Nat.le_of_ble_eq_true rfl, Nat.le_of_ble_eq_true rfl⟩ rfl (Nat.le_of_ble_eq_true rfl) d_Wa_makePair_35 ?_
    refine gw_istore (lv' := [(4, .int r15), (3, .int r12), (0, .ref (ad 1)), (1, .int x1), (2, .int x2)]) C d_Wa_makePair_38 (by decide) rfl ?_
    refine gw_aload_n C d_Wa_makePair_40 rfl 2 rfl ?_
    refine fg_Wa_42 C d_Wa_makePair_41 ?_
    refine gw_iload_n C d_Wa_makePair_44 rfl 1 rfl ?_
    refine gw_iload C d_Wa_makePair_45 0 rfl ?_
    obtain ⟨σ18, h17, hF⟩ := gw_bndv hF
    refine fc_Wa_175 (As := [.int r12, .int r15]) (st := []) (σ' := σ18) C (c_Va_bePair l D cI cL cZ ad h17) ⟨Nat.le_of_ble_eq_true rfl, Nat.le_of_ble_eq_true rfl⟩ ⟨Nat.le_of_ble_eq_true rfl, Nat.le_of_ble_eq_true rfl⟩ rfl (Nat.le_of_ble_eq_true rfl) d_Wa_makePair_47 ?_
    refine gw_aload_n C d_Wa_makePair_50 rfl 2 rfl ?_
    refine gw_iconst (v := 1) C d_Wa_makePair_51 (by decide) ?_
    refine fp_Wa_54 C d_Wa_makePair_52 ?_
    cases hF
    exact gw_vret C hr rfl d_Wa_makePair_55
  · have hF := gw_pos h10 hF
    refine gw_aload_n C d_Wa_makePair_21 rfl 0 rfl ?_
    refine gw_iconst (v := 5) C d_Wa_makePair_22 (by decide) ?_
    refine fp_Wa_46 C d_Wa_makePair_23 ?_
    cases hF
    exact gw_vret C hr rfl d_Wa_makePair_26
set_option maxRecDepth 100000 in
set_option maxHeartbeats 4000000 in
theorem c_Wa_enterApply (l : Launch) (D : va_G) (cI cL cZ : ClassId) (ad : Nat → Nat) {σ : St} {x1 : Int32} {σ' : St} (hF : F_Wa_enterApply σ x1 = some σ') : gw_M l y_Wa_enterApply w_Wa_enterApply rm_Wa_enterApply D gw_cl (gw_ty cI cL cZ) [.ref (ad 1), .int x1] (wC ad cI cL cZ σ) (wC ad cI cL cZ σ') none := by
  refine gw_start (cc := b_Wa_enterApply) (nL := 2) (ret := none) (by decide) rfl (Nat.le_of_ble_eq_true rfl) (fun p e s m below meth c A C hr _ => ?_)
  refine gw_eq (lv' := [(0, .ref (ad 1)), (1, .int x1)]) rfl rfl ?_
  unfold F_Wa_enterApply at hF
  refine gw_aload_n C d_Wa_enterApply_0 rfl 0 rfl ?_
  refine fg_Wa_28 C d_Wa_enterApply_1 ?_
  refine gw_aload_n C d_Wa_enterApply_4 rfl 0 rfl ?_
  refine gw_iload_n C d_Wa_enterApply_5 rfl 1 rfl ?_
  obtain ⟨r2, σ3, h1, hF⟩ := gw_bnd hF
  refine fc_Wa_165 (As := [.int x1]) (st := [.ref (ad 4)]) (σ' := σ3) C (c_Wa_newThingsFor l D cI cL cZ ad h1) ⟨Nat.le_of_ble_eq_true rfl, Nat.le_of_ble_eq_true rfl⟩ ⟨Nat.le_of_ble_eq_true rfl, Nat.le_of_ble_eq_true rfl⟩ rfl (Nat.le_of_ble_eq_true rfl) d_Wa_enterApply_6 ?_
  obtain ⟨r5, σ6, h4, hF⟩ := gw_bnd hF
  refine fc_Wa_168 (As := [.int r2]) (st := []) (σ' := σ6) C (c_Th_hasRoomFor l D cI cL cZ ad h4) ⟨Nat.le_of_ble_eq_true rfl, Nat.le_of_ble_eq_true rfl⟩ ⟨Nat.le_of_ble_eq_true rfl, Nat.le_of_ble_eq_true rfl⟩ rfl (Nat.le_of_ble_eq_true rfl) d_Wa_enterApply_9 ?_
  refine gw_if_eq (tgt := 25) C d_Wa_enterApply_12 (by decide) (fun h7 => ?_) (fun h7 => ?_)
  · have hF := gw_pos h7 hF
    refine gw_aload_n C d_Wa_enterApply_25 rfl 0 rfl ?_
    refine gw_iconst (v := 5) C d_Wa_enterApply_26 (by decide) ?_
    refine fp_Wa_46 C d_Wa_enterApply_27 ?_
    cases hF
    exact gw_vret C hr rfl d_Wa_enterApply_30
  · have hF := gw_neg h7 hF
    refine gw_aload_n C d_Wa_enterApply_15 rfl 0 rfl ?_
    refine fg_Wa_35 C d_Wa_enterApply_16 ?_
    obtain ⟨r9, σ10, h8, hF⟩ := gw_bnd hF
    refine fc_Wa_178 (As := []) (st := []) (σ' := σ10) C (c_Ro_isFull l D cI cL cZ ad h8) ⟨Nat.le_of_ble_eq_true rfl, Nat.le_of_ble_eq_true rfl⟩ ⟨Nat.le_of_ble_eq_true rfl, Nat.le_of_ble_eq_true rfl⟩ rfl (Nat.le_of_ble_eq_true rfl) d_Wa_enterApply_19 ?_
    refine gw_if_eq (tgt := 31) C d_Wa_enterApply_22 (by decide) (fun h11 => ?_) (fun h11 => ?_)
    · have hF := gw_pos h11 hF
      refine gw_aload_n C d_Wa_enterApply_31 rfl 0 rfl ?_
      refine fg_Wa_35 C d_Wa_enterApply_32 ?_
      refine gw_iconst (v := 1) C d_Wa_enterApply_35 (by decide) ?_
      refine gw_aload_n C d_Wa_enterApply_36 rfl 0 rfl ?_
      refine gw_iload_n C d_Wa_enterApply_37 rfl 1 rfl ?_
      obtain ⟨r13, σ14, h12, hF⟩ := gw_bnd hF
      refine fc_Wa_172 (As := [.int x1]) (st := [.int 1, .ref (ad 5)]) (σ' := σ14) C (c_Wa_thingFor l D cI cL cZ ad h12) ⟨Nat.le_of_ble_eq_true rfl, Nat.le_of_ble_eq_true rfl⟩ ⟨Nat.le_of_ble_eq_true rfl, Nat.le_of_ble_eq_true rfl⟩ rfl (Nat.le_of_ble_eq_true rfl) d_Wa_enterApply_38 ?_
      refine gw_iconst (v := (-1)) C d_Wa_enterApply_41 (by decide) ?_
      refine gw_lconst (v := 0) C d_Wa_enterApply_42 rfl ?_
      obtain ⟨σ16, h15, hF⟩ := gw_bndv hF
      refine fc_Wa_182 (As := [.int 1, .int r13, .int (-1), .long 0]) (st := []) (σ' := σ16) C (c_Ro_add l D cI cL cZ ad h15) ⟨Nat.le_of_ble_eq_true rfl, Nat.le_of_ble_eq_true rfl⟩ ⟨Nat.le_of_ble_eq_true rfl, Nat.le_of_ble_eq_true rfl⟩ rfl (Nat.le_of_ble_eq_true rfl) d_Wa_enterApply_43 ?_
      refine gw_aload_n C d_Wa_enterApply_46 rfl 0 rfl ?_
      refine gw_aload_n C d_Wa_enterApply_47 rfl 0 rfl ?_
      refine fg_Wa_12 C d_Wa_enterApply_48 ?_
      refine gw_aload_n C d_Wa_enterApply_51 rfl 0 rfl ?_
      refine fg_Wa_57 (v := σ16.1 3) C rfl d_Wa_enterApply_52 ?_
      obtain ⟨r18, σ19, h17, hF⟩ := gw_bnd hF
      refine fc_Wa_141 (As := [.int (σ16.1 3)]) (st := [.ref (ad 1)]) (σ' := σ19) C (c_Te_firstOf l D cI cL cZ ad h17) ⟨Nat.le_of_ble_eq_true rfl, Nat.le_of_ble_eq_true rfl⟩ ⟨Nat.le_of_ble_eq_true rfl, Nat.le_of_ble_eq_true rfl⟩ rfl (Nat.le_of_ble_eq_true rfl) d_Wa_enterApply_55 ?_
      refine fp_Wa_57 C d_Wa_enterApply_58 ?_
      cases hF
      exact gw_vret C hr rfl d_Wa_enterApply_61
    · have hF := gw_neg h11 hF
      refine gw_aload_n C d_Wa_enterApply_25 rfl 0 rfl ?_
      refine gw_iconst (v := 5) C d_Wa_enterApply_26 (by decide) ?_
      refine fp_Wa_46 C d_Wa_enterApply_27 ?_
      cases hF
      exact gw_vret C hr rfl d_Wa_enterApply_30
set_option maxRecDepth 100000 in
set_option maxHeartbeats 4000000 in
theorem c_Pl_isFull (l : Launch) (D : va_G) (cI cL cZ : ClassId) (ad : Nat → Nat) {σ : St} {r : Int32} {σ' : St} (hF : F_Pl_isFull σ = some (r, σ')) : gw_M l y_Pl_isFull w_Pl_isFull rm_Pl_isFull D gw_cl (gw_ty cI cL cZ) [.ref (ad 3)] (wC ad cI cL cZ σ) (wC ad cI cL cZ σ') (some (.int r)) := by
  refine gw_start (cc := b_Pl_isFull) (nL := 1) (ret := (some .boolean)) (by decide) rfl (Nat.le_of_ble_eq_true rfl) (fun p e s m below meth c A C hr _ => ?_)
  refine gw_eq (lv' := [(0, .ref (ad 3))]) rfl rfl ?_
  unfold F_Pl_isFull at hF
  refine gw_aload_n C d_Pl_isFull_0 rfl 0 rfl ?_
  refine fg_Pl_21 (v := σ.1 13) C rfl d_Pl_isFull_1 ?_
  refine gw_sipush (v := 1000) C d_Pl_isFull_4 (by decide) ?_
  refine gw_icmp_lt (tgt := 14) C d_Pl_isFull_7 (by decide) (fun h1 => ?_) (fun h1 => ?_)
  · have hF := gw_pos h1 hF
    refine gw_iconst (v := 0) C d_Pl_isFull_14 (by decide) ?_
    cases hF
    exact gw_zret C hr rfl rfl d_Pl_isFull_15
  · have hF := gw_neg h1 hF
    refine gw_iconst (v := 1) C d_Pl_isFull_10 (by decide) ?_
    refine gw_goto (tgt := 15) C d_Pl_isFull_11 (by decide) ?_
    cases hF
    exact gw_zret C hr rfl rfl d_Pl_isFull_15
set_option maxRecDepth 100000 in
set_option maxHeartbeats 4000000 in
theorem c_Pl_add (l : Launch) (D : va_G) (cI cL cZ : ClassId) (ad : Nat → Nat) {σ : St} {x1 : Int32} {x2 : Int32} {r : Int32} {σ' : St} (hF : F_Pl_add σ x1 x2 = some (r, σ')) : gw_M l y_Pl_add w_Pl_add rm_Pl_add D gw_cl (gw_ty cI cL cZ) [.ref (ad 3), .int x1, .int x2] (wC ad cI cL cZ σ) (wC ad cI cL cZ σ') (some (.int r)) := by
  refine gw_start (cc := b_Pl_add) (nL := 4) (ret := (some .int)) (by decide) rfl (Nat.le_of_ble_eq_true rfl) (fun p e s m below meth c A C hr _ => ?_)
  refine gw_eq (lv' := [(0, .ref (ad 3)), (1, .int x1), (2, .int x2)]) rfl rfl ?_
  unfold F_Pl_add at hF
  refine gw_aload_n C d_Pl_add_0 rfl 0 rfl ?_
  refine fg_Pl_21 (v := σ.1 13) C rfl d_Pl_add_1 ?_
  refine gw_istore_n (lv' := [(3, .int (σ.1 13)), (0, .ref (ad 3)), (1, .int x1), (2, .int x2)]) C d_Pl_add_4 rfl (by decide) rfl ?_
  refine gw_iload_n C d_Pl_add_5 rfl 0 rfl ?_
  refine gw_if_lt (tgt := 16) C d_Pl_add_6 (by decide) (fun h1 => ?_) (fun h1 => ?_)
  · have hF := gw_pos h1 hF
    refine gw_iconst (v := (-1)) C d_Pl_add_16 (by decide) ?_
    cases hF
    exact gw_iret C hr rfl d_Pl_add_17
  · have hF := gw_neg h1 hF
    refine gw_iload_n C d_Pl_add_9 rfl 0 rfl ?_
    refine gw_sipush (v := 1000) C d_Pl_add_10 (by decide) ?_
    refine gw_icmp_lt (tgt := 18) C d_Pl_add_13 (by decide) (fun h2 => ?_) (fun h2 => ?_)
    · have hF := gw_pos h2 hF
      refine gw_aload_n C d_Pl_add_18 rfl 1 rfl ?_
      refine fg_Pl_9 C d_Pl_add_19 ?_
      refine gw_iload_n C d_Pl_add_22 rfl 0 rfl ?_
      refine gw_iload_n C d_Pl_add_23 rfl 2 rfl ?_
      obtain ⟨h3, hF⟩ := gw_grd hF
      refine aswC_13 C h3 d_Pl_add_24 ?_
      refine gw_aload_n C d_Pl_add_25 rfl 1 rfl ?_
      refine fg_Pl_15 C d_Pl_add_26 ?_
      refine gw_iload_n C d_Pl_add_29 rfl 0 rfl ?_
      refine gw_iload_n C d_Pl_add_30 rfl 3 rfl ?_
      obtain ⟨h4, hF⟩ := gw_grd hF
      refine aswC_14 C h4 d_Pl_add_31 ?_
      refine gw_aload_n C d_Pl_add_32 rfl 1 rfl ?_
      refine gw_iload_n C d_Pl_add_33 rfl 0 rfl ?_
      refine gw_iconst (v := 1) C d_Pl_add_34 (by decide) ?_
      refine gw_iadd C d_Pl_add_35 ?_
      refine fp_Pl_21 C d_Pl_add_36 ?_
      refine gw_iload_n C d_Pl_add_39 rfl 0 rfl ?_
      cases hF
      exact gw_iret C hr rfl d_Pl_add_40
    · have hF := gw_neg h2 hF
      refine gw_iconst (v := (-1)) C d_Pl_add_16 (by decide) ?_
      cases hF
      exact gw_iret C hr rfl d_Pl_add_17
set_option maxRecDepth 100000 in
set_option maxHeartbeats 4000000 in
theorem c_Wa_enterLet (l : Launch) (D : va_G) (cI cL cZ : ClassId) (ad : Nat → Nat) {σ : St} {x1 : Int32} {x2 : Int32} {σ' : St} (hF : F_Wa_enterLet σ x1 x2 = some σ') : gw_M l y_Wa_enterLet w_Wa_enterLet rm_Wa_enterLet D gw_cl (gw_ty cI cL cZ) [.ref (ad 1), .int x1, .int x2] (wC ad cI cL cZ σ) (wC ad cI cL cZ σ') none := by
  refine gw_start (cc := b_Wa_enterLet) (nL := 4) (ret := none) (by decide) rfl (Nat.le_of_ble_eq_true rfl) (fun p e s m below meth c A C hr _ => ?_)
  refine gw_eq (lv' := [(0, .ref (ad 1)), (1, .int x1), (2, .int x2)]) rfl rfl ?_
  unfold F_Wa_enterLet at hF
  refine gw_aload_n C d_Wa_enterLet_0 rfl 0 rfl ?_
  refine fg_Wa_28 C d_Wa_enterLet_1 ?_
  refine gw_iconst (v := 1) C d_Wa_enterLet_4 (by decide) ?_
  obtain ⟨r2, σ3, h1, hF⟩ := gw_bnd hF
  refine fc_Wa_168 (As := [.int 1]) (st := []) (σ' := σ3) C (c_Th_hasRoomFor l D cI cL cZ ad h1) ⟨Nat.le_of_ble_eq_true rfl, Nat.le_of_ble_eq_true rfl⟩ ⟨Nat.le_of_ble_eq_true rfl, Nat.le_of_ble_eq_true rfl⟩ rfl (Nat.le_of_ble_eq_true rfl) d_Wa_enterLet_5 ?_
  refine gw_if_eq (tgt := 21) C d_Wa_enterLet_8 (by decide) (fun h4 => ?_) (fun h4 => ?_)
  · have hF := gw_pos h4 hF
    refine gw_aload_n C d_Wa_enterLet_21 rfl 0 rfl ?_
    refine gw_iconst (v := 5) C d_Wa_enterLet_22 (by decide) ?_
    refine fp_Wa_46 C d_Wa_enterLet_23 ?_
    cases hF
    exact gw_vret C hr rfl d_Wa_enterLet_26
  · have hF := gw_neg h4 hF
    refine gw_aload_n C d_Wa_enterLet_11 rfl 0 rfl ?_
    refine fg_Wa_21 C d_Wa_enterLet_12 ?_
    obtain ⟨r6, σ7, h5, hF⟩ := gw_bnd hF
    refine fc_Wa_185 (As := []) (st := []) (σ' := σ7) C (c_Pl_isFull l D cI cL cZ ad h5) ⟨Nat.le_of_ble_eq_true rfl, Nat.le_of_ble_eq_true rfl⟩ ⟨Nat.le_of_ble_eq_true rfl, Nat.le_of_ble_eq_true rfl⟩ rfl (Nat.le_of_ble_eq_true rfl) d_Wa_enterLet_15 ?_
    refine gw_if_eq (tgt := 27) C d_Wa_enterLet_18 (by decide) (fun h8 => ?_) (fun h8 => ?_)
    · have hF := gw_pos h8 hF
      refine gw_aload_n C d_Wa_enterLet_27 rfl 0 rfl ?_
      refine fg_Wa_21 C d_Wa_enterLet_28 ?_
      refine gw_aload_n C d_Wa_enterLet_31 rfl 0 rfl ?_
      refine fg_Wa_28 C d_Wa_enterLet_32 ?_
      refine fg_Wa_114 (v := σ7.1 14) C rfl d_Wa_enterLet_35 ?_
      refine gw_aload_n C d_Wa_enterLet_38 rfl 0 rfl ?_
      refine fg_Wa_60 (v := σ7.1 4) C rfl d_Wa_enterLet_39 ?_
      obtain ⟨r10, σ11, h9, hF⟩ := gw_bnd hF
      refine fc_Wa_186 (As := [.int (σ7.1 14), .int (σ7.1 4)]) (st := []) (σ' := σ11) C (c_Pl_add l D cI cL cZ ad h9) ⟨Nat.le_of_ble_eq_true rfl, Nat.le_of_ble_eq_true rfl⟩ ⟨Nat.le_of_ble_eq_true rfl, Nat.le_of_ble_eq_true rfl⟩ rfl (Nat.le_of_ble_eq_true rfl) d_Wa_enterLet_42 ?_
      refine gw_istore_n (lv' := [(3, .int r10), (0, .ref (ad 1)), (1, .int x1), (2, .int x2)]) C d_Wa_enterLet_45 rfl (by decide) rfl ?_
      refine gw_aload_n C d_Wa_enterLet_46 rfl 1 rfl ?_
      refine fg_Wa_28 C d_Wa_enterLet_47 ?_
      refine gw_iload_n C d_Wa_enterLet_50 rfl 2 rfl ?_
      refine gw_iload_n C d_Wa_enterLet_51 rfl 0 rfl ?_
      obtain ⟨r13, σ14, h12, hF⟩ := gw_bnd hF
      refine fc_Wa_162 (As := [.int x1, .int r10]) (st := []) (σ' := σ14) C (c_Th_add l D cI cL cZ ad h12) ⟨Nat.le_of_ble_eq_true rfl, Nat.le_of_ble_eq_true rfl⟩ ⟨Nat.le_of_ble_eq_true rfl, Nat.le_of_ble_eq_true rfl⟩ rfl (Nat.le_of_ble_eq_true rfl) d_Wa_enterLet_52 ?_
      refine gw_pop C d_Wa_enterLet_55 rfl ?_
      refine gw_aload_n C d_Wa_enterLet_56 rfl 1 rfl ?_
      refine gw_iload_n C d_Wa_enterLet_57 rfl 3 rfl ?_
      refine gw_iload_n C d_Wa_enterLet_58 rfl 0 rfl ?_
      obtain ⟨σ16, h15, hF⟩ := gw_bndv hF
      refine fc_Wa_93 (As := [.int x2, .int r10]) (st := []) (σ' := σ16) C (c_Wa_takeTerm l D cI cL cZ ad h15) ⟨Nat.le_of_ble_eq_true rfl, Nat.le_of_ble_eq_true rfl⟩ ⟨Nat.le_of_ble_eq_true rfl, Nat.le_of_ble_eq_true rfl⟩ rfl (Nat.le_of_ble_eq_true rfl) d_Wa_enterLet_59 ?_
      cases hF
      exact gw_vret C hr rfl d_Wa_enterLet_62
    · have hF := gw_neg h8 hF
      refine gw_aload_n C d_Wa_enterLet_21 rfl 0 rfl ?_
      refine gw_iconst (v := 5) C d_Wa_enterLet_22 (by decide) ?_
      refine fp_Wa_46 C d_Wa_enterLet_23 ?_
      cases hF
      exact gw_vret C hr rfl d_Wa_enterLet_26
