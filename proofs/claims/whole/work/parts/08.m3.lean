set_option maxRecDepth 100000 in
set_option maxHeartbeats 4000000 in
theorem k_Mo_thingOfPlace_5 {p : Program} (l : Launch) {e : Env} {s : State} {m : MethodId} {args : Array Value} {below : List Frame} {meth : Method} {c : Code} {D : va_G} {A : Nat → Prop} {cI cL cZ : ClassId} {ad : Nat → Nat} (C : gw_C p s m args meth c b_Mo_thingOfPlace 5 R_Mo D gw_cl (gw_ty cI cL cZ) A) (hr : meth.sig.returnType = (some .int)) {r : Int32} {σ' : St} : ∀ (n : Nat) (σ : St) (x2 : Int32) (x3 : Int32) (x4 : Int32) (hF : K_Mo_thingOfPlace_5 n σ x2 x3 x4 = some (r, σ')), gw_W p l e rm_Mo_thingOfPlace s m args below meth c D gw_cl A (MQ below (gw_Qc D gw_cl (wM ad cI cL cZ σ') (some (.int r)) A) args s 0 0 A) 0 0 5 (wM ad cI cL cZ σ) [(0, .ref (ad 0)), (2, .int x2), (3, .int x3), (4, .int x4)] 5 []
  | 0, σ, x2, x3, x4, hF => by cases hF
  | n + 1, σ, x2, x3, x4, hF => by
    unfold K_Mo_thingOfPlace_5 at hF
    refine gw_iload C d_Mo_thingOfPlace_5 3 rfl ?_
    refine gw_iload_n C d_Mo_thingOfPlace_7 rfl 1 rfl ?_
    refine gw_icmp_ge (tgt := 24) C d_Mo_thingOfPlace_8 (by decide) (fun h1 => ?_) (fun h1 => ?_)
    · have hF := gw_pos h1 hF
      refine gw_aload_n C d_Mo_thingOfPlace_24 rfl 0 rfl ?_
      refine fg_Mo_60 C d_Mo_thingOfPlace_25 ?_
      refine gw_iload_n C d_Mo_thingOfPlace_28 rfl 2 rfl ?_
      obtain ⟨h2, hF⟩ := gw_grd hF
      refine alwM_17 (v := σ.2.1 14 x3.toNatClampNeg) C h2 rfl d_Mo_thingOfPlace_29 ?_
      cases hF
      exact gw_iret C hr rfl d_Mo_thingOfPlace_30
    · have hF := gw_neg h1 hF
      refine gw_aload_n C d_Mo_thingOfPlace_11 rfl 0 rfl ?_
      refine fg_Mo_63 C d_Mo_thingOfPlace_12 ?_
      refine gw_iload_n C d_Mo_thingOfPlace_15 rfl 2 rfl ?_
      obtain ⟨h3, hF⟩ := gw_grd hF
      refine alwM_18 (v := σ.2.1 15 x3.toNatClampNeg) C h3 rfl d_Mo_thingOfPlace_16 ?_
      refine gw_istore_n (lv' := [(3, .int (σ.2.1 15 x3.toNatClampNeg)), (0, .ref (ad 0)), (2, .int x2), (4, .int x4)]) C d_Mo_thingOfPlace_17 rfl (by decide) rfl ?_
      refine gw_iinc (q := 3) (v := x4 + 1) (lv' := [(4, .int (x4 + 1)), (3, .int (σ.2.1 15 x3.toNatClampNeg)), (0, .ref (ad 0)), (2, .int x2)]) C d_Mo_thingOfPlace_18 rfl rfl (by decide) rfl ?_
      refine gw_goto (tgt := 5) C d_Mo_thingOfPlace_21 (by decide) ?_
      refine gw_less [2, 3, 1, 0] rfl ?_
      exact k_Mo_thingOfPlace_5 l C hr n _ _ _ _ hF
set_option maxRecDepth 100000 in
set_option maxHeartbeats 4000000 in
theorem c_Mo_thingOfPlace (l : Launch) (D : va_G) (cI cL cZ : ClassId) (ad : Nat → Nat) {σ : St} {x1 : Int32} {x2 : Int32} {r : Int32} {σ' : St} (hF : F_Mo_thingOfPlace σ x1 x2 = some (r, σ')) : gw_M l y_Mo_thingOfPlace w_Mo_thingOfPlace rm_Mo_thingOfPlace D gw_cl (gw_ty cI cL cZ) [.ref (ad 0), .int x1, .int x2] (wM ad cI cL cZ σ) (wM ad cI cL cZ σ') (some (.int r)) := by
  refine gw_start (cc := b_Mo_thingOfPlace) (nL := 5) (ret := (some .int)) (by decide) rfl (Nat.le_of_ble_eq_true rfl) (fun p e s m below meth c A C hr _ => ?_)
  refine gw_eq (lv' := [(0, .ref (ad 0)), (1, .int x1), (2, .int x2)]) rfl rfl ?_
  unfold F_Mo_thingOfPlace at hF
  refine gw_iload_n C d_Mo_thingOfPlace_0 rfl 1 rfl ?_
  refine gw_istore_n (lv' := [(3, .int x1), (0, .ref (ad 0)), (1, .int x1), (2, .int x2)]) C d_Mo_thingOfPlace_1 rfl (by decide) rfl ?_
  refine gw_iconst (v := 0) C d_Mo_thingOfPlace_2 (by decide) ?_
  refine gw_istore (lv' := [(4, .int 0), (3, .int x1), (0, .ref (ad 0)), (1, .int x1), (2, .int x2)]) C d_Mo_thingOfPlace_3 (by decide) rfl ?_
  refine gw_less [2, 4, 1, 0] rfl ?_
  exact k_Mo_thingOfPlace_5 l C hr gw_N _ _ _ _ hF
set_option maxRecDepth 100000 in
set_option maxHeartbeats 4000000 in
theorem c_Mo_isNew (l : Launch) (D : va_G) (cI cL cZ : ClassId) (ad : Nat → Nat) {σ : St} {x1 : Int32} {r : Int32} {σ' : St} (hF : F_Mo_isNew σ x1 = some (r, σ')) : gw_M l y_Mo_isNew w_Mo_isNew rm_Mo_isNew D gw_cl (gw_ty cI cL cZ) [.ref (ad 0), .int x1] (wM ad cI cL cZ σ) (wM ad cI cL cZ σ') (some (.int r)) := by
  refine gw_start (cc := b_Mo_isNew) (nL := 2) (ret := (some .boolean)) (by decide) rfl (Nat.le_of_ble_eq_true rfl) (fun p e s m below meth c A C hr _ => ?_)
  refine gw_eq (lv' := [(0, .ref (ad 0)), (1, .int x1)]) rfl rfl ?_
  unfold F_Mo_isNew at hF
  refine gw_aload_n C d_Mo_isNew_0 rfl 0 rfl ?_
  refine fg_Mo_7 C d_Mo_isNew_1 ?_
  refine gw_iload_n C d_Mo_isNew_4 rfl 1 rfl ?_
  obtain ⟨h1, hF⟩ := gw_grd hF
  refine alwM_1 (v := σ.2.1 0 x1.toNatClampNeg) C h1 rfl d_Mo_isNew_5 ?_
  refine gw_iconst (v := 1) C d_Mo_isNew_6 (by decide) ?_
  refine gw_icmp_eq (tgt := 14) C d_Mo_isNew_7 (by decide) (fun h2 => ?_) (fun h2 => ?_)
  · have hF := gw_pos h2 hF
    refine gw_iconst (v := 0) C d_Mo_isNew_14 (by decide) ?_
    cases hF
    exact gw_zret C hr rfl rfl d_Mo_isNew_15
  · have hF := gw_neg h2 hF
    refine gw_iconst (v := 1) C d_Mo_isNew_10 (by decide) ?_
    refine gw_goto (tgt := 15) C d_Mo_isNew_11 (by decide) ?_
    cases hF
    exact gw_zret C hr rfl rfl d_Mo_isNew_15
set_option maxRecDepth 100000 in
set_option maxHeartbeats 4000000 in
theorem c_Mo_hasRoom (l : Launch) (D : va_G) (cI cL cZ : ClassId) (ad : Nat → Nat) {σ : St} {x1 : Int32} {x2 : Int32} {x3 : Int32} {r : Int32} {σ' : St} (hF : F_Mo_hasRoom σ x1 x2 x3 = some (r, σ')) : gw_M l y_Mo_hasRoom w_Mo_hasRoom rm_Mo_hasRoom D gw_cl (gw_ty cI cL cZ) [.ref (ad 0), .int x1, .int x2, .int x3] (wM ad cI cL cZ σ) (wM ad cI cL cZ σ') (some (.int r)) := by
  refine gw_start (cc := b_Mo_hasRoom) (nL := 5) (ret := (some .boolean)) (by decide) rfl (Nat.le_of_ble_eq_true rfl) (fun p e s m below meth c A C hr _ => ?_)
  refine gw_eq (lv' := [(0, .ref (ad 0)), (1, .int x1), (2, .int x2), (3, .int x3)]) rfl rfl ?_
  unfold F_Mo_hasRoom at hF
  refine gw_aload_n C d_Mo_hasRoom_0 rfl 0 rfl ?_
  refine fg_Mo_113 (v := σ.1 1) C rfl d_Mo_hasRoom_1 ?_
  refine gw_iload_n C d_Mo_hasRoom_4 rfl 1 rfl ?_
  refine gw_iadd C d_Mo_hasRoom_5 ?_
  refine gw_sipush (v := 1000) C d_Mo_hasRoom_6 (by decide) ?_
  refine gw_icmp_gt (tgt := 52) C d_Mo_hasRoom_9 (by decide) (fun h1 => ?_) (fun h1 => ?_)
  · have hF := gw_pos h1 hF
    refine gw_iconst (v := 0) C d_Mo_hasRoom_52 (by decide) ?_
    refine gw_istore (lv' := [(4, .int 0), (0, .ref (ad 0)), (1, .int x1), (2, .int x2), (3, .int x3)]) C d_Mo_hasRoom_53 (by decide) rfl ?_
    refine gw_iload C d_Mo_hasRoom_55 0 rfl ?_
    refine gw_if_ne (tgt := 65) C d_Mo_hasRoom_57 (by decide) (fun h2 => ?_) (fun h2 => ?_)
    · exact absurd h2 (by decide)
    · skip
      refine gw_aload_n C d_Mo_hasRoom_60 rfl 1 rfl ?_
      refine gw_iconst (v := 5) C d_Mo_hasRoom_61 (by decide) ?_
      refine fp_Mo_141 C d_Mo_hasRoom_62 ?_
      refine gw_iload C d_Mo_hasRoom_65 0 rfl ?_
      cases hF
      exact gw_zret C hr rfl rfl d_Mo_hasRoom_67
  · have hF := gw_neg h1 hF
    refine gw_aload_n C d_Mo_hasRoom_12 rfl 0 rfl ?_
    refine fg_Mo_116 (v := σ.1 2) C rfl d_Mo_hasRoom_13 ?_
    refine gw_iload_n C d_Mo_hasRoom_16 rfl 1 rfl ?_
    refine gw_iadd C d_Mo_hasRoom_17 ?_
    refine gw_sipush (v := 300) C d_Mo_hasRoom_18 (by decide) ?_
    refine gw_icmp_gt (tgt := 52) C d_Mo_hasRoom_21 (by decide) (fun h3 => ?_) (fun h3 => ?_)
    · have hF := gw_pos h3 hF
      refine gw_iconst (v := 0) C d_Mo_hasRoom_52 (by decide) ?_
      refine gw_istore (lv' := [(4, .int 0), (0, .ref (ad 0)), (1, .int x1), (2, .int x2), (3, .int x3)]) C d_Mo_hasRoom_53 (by decide) rfl ?_
      refine gw_iload C d_Mo_hasRoom_55 0 rfl ?_
      refine gw_if_ne (tgt := 65) C d_Mo_hasRoom_57 (by decide) (fun h4 => ?_) (fun h4 => ?_)
      · exact absurd h4 (by decide)
      · skip
        refine gw_aload_n C d_Mo_hasRoom_60 rfl 1 rfl ?_
        refine gw_iconst (v := 5) C d_Mo_hasRoom_61 (by decide) ?_
        refine fp_Mo_141 C d_Mo_hasRoom_62 ?_
        refine gw_iload C d_Mo_hasRoom_65 0 rfl ?_
        cases hF
        exact gw_zret C hr rfl rfl d_Mo_hasRoom_67
    · have hF := gw_neg h3 hF
      refine gw_aload_n C d_Mo_hasRoom_24 rfl 0 rfl ?_
      refine fg_Mo_119 (v := σ.1 3) C rfl d_Mo_hasRoom_25 ?_
      refine gw_iload_n C d_Mo_hasRoom_28 rfl 2 rfl ?_
      refine gw_iadd C d_Mo_hasRoom_29 ?_
      refine gw_sipush (v := 1000) C d_Mo_hasRoom_30 (by decide) ?_
      refine gw_icmp_gt (tgt := 52) C d_Mo_hasRoom_33 (by decide) (fun h5 => ?_) (fun h5 => ?_)
      · have hF := gw_pos h5 hF
        refine gw_iconst (v := 0) C d_Mo_hasRoom_52 (by decide) ?_
        refine gw_istore (lv' := [(4, .int 0), (0, .ref (ad 0)), (1, .int x1), (2, .int x2), (3, .int x3)]) C d_Mo_hasRoom_53 (by decide) rfl ?_
        refine gw_iload C d_Mo_hasRoom_55 0 rfl ?_
        refine gw_if_ne (tgt := 65) C d_Mo_hasRoom_57 (by decide) (fun h6 => ?_) (fun h6 => ?_)
        · exact absurd h6 (by decide)
        · skip
          refine gw_aload_n C d_Mo_hasRoom_60 rfl 1 rfl ?_
          refine gw_iconst (v := 5) C d_Mo_hasRoom_61 (by decide) ?_
          refine fp_Mo_141 C d_Mo_hasRoom_62 ?_
          refine gw_iload C d_Mo_hasRoom_65 0 rfl ?_
          cases hF
          exact gw_zret C hr rfl rfl d_Mo_hasRoom_67
      · have hF := gw_neg h5 hF
        refine gw_aload_n C d_Mo_hasRoom_36 rfl 0 rfl ?_
        refine fg_Mo_122 (v := σ.1 4) C rfl d_Mo_hasRoom_37 ?_
        refine gw_iload_n C d_Mo_hasRoom_40 rfl 3 rfl ?_
        refine gw_iadd C d_Mo_hasRoom_41 ?_
        refine gw_sipush (v := 300) C d_Mo_hasRoom_42 (by decide) ?_
        refine gw_icmp_gt (tgt := 52) C d_Mo_hasRoom_45 (by decide) (fun h7 => ?_) (fun h7 => ?_)
        · have hF := gw_pos h7 hF
          refine gw_iconst (v := 0) C d_Mo_hasRoom_52 (by decide) ?_
          refine gw_istore (lv' := [(4, .int 0), (0, .ref (ad 0)), (1, .int x1), (2, .int x2), (3, .int x3)]) C d_Mo_hasRoom_53 (by decide) rfl ?_
          refine gw_iload C d_Mo_hasRoom_55 0 rfl ?_
          refine gw_if_ne (tgt := 65) C d_Mo_hasRoom_57 (by decide) (fun h8 => ?_) (fun h8 => ?_)
          · exact absurd h8 (by decide)
          · skip
            refine gw_aload_n C d_Mo_hasRoom_60 rfl 1 rfl ?_
            refine gw_iconst (v := 5) C d_Mo_hasRoom_61 (by decide) ?_
            refine fp_Mo_141 C d_Mo_hasRoom_62 ?_
            refine gw_iload C d_Mo_hasRoom_65 0 rfl ?_
            cases hF
            exact gw_zret C hr rfl rfl d_Mo_hasRoom_67
        · have hF := gw_neg h7 hF
          refine gw_iconst (v := 1) C d_Mo_hasRoom_48 (by decide) ?_
          refine gw_goto (tgt := 53) C d_Mo_hasRoom_49 (by decide) ?_
          refine gw_istore (lv' := [(4, .int 1), (0, .ref (ad 0)), (1, .int x1), (2, .int x2), (3, .int x3)]) C d_Mo_hasRoom_53 (by decide) rfl ?_
          refine gw_iload C d_Mo_hasRoom_55 0 rfl ?_
          refine gw_if_ne (tgt := 65) C d_Mo_hasRoom_57 (by decide) (fun h9 => ?_) (fun h9 => ?_)
          · skip
            refine gw_iload C d_Mo_hasRoom_65 0 rfl ?_
            cases hF
            exact gw_zret C hr rfl rfl d_Mo_hasRoom_67
          · exact absurd h9 (by decide)
set_option maxRecDepth 100000 in
set_option maxHeartbeats 4000000 in
theorem c_Mo_newThing (l : Launch) (D : va_G) (cI cL cZ : ClassId) (ad : Nat → Nat) {σ : St} {x1 : Int32} {x2 : Int32} {r : Int32} {σ' : St} (hF : F_Mo_newThing σ x1 x2 = some (r, σ')) : gw_M l y_Mo_newThing w_Mo_newThing rm_Mo_newThing D gw_cl (gw_ty cI cL cZ) [.ref (ad 0), .int x1, .int x2] (wM ad cI cL cZ σ) (wM ad cI cL cZ σ') (some (.int r)) := by
  refine gw_start (cc := b_Mo_newThing) (nL := 3) (ret := (some .int)) (by decide) rfl (Nat.le_of_ble_eq_true rfl) (fun p e s m below meth c A C hr _ => ?_)
  refine gw_eq (lv' := [(0, .ref (ad 0)), (1, .int x1), (2, .int x2)]) rfl rfl ?_
  unfold F_Mo_newThing at hF
  refine gw_aload_n C d_Mo_newThing_0 rfl 0 rfl ?_
  refine fg_Mo_29 C d_Mo_newThing_1 ?_
  refine gw_aload_n C d_Mo_newThing_4 rfl 0 rfl ?_
  refine fg_Mo_113 (v := σ.1 1) C rfl d_Mo_newThing_5 ?_
  refine gw_iconst (v := 0) C d_Mo_newThing_8 (by decide) ?_
  obtain ⟨h1, hF⟩ := gw_grd hF
  refine aswM_7 C h1 d_Mo_newThing_9 ?_
  refine gw_aload_n C d_Mo_newThing_10 rfl 0 rfl ?_
  refine fg_Mo_32 C d_Mo_newThing_11 ?_
  refine gw_aload_n C d_Mo_newThing_14 rfl 0 rfl ?_
  refine fg_Mo_113 (v := σ.1 1) C rfl d_Mo_newThing_15 ?_
  refine gw_iload_n C d_Mo_newThing_18 rfl 1 rfl ?_
  obtain ⟨h2, hF⟩ := gw_grd hF
  refine aswM_8 C h2 d_Mo_newThing_19 ?_
  refine gw_aload_n C d_Mo_newThing_20 rfl 0 rfl ?_
  refine fg_Mo_35 C d_Mo_newThing_21 ?_
  refine gw_aload_n C d_Mo_newThing_24 rfl 0 rfl ?_
  refine fg_Mo_113 (v := σ.1 1) C rfl d_Mo_newThing_25 ?_
  refine gw_iload_n C d_Mo_newThing_28 rfl 2 rfl ?_
  obtain ⟨h3, hF⟩ := gw_grd hF
  refine aswM_9 C h3 d_Mo_newThing_29 ?_
  refine gw_aload_n C d_Mo_newThing_30 rfl 0 rfl ?_
  refine fg_Mo_50 C d_Mo_newThing_31 ?_
  refine gw_aload_n C d_Mo_newThing_34 rfl 0 rfl ?_
  refine fg_Mo_113 (v := σ.1 1) C rfl d_Mo_newThing_35 ?_
  refine gw_iconst (v := 0) C d_Mo_newThing_38 (by decide) ?_
  obtain ⟨h4, hF⟩ := gw_grd hF
  refine aswM_14 C h4 d_Mo_newThing_39 ?_
  refine gw_aload_n C d_Mo_newThing_40 rfl 0 rfl ?_
  refine fg_Mo_56 C d_Mo_newThing_41 ?_
  refine gw_aload_n C d_Mo_newThing_44 rfl 0 rfl ?_
  refine fg_Mo_113 (v := σ.1 1) C rfl d_Mo_newThing_45 ?_
  refine gw_iconst (v := 0) C d_Mo_newThing_48 (by decide) ?_
  obtain ⟨h5, hF⟩ := gw_grd hF
  refine aswM_16 C h5 rfl d_Mo_newThing_49 ?_
  refine gw_aload_n C d_Mo_newThing_50 rfl 0 rfl ?_
  refine fg_Mo_53 C d_Mo_newThing_51 ?_
  refine gw_aload_n C d_Mo_newThing_54 rfl 0 rfl ?_
  refine fg_Mo_113 (v := σ.1 1) C rfl d_Mo_newThing_55 ?_
  refine gw_iconst (v := (-1)) C d_Mo_newThing_58 (by decide) ?_
  obtain ⟨h6, hF⟩ := gw_grd hF
  refine aswM_15 C h6 d_Mo_newThing_59 ?_
  refine gw_aload_n C d_Mo_newThing_60 rfl 0 rfl ?_
  refine gw_dup C d_Mo_newThing_61 rfl ?_
  refine fg_Mo_113 (v := σ.1 1) C rfl d_Mo_newThing_62 ?_
  refine gw_iconst (v := 1) C d_Mo_newThing_65 (by decide) ?_
  refine gw_iadd C d_Mo_newThing_66 ?_
  refine fp_Mo_113 C d_Mo_newThing_67 ?_
  refine gw_aload_n C d_Mo_newThing_70 rfl 0 rfl ?_
  refine gw_dup C d_Mo_newThing_71 rfl ?_
  refine fg_Mo_116 (v := σ.1 2) C rfl d_Mo_newThing_72 ?_
  refine gw_iconst (v := 1) C d_Mo_newThing_75 (by decide) ?_
  refine gw_iadd C d_Mo_newThing_76 ?_
  refine fp_Mo_116 C d_Mo_newThing_77 ?_
  refine gw_aload_n C d_Mo_newThing_80 rfl 0 rfl ?_
  refine fg_Mo_113 (v := (σ.1 1) + 1) C rfl d_Mo_newThing_81 ?_
  refine gw_iconst (v := 1) C d_Mo_newThing_84 (by decide) ?_
  refine gw_isub C d_Mo_newThing_85 ?_
  cases hF
  exact gw_iret C hr rfl d_Mo_newThing_86
set_option maxRecDepth 100000 in
set_option maxHeartbeats 4000000 in
theorem c_Mo_thingOf (l : Launch) (D : va_G) (cI cL cZ : ClassId) (ad : Nat → Nat) {σ : St} {x1 : Int32} {r : Int32} {σ' : St} (hF : F_Mo_thingOf σ x1 = some (r, σ')) : gw_M l y_Mo_thingOf w_Mo_thingOf rm_Mo_thingOf D gw_cl (gw_ty cI cL cZ) [.ref (ad 0), .int x1] (wM ad cI cL cZ σ) (wM ad cI cL cZ σ') (some (.int r)) := by
  refine gw_start (cc := b_Mo_thingOf) (nL := 2) (ret := (some .int)) (by decide) rfl (Nat.le_of_ble_eq_true rfl) (fun p e s m below meth c A C hr _ => ?_)
  refine gw_eq (lv' := [(0, .ref (ad 0)), (1, .int x1)]) rfl rfl ?_
  unfold F_Mo_thingOf at hF
  refine gw_aload_n C d_Mo_thingOf_0 rfl 0 rfl ?_
  refine gw_iload_n C d_Mo_thingOf_1 rfl 1 rfl ?_
  obtain ⟨r2, σ3, h1, hF⟩ := gw_bnd hF
  refine fc_Mo_207 (As := [.int x1]) (st := []) (σ' := σ3) C (c_Mo_isNew l D cI cL cZ ad h1) ⟨Nat.le_of_ble_eq_true rfl, Nat.le_of_ble_eq_true rfl⟩ ⟨Nat.le_of_ble_eq_true rfl, Nat.le_of_ble_eq_true rfl⟩ rfl (Nat.le_of_ble_eq_true rfl) d_Mo_thingOf_2 ?_
  refine gw_if_eq (tgt := 20) C d_Mo_thingOf_5 (by decide) (fun h4 => ?_) (fun h4 => ?_)
  · have hF := gw_pos h4 hF
    refine gw_aload_n C d_Mo_thingOf_20 rfl 0 rfl ?_
    refine gw_aload_n C d_Mo_thingOf_21 rfl 0 rfl ?_
    refine fg_Mo_154 (v := σ3.1 8) C rfl d_Mo_thingOf_22 ?_
    refine gw_aload_n C d_Mo_thingOf_25 rfl 0 rfl ?_
    refine fg_Mo_13 C d_Mo_thingOf_26 ?_
    refine gw_iload_n C d_Mo_thingOf_29 rfl 1 rfl ?_
    obtain ⟨h5, hF⟩ := gw_grd hF
    refine alwM_2 (v := σ3.2.1 1 x1.toNatClampNeg) C h5 rfl d_Mo_thingOf_30 ?_
    obtain ⟨r7, σ8, h6, hF⟩ := gw_bnd hF
    refine fc_Mo_213 (As := [.int (σ3.1 8), .int (σ3.2.1 1 x1.toNatClampNeg)]) (st := []) (σ' := σ8) C (c_Mo_thingOfPlace l D cI cL cZ ad h6) ⟨Nat.le_of_ble_eq_true rfl, Nat.le_of_ble_eq_true rfl⟩ ⟨Nat.le_of_ble_eq_true rfl, Nat.le_of_ble_eq_true rfl⟩ rfl (Nat.le_of_ble_eq_true rfl) d_Mo_thingOf_31 ?_
    cases hF
    exact gw_iret C hr rfl d_Mo_thingOf_34
  · have hF := gw_neg h4 hF
    refine gw_aload_n C d_Mo_thingOf_8 rfl 0 rfl ?_
    refine gw_iload_n C d_Mo_thingOf_9 rfl 1 rfl ?_
    refine gw_aload_n C d_Mo_thingOf_10 rfl 0 rfl ?_
    refine fg_Mo_154 (v := σ3.1 8) C rfl d_Mo_thingOf_11 ?_
    obtain ⟨r10, σ11, h9, hF⟩ := gw_bnd hF
    refine fc_Mo_210 (As := [.int x1, .int (σ3.1 8)]) (st := []) (σ' := σ11) C (c_Mo_newThing l D cI cL cZ ad h9) ⟨Nat.le_of_ble_eq_true rfl, Nat.le_of_ble_eq_true rfl⟩ ⟨Nat.le_of_ble_eq_true rfl, Nat.le_of_ble_eq_true rfl⟩ rfl (Nat.le_of_ble_eq_true rfl) d_Mo_thingOf_14 ?_
    refine gw_goto (tgt := 34) C d_Mo_thingOf_17 (by decide) ?_
    cases hF
    exact gw_iret C hr rfl d_Mo_thingOf_34
set_option maxRecDepth 100000 in
set_option maxHeartbeats 4000000 in
theorem c_Mo_newPlace (l : Launch) (D : va_G) (cI cL cZ : ClassId) (ad : Nat → Nat) {σ : St} {x1 : Int32} {x2 : Int32} {r : Int32} {σ' : St} (hF : F_Mo_newPlace σ x1 x2 = some (r, σ')) : gw_M l y_Mo_newPlace w_Mo_newPlace rm_Mo_newPlace D gw_cl (gw_ty cI cL cZ) [.ref (ad 0), .int x1, .int x2] (wM ad cI cL cZ σ) (wM ad cI cL cZ σ') (some (.int r)) := by
  refine gw_start (cc := b_Mo_newPlace) (nL := 3) (ret := (some .int)) (by decide) rfl (Nat.le_of_ble_eq_true rfl) (fun p e s m below meth c A C hr _ => ?_)
  refine gw_eq (lv' := [(0, .ref (ad 0)), (1, .int x1), (2, .int x2)]) rfl rfl ?_
  unfold F_Mo_newPlace at hF
  refine gw_aload_n C d_Mo_newPlace_0 rfl 0 rfl ?_
  refine fg_Mo_60 C d_Mo_newPlace_1 ?_
  refine gw_aload_n C d_Mo_newPlace_4 rfl 0 rfl ?_
  refine fg_Mo_119 (v := σ.1 3) C rfl d_Mo_newPlace_5 ?_
  refine gw_iload_n C d_Mo_newPlace_8 rfl 1 rfl ?_
  obtain ⟨h1, hF⟩ := gw_grd hF
  refine aswM_17 C h1 d_Mo_newPlace_9 ?_
  refine gw_aload_n C d_Mo_newPlace_10 rfl 0 rfl ?_
  refine fg_Mo_63 C d_Mo_newPlace_11 ?_
  refine gw_aload_n C d_Mo_newPlace_14 rfl 0 rfl ?_
  refine fg_Mo_119 (v := σ.1 3) C rfl d_Mo_newPlace_15 ?_
  refine gw_iload_n C d_Mo_newPlace_18 rfl 2 rfl ?_
  obtain ⟨h2, hF⟩ := gw_grd hF
  refine aswM_18 C h2 d_Mo_newPlace_19 ?_
  refine gw_aload_n C d_Mo_newPlace_20 rfl 0 rfl ?_
  refine gw_dup C d_Mo_newPlace_21 rfl ?_
  refine fg_Mo_119 (v := σ.1 3) C rfl d_Mo_newPlace_22 ?_
  refine gw_iconst (v := 1) C d_Mo_newPlace_25 (by decide) ?_
  refine gw_iadd C d_Mo_newPlace_26 ?_
  refine fp_Mo_119 C d_Mo_newPlace_27 ?_
  refine gw_aload_n C d_Mo_newPlace_30 rfl 0 rfl ?_
  refine fg_Mo_119 (v := (σ.1 3) + 1) C rfl d_Mo_newPlace_31 ?_
  refine gw_iconst (v := 1) C d_Mo_newPlace_34 (by decide) ?_
  refine gw_isub C d_Mo_newPlace_35 ?_
  cases hF
  exact gw_iret C hr rfl d_Mo_newPlace_36
set_option maxRecDepth 100000 in
set_option maxHeartbeats 4000000 in
theorem k_Mo_goOnWithTerm_333 {p : Program} (l : Launch) {e : Env} {s : State} {m : MethodId} {args : Array Value} {below : List Frame} {meth : Method} {c : Code} {D : va_G} {A : Nat → Prop} {cI cL cZ : ClassId} {ad : Nat → Nat} (C : gw_C p s m args meth c b_Mo_goOnWithTerm 5 R_Mo D gw_cl (gw_ty cI cL cZ) A) (hr : meth.sig.returnType = none) {σ : St} {x1 : Int32} {x2 : Int32} {y0 : Int32} {σ' : St} (hF : K_Mo_goOnWithTerm_333 σ x1 x2 y0 = some σ') : gw_W p l e rm_Mo_goOnWithTerm s m args below meth c D gw_cl A (MQ below (gw_Qc D gw_cl (wM ad cI cL cZ σ') none A) args s 0 0 A) 0 0 5 (wM ad cI cL cZ σ) [(0, .ref (ad 0)), (1, .int x1), (2, .int x2)] 333 [.int y0, .ref (ad 0)] := by
  unfold K_Mo_goOnWithTerm_333 at hF
  refine gw_iload_n C d_Mo_goOnWithTerm_333 rfl 1 rfl ?_
  refine gw_aload_n C d_Mo_goOnWithTerm_334 rfl 0 rfl ?_
  refine fg_Mo_154 (v := σ.1 8) C rfl d_Mo_goOnWithTerm_335 ?_
  refine gw_lconst (v := 0) C d_Mo_goOnWithTerm_338 rfl ?_
  obtain ⟨σ16, h15, hF⟩ := gw_bndv hF
  refine fc_Mo_203 (As := [.int y0, .int x1, .int (σ.1 8), .long 0]) (st := []) (σ' := σ16) C (c_Mo_push l D cI cL cZ ad h15) ⟨Nat.le_of_ble_eq_true rfl, Nat.le_of_ble_eq_true rfl⟩ ⟨Nat.le_of_ble_eq_true rfl, Nat.le_of_ble_eq_true rfl⟩ rfl (Nat.le_of_ble_eq_true rfl) d_Mo_goOnWithTerm_339 ?_
  refine gw_aload_n C d_Mo_goOnWithTerm_342 rfl 0 rfl ?_
  refine gw_iload_n C d_Mo_goOnWithTerm_343 rfl 2 rfl ?_
  refine gw_bipush (v := 14) C d_Mo_goOnWithTerm_344 (by decide) ?_
  refine gw_icmp_ne (tgt := 358) C d_Mo_goOnWithTerm_346 (by decide) (fun h17 => ?_) (fun h17 => ?_)
  · have hF := gw_neg h17 hF
    refine gw_aload_n C d_Mo_goOnWithTerm_358 rfl 0 rfl ?_
    refine fg_Mo_13 C d_Mo_goOnWithTerm_359 ?_
    refine gw_iload_n C d_Mo_goOnWithTerm_362 rfl 1 rfl ?_
    obtain ⟨h18, hF⟩ := gw_grd hF
    refine alwM_2 (v := σ16.2.1 1 x1.toNatClampNeg) C h18 rfl d_Mo_goOnWithTerm_363 ?_
    refine gw_aload_n C d_Mo_goOnWithTerm_364 rfl 0 rfl ?_
    refine fg_Mo_154 (v := σ16.1 8) C rfl d_Mo_goOnWithTerm_365 ?_
    obtain ⟨σ20, h19, hF⟩ := gw_bndv hF
    refine fc_Mo_144 (As := [.int (σ16.2.1 1 x1.toNatClampNeg), .int (σ16.1 8)]) (st := []) (σ' := σ20) C (c_Mo_atHand l D cI cL cZ ad h19) ⟨Nat.le_of_ble_eq_true rfl, Nat.le_of_ble_eq_true rfl⟩ ⟨Nat.le_of_ble_eq_true rfl, Nat.le_of_ble_eq_true rfl⟩ rfl (Nat.le_of_ble_eq_true rfl) d_Mo_goOnWithTerm_368 ?_
    cases hF
    exact gw_vret C hr rfl d_Mo_goOnWithTerm_371
  · have hF := gw_pos h17 hF
    refine gw_aload_n C d_Mo_goOnWithTerm_349 rfl 0 rfl ?_
    refine fg_Mo_19 C d_Mo_goOnWithTerm_350 ?_
    refine gw_iload_n C d_Mo_goOnWithTerm_353 rfl 1 rfl ?_
    obtain ⟨h21, hF⟩ := gw_grd hF
    refine alwM_4 (v := σ16.2.1 3 x1.toNatClampNeg) C h21 rfl d_Mo_goOnWithTerm_354 ?_
    refine gw_goto (tgt := 364) C d_Mo_goOnWithTerm_355 (by decide) ?_
    refine gw_aload_n C d_Mo_goOnWithTerm_364 rfl 0 rfl ?_
    refine fg_Mo_154 (v := σ16.1 8) C rfl d_Mo_goOnWithTerm_365 ?_
    obtain ⟨σ23, h22, hF⟩ := gw_bndv hF
    refine fc_Mo_144 (As := [.int (σ16.2.1 3 x1.toNatClampNeg), .int (σ16.1 8)]) (st := []) (σ' := σ23) C (c_Mo_atHand l D cI cL cZ ad h22) ⟨Nat.le_of_ble_eq_true rfl, Nat.le_of_ble_eq_true rfl⟩ ⟨Nat.le_of_ble_eq_true rfl, Nat.le_of_ble_eq_true rfl⟩ rfl (Nat.le_of_ble_eq_true rfl) d_Mo_goOnWithTerm_368 ?_
    cases hF
    exact gw_vret C hr rfl d_Mo_goOnWithTerm_371
set_option maxRecDepth 100000 in
set_option maxHeartbeats 4000000 in
theorem k_Mo_goOnWithTerm_194 {p : Program} (l : Launch) {e : Env} {s : State} {m : MethodId} {args : Array Value} {below : List Frame} {meth : Method} {c : Code} {D : va_G} {A : Nat → Prop} {cI cL cZ : ClassId} {ad : Nat → Nat} (C : gw_C p s m args meth c b_Mo_goOnWithTerm 5 R_Mo D gw_cl (gw_ty cI cL cZ) A) (hr : meth.sig.returnType = none) {σ : St} {x1 : Int32} {y0 : Int32} {σ' : St} (hF : K_Mo_goOnWithTerm_194 σ x1 y0 = some σ') : gw_W p l e rm_Mo_goOnWithTerm s m args below meth c D gw_cl A (MQ below (gw_Qc D gw_cl (wM ad cI cL cZ σ') none A) args s 0 0 A) 0 0 5 (wM ad cI cL cZ σ) [(0, .ref (ad 0)), (1, .int x1)] 194 [.int y0, .ref (ad 0)] := by
  unfold K_Mo_goOnWithTerm_194 at hF
  refine gw_iconst (v := 0) C d_Mo_goOnWithTerm_194 (by decide) ?_
  refine gw_iconst (v := 1) C d_Mo_goOnWithTerm_195 (by decide) ?_
  obtain ⟨r44, σ45, h43, hF⟩ := gw_bnd hF
  refine fc_Mo_216 (As := [.int y0, .int 0, .int 1]) (st := []) (σ' := σ45) C (c_Mo_hasRoom l D cI cL cZ ad h43) ⟨Nat.le_of_ble_eq_true rfl, Nat.le_of_ble_eq_true rfl⟩ ⟨Nat.le_of_ble_eq_true rfl, Nat.le_of_ble_eq_true rfl⟩ rfl (Nat.le_of_ble_eq_true rfl) d_Mo_goOnWithTerm_196 ?_
  refine gw_if_eq (tgt := 371) C d_Mo_goOnWithTerm_199 (by decide) (fun h46 => ?_) (fun h46 => ?_)
  · have hF := gw_pos h46 hF
    cases hF
    exact gw_vret C hr rfl d_Mo_goOnWithTerm_371
  · have hF := gw_neg h46 hF
    refine gw_aload_n C d_Mo_goOnWithTerm_202 rfl 0 rfl ?_
    refine gw_iconst (v := 1) C d_Mo_goOnWithTerm_203 (by decide) ?_
    refine gw_aload_n C d_Mo_goOnWithTerm_204 rfl 0 rfl ?_
    refine gw_aload_n C d_Mo_goOnWithTerm_205 rfl 0 rfl ?_
    refine fg_Mo_16 C d_Mo_goOnWithTerm_206 ?_
    refine gw_iload_n C d_Mo_goOnWithTerm_209 rfl 1 rfl ?_
    obtain ⟨h47, hF⟩ := gw_grd hF
    refine alwM_3 (v := σ45.2.1 2 x1.toNatClampNeg) C h47 rfl d_Mo_goOnWithTerm_210 ?_
    obtain ⟨r49, σ50, h48, hF⟩ := gw_bnd hF
    refine fc_Mo_220 (As := [.int (σ45.2.1 2 x1.toNatClampNeg)]) (st := [.int 1, .ref (ad 0)]) (σ' := σ50) C (c_Mo_thingOf l D cI cL cZ ad h48) ⟨Nat.le_of_ble_eq_true rfl, Nat.le_of_ble_eq_true rfl⟩ ⟨Nat.le_of_ble_eq_true rfl, Nat.le_of_ble_eq_true rfl⟩ rfl (Nat.le_of_ble_eq_true rfl) d_Mo_goOnWithTerm_211 ?_
    refine gw_iconst (v := (-1)) C d_Mo_goOnWithTerm_214 (by decide) ?_
    refine gw_lconst (v := 0) C d_Mo_goOnWithTerm_215 rfl ?_
    obtain ⟨σ52, h51, hF⟩ := gw_bndv hF
    refine fc_Mo_203 (As := [.int 1, .int r49, .int (-1), .long 0]) (st := []) (σ' := σ52) C (c_Mo_push l D cI cL cZ ad h51) ⟨Nat.le_of_ble_eq_true rfl, Nat.le_of_ble_eq_true rfl⟩ ⟨Nat.le_of_ble_eq_true rfl, Nat.le_of_ble_eq_true rfl⟩ rfl (Nat.le_of_ble_eq_true rfl) d_Mo_goOnWithTerm_216 ?_
    refine gw_aload_n C d_Mo_goOnWithTerm_219 rfl 0 rfl ?_
    refine gw_aload_n C d_Mo_goOnWithTerm_220 rfl 0 rfl ?_
    refine fg_Mo_13 C d_Mo_goOnWithTerm_221 ?_
    refine gw_iload_n C d_Mo_goOnWithTerm_224 rfl 1 rfl ?_
    obtain ⟨h53, hF⟩ := gw_grd hF
    refine alwM_2 (v := σ52.2.1 1 x1.toNatClampNeg) C h53 rfl d_Mo_goOnWithTerm_225 ?_
    refine gw_aload_n C d_Mo_goOnWithTerm_226 rfl 0 rfl ?_
    refine fg_Mo_154 (v := σ52.1 8) C rfl d_Mo_goOnWithTerm_227 ?_
    obtain ⟨σ55, h54, hF⟩ := gw_bndv hF
    refine fc_Mo_144 (As := [.int (σ52.2.1 1 x1.toNatClampNeg), .int (σ52.1 8)]) (st := []) (σ' := σ55) C (c_Mo_atHand l D cI cL cZ ad h54) ⟨Nat.le_of_ble_eq_true rfl, Nat.le_of_ble_eq_true rfl⟩ ⟨Nat.le_of_ble_eq_true rfl, Nat.le_of_ble_eq_true rfl⟩ rfl (Nat.le_of_ble_eq_true rfl) d_Mo_goOnWithTerm_230 ?_
    refine gw_goto (tgt := 371) C d_Mo_goOnWithTerm_233 (by decide) ?_
    cases hF
    exact gw_vret C hr rfl d_Mo_goOnWithTerm_371
set_option maxRecDepth 100000 in
set_option maxHeartbeats 4000000 in
theorem k_Mo_goOnWithTerm_126 {p : Program} (l : Launch) {e : Env} {s : State} {m : MethodId} {args : Array Value} {below : List Frame} {meth : Method} {c : Code} {D : va_G} {A : Nat → Prop} {cI cL cZ : ClassId} {ad : Nat → Nat} (C : gw_C p s m args meth c b_Mo_goOnWithTerm 5 R_Mo D gw_cl (gw_ty cI cL cZ) A) (hr : meth.sig.returnType = none) {σ : St} {x1 : Int32} {y0 : Int32} {y1 : Int32} {σ' : St} (hF : K_Mo_goOnWithTerm_126 σ x1 y0 y1 = some σ') : gw_W p l e rm_Mo_goOnWithTerm s m args below meth c D gw_cl A (MQ below (gw_Qc D gw_cl (wM ad cI cL cZ σ') none A) args s 0 0 A) 0 0 5 (wM ad cI cL cZ σ) [(0, .ref (ad 0)), (1, .int x1)] 126 [.int y0, .int y1, .ref (ad 0)] := by
  unfold K_Mo_goOnWithTerm_126 at hF
  refine gw_iadd C d_Mo_goOnWithTerm_126 ?_
  refine gw_iconst (v := 0) C d_Mo_goOnWithTerm_127 (by decide) ?_
  refine gw_iconst (v := 0) C d_Mo_goOnWithTerm_128 (by decide) ?_
  obtain ⟨r67, σ68, h66, hF⟩ := gw_bnd hF
  refine fc_Mo_216 (As := [.int (y1 + y0), .int 0, .int 0]) (st := []) (σ' := σ68) C (c_Mo_hasRoom l D cI cL cZ ad h66) ⟨Nat.le_of_ble_eq_true rfl, Nat.le_of_ble_eq_true rfl⟩ ⟨Nat.le_of_ble_eq_true rfl, Nat.le_of_ble_eq_true rfl⟩ rfl (Nat.le_of_ble_eq_true rfl) d_Mo_goOnWithTerm_129 ?_
  refine gw_if_eq (tgt := 371) C d_Mo_goOnWithTerm_132 (by decide) (fun h69 => ?_) (fun h69 => ?_)
  · have hF := gw_pos h69 hF
    cases hF
    exact gw_vret C hr rfl d_Mo_goOnWithTerm_371
  · have hF := gw_neg h69 hF
    refine gw_aload_n C d_Mo_goOnWithTerm_135 rfl 0 rfl ?_
    refine gw_aload_n C d_Mo_goOnWithTerm_136 rfl 0 rfl ?_
    refine fg_Mo_13 C d_Mo_goOnWithTerm_137 ?_
    refine gw_iload_n C d_Mo_goOnWithTerm_140 rfl 1 rfl ?_
    obtain ⟨h70, hF⟩ := gw_grd hF
    refine alwM_2 (v := σ68.2.1 1 x1.toNatClampNeg) C h70 rfl d_Mo_goOnWithTerm_141 ?_
    obtain ⟨r72, σ73, h71, hF⟩ := gw_bnd hF
    refine fc_Mo_220 (As := [.int (σ68.2.1 1 x1.toNatClampNeg)]) (st := []) (σ' := σ73) C (c_Mo_thingOf l D cI cL cZ ad h71) ⟨Nat.le_of_ble_eq_true rfl, Nat.le_of_ble_eq_true rfl⟩ ⟨Nat.le_of_ble_eq_true rfl, Nat.le_of_ble_eq_true rfl⟩ rfl (Nat.le_of_ble_eq_true rfl) d_Mo_goOnWithTerm_142 ?_
    refine gw_istore_n (lv' := [(3, .int r72), (0, .ref (ad 0)), (1, .int x1)]) C d_Mo_goOnWithTerm_145 rfl (by decide) rfl ?_
    refine gw_aload_n C d_Mo_goOnWithTerm_146 rfl 1 rfl ?_
    refine gw_aload_n C d_Mo_goOnWithTerm_147 rfl 1 rfl ?_
    refine fg_Mo_16 C d_Mo_goOnWithTerm_148 ?_
    refine gw_iload_n C d_Mo_goOnWithTerm_151 rfl 2 rfl ?_
    obtain ⟨h74, hF⟩ := gw_grd hF
    refine alwM_3 (v := σ73.2.1 2 x1.toNatClampNeg) C h74 rfl d_Mo_goOnWithTerm_152 ?_
    obtain ⟨r76, σ77, h75, hF⟩ := gw_bnd hF
    refine fc_Mo_220 (As := [.int (σ73.2.1 2 x1.toNatClampNeg)]) (st := []) (σ' := σ77) C (c_Mo_thingOf l D cI cL cZ ad h75) ⟨Nat.le_of_ble_eq_true rfl, Nat.le_of_ble_eq_true rfl⟩ ⟨Nat.le_of_ble_eq_true rfl, Nat.le_of_ble_eq_true rfl⟩ rfl (Nat.le_of_ble_eq_true rfl) d_Mo_goOnWithTerm_153 ?_
    refine gw_istore (lv' := [(4, .int r76), (3, .int r72), (0, .ref (ad 0)), (1, .int x1)]) C d_Mo_goOnWithTerm_156 (by decide) rfl ?_
    refine gw_aload_n C d_Mo_goOnWithTerm_158 rfl 2 rfl ?_
    refine gw_iconst (v := 2) C d_Mo_goOnWithTerm_159 (by decide) ?_
    refine gw_lconst (v := 0) C d_Mo_goOnWithTerm_160 rfl ?_
    refine gw_iload_n C d_Mo_goOnWithTerm_161 rfl 1 rfl ?_
    refine gw_iload C d_Mo_goOnWithTerm_162 0 rfl ?_
    obtain ⟨σ79, h78, hF⟩ := gw_bndv hF
    refine fc_Mo_196 (As := [.int 2, .long 0, .int r72, .int r76]) (st := []) (σ' := σ79) C (c_Mo_valueAtHand l D cI cL cZ ad h78) ⟨Nat.le_of_ble_eq_true rfl, Nat.le_of_ble_eq_true rfl⟩ ⟨Nat.le_of_ble_eq_true rfl, Nat.le_of_ble_eq_true rfl⟩ rfl (Nat.le_of_ble_eq_true rfl) d_Mo_goOnWithTerm_164 ?_
    refine gw_goto (tgt := 371) C d_Mo_goOnWithTerm_167 (by decide) ?_
    cases hF
    exact gw_vret C hr rfl d_Mo_goOnWithTerm_371
set_option maxRecDepth 100000 in
set_option maxHeartbeats 4000000 in
theorem k_Mo_goOnWithTerm_108 {p : Program} (l : Launch) {e : Env} {s : State} {m : MethodId} {args : Array Value} {below : List Frame} {meth : Method} {c : Code} {D : va_G} {A : Nat → Prop} {cI cL cZ : ClassId} {ad : Nat → Nat} (C : gw_C p s m args meth c b_Mo_goOnWithTerm 5 R_Mo D gw_cl (gw_ty cI cL cZ) A) (hr : meth.sig.returnType = none) {σ : St} {x1 : Int32} {y0 : Int32} {σ' : St} (hF : K_Mo_goOnWithTerm_108 σ x1 y0 = some σ') : gw_W p l e rm_Mo_goOnWithTerm s m args below meth c D gw_cl A (MQ below (gw_Qc D gw_cl (wM ad cI cL cZ σ') none A) args s 0 0 A) 0 0 5 (wM ad cI cL cZ σ) [(0, .ref (ad 0)), (1, .int x1)] 108 [.int y0, .ref (ad 0)] := by
  unfold K_Mo_goOnWithTerm_108 at hF
  refine gw_aload_n C d_Mo_goOnWithTerm_108 rfl 0 rfl ?_
  refine gw_aload_n C d_Mo_goOnWithTerm_109 rfl 0 rfl ?_
  refine fg_Mo_16 C d_Mo_goOnWithTerm_110 ?_
  refine gw_iload_n C d_Mo_goOnWithTerm_113 rfl 1 rfl ?_
  obtain ⟨h61, hF⟩ := gw_grd hF
  refine alwM_3 (v := σ.2.1 2 x1.toNatClampNeg) C h61 rfl d_Mo_goOnWithTerm_114 ?_
  obtain ⟨r63, σ64, h62, hF⟩ := gw_bnd hF
  refine fc_Mo_207 (As := [.int (σ.2.1 2 x1.toNatClampNeg)]) (st := [.int y0, .ref (ad 0)]) (σ' := σ64) C (c_Mo_isNew l D cI cL cZ ad h62) ⟨Nat.le_of_ble_eq_true rfl, Nat.le_of_ble_eq_true rfl⟩ ⟨Nat.le_of_ble_eq_true rfl, Nat.le_of_ble_eq_true rfl⟩ rfl (Nat.le_of_ble_eq_true rfl) d_Mo_goOnWithTerm_115 ?_
  refine gw_if_eq (tgt := 125) C d_Mo_goOnWithTerm_118 (by decide) (fun h65 => ?_) (fun h65 => ?_)
  · have hF := gw_pos h65 hF
    refine gw_iconst (v := 0) C d_Mo_goOnWithTerm_125 (by decide) ?_
    exact k_Mo_goOnWithTerm_126 l C hr hF
  · have hF := gw_neg h65 hF
    refine gw_iconst (v := 1) C d_Mo_goOnWithTerm_121 (by decide) ?_
    refine gw_goto (tgt := 126) C d_Mo_goOnWithTerm_122 (by decide) ?_
    exact k_Mo_goOnWithTerm_126 l C hr hF
set_option maxRecDepth 100000 in
set_option maxHeartbeats 4000000 in
theorem c_Mo_goOnWithTerm (l : Launch) (D : va_G) (cI cL cZ : ClassId) (ad : Nat → Nat) {σ : St} {σ' : St} (hF : F_Mo_goOnWithTerm σ = some σ') : gw_M l y_Mo_goOnWithTerm w_Mo_goOnWithTerm rm_Mo_goOnWithTerm D gw_cl (gw_ty cI cL cZ) [.ref (ad 0)] (wM ad cI cL cZ σ) (wM ad cI cL cZ σ') none := by
  refine gw_start (cc := b_Mo_goOnWithTerm) (nL := 5) (ret := none) (by decide) rfl (Nat.le_of_ble_eq_true rfl) (fun p e s m below meth c A C hr _ => ?_)
  refine gw_eq (lv' := [(0, .ref (ad 0))]) rfl rfl ?_
  unfold F_Mo_goOnWithTerm at hF
  refine gw_aload_n C d_Mo_goOnWithTerm_0 rfl 0 rfl ?_
  refine fg_Mo_151 (v := σ.1 7) C rfl d_Mo_goOnWithTerm_1 ?_
  refine gw_istore_n (lv' := [(1, .int (σ.1 7)), (0, .ref (ad 0))]) C d_Mo_goOnWithTerm_4 rfl (by decide) rfl ?_
  refine gw_aload_n C d_Mo_goOnWithTerm_5 rfl 1 rfl ?_
  refine fg_Mo_7 C d_Mo_goOnWithTerm_6 ?_
  refine gw_iload_n C d_Mo_goOnWithTerm_9 rfl 0 rfl ?_
  obtain ⟨h1, hF⟩ := gw_grd hF
  refine alwM_1 (v := σ.2.1 0 ((σ.1 7).toNatClampNeg)) C h1 rfl d_Mo_goOnWithTerm_10 ?_
  refine gw_istore_n (lv' := [(2, .int (σ.2.1 0 ((σ.1 7).toNatClampNeg))), (1, .int (σ.1 7)), (0, .ref (ad 0))]) C d_Mo_goOnWithTerm_11 rfl (by decide) rfl ?_
  refine gw_iload_n C d_Mo_goOnWithTerm_12 rfl 0 rfl ?_
  refine gw_if_ne (tgt := 32) C d_Mo_goOnWithTerm_13 (by decide) (fun h2 => ?_) (fun h2 => ?_)
  · have hF := gw_neg h2 hF
    refine gw_iload_n C d_Mo_goOnWithTerm_32 rfl 0 rfl ?_
    refine gw_iconst (v := 2) C d_Mo_goOnWithTerm_33 (by decide) ?_
    refine gw_icmp_ne (tgt := 56) C d_Mo_goOnWithTerm_34 (by decide) (fun h3 => ?_) (fun h3 => ?_)
    · have hF := gw_neg h3 hF
      refine gw_iload_n C d_Mo_goOnWithTerm_56 rfl 0 rfl ?_
      refine gw_iconst (v := 1) C d_Mo_goOnWithTerm_57 (by decide) ?_
      refine gw_icmp_ne (tgt := 83) C d_Mo_goOnWithTerm_58 (by decide) (fun h4 => ?_) (fun h4 => ?_)
      · have hF := gw_neg h4 hF
        refine gw_iload_n C d_Mo_goOnWithTerm_83 rfl 0 rfl ?_
        refine gw_bipush (v := 7) C d_Mo_goOnWithTerm_84 (by decide) ?_
        refine gw_icmp_ne (tgt := 170) C d_Mo_goOnWithTerm_86 (by decide) (fun h5 => ?_) (fun h5 => ?_)
        · have hF := gw_neg h5 hF
          refine gw_iload_n C d_Mo_goOnWithTerm_170 rfl 0 rfl ?_
          refine gw_iconst (v := 5) C d_Mo_goOnWithTerm_171 (by decide) ?_
          refine gw_icmp_ne (tgt := 236) C d_Mo_goOnWithTerm_172 (by decide) (fun h6 => ?_) (fun h6 => ?_)
          · have hF := gw_neg h6 hF
            refine gw_iload_n C d_Mo_goOnWithTerm_236 rfl 0 rfl ?_
            refine gw_bipush (v := 6) C d_Mo_goOnWithTerm_237 (by decide) ?_
            refine gw_icmp_ne (tgt := 292) C d_Mo_goOnWithTerm_239 (by decide) (fun h7 => ?_) (fun h7 => ?_)
            · have hF := gw_neg h7 hF
              refine gw_aload_n C d_Mo_goOnWithTerm_292 rfl 2 rfl ?_
              refine gw_iconst (v := 0) C d_Mo_goOnWithTerm_293 (by decide) ?_
              refine gw_iconst (v := 0) C d_Mo_goOnWithTerm_294 (by decide) ?_
              refine gw_iconst (v := 1) C d_Mo_goOnWithTerm_295 (by decide) ?_
              obtain ⟨r9, σ10, h8, hF⟩ := gw_bnd hF
              refine fc_Mo_216 (As := [.int 0, .int 0, .int 1]) (st := []) (σ' := σ10) C (c_Mo_hasRoom l D cI cL cZ ad h8) ⟨Nat.le_of_ble_eq_true rfl, Nat.le_of_ble_eq_true rfl⟩ ⟨Nat.le_of_ble_eq_true rfl, Nat.le_of_ble_eq_true rfl⟩ rfl (Nat.le_of_ble_eq_true rfl) d_Mo_goOnWithTerm_296 ?_
              refine gw_if_eq (tgt := 371) C d_Mo_goOnWithTerm_299 (by decide) (fun h11 => ?_) (fun h11 => ?_)
              · have hF := gw_pos h11 hF
                cases hF
                exact gw_vret C hr rfl d_Mo_goOnWithTerm_371
              · have hF := gw_neg h11 hF
                refine gw_aload_n C d_Mo_goOnWithTerm_302 rfl 2 rfl ?_
                refine gw_iload_n C d_Mo_goOnWithTerm_303 rfl 0 rfl ?_
                refine gw_bipush (v := 14) C d_Mo_goOnWithTerm_304 (by decide) ?_
                refine gw_icmp_ne (tgt := 313) C d_Mo_goOnWithTerm_306 (by decide) (fun h12 => ?_) (fun h12 => ?_)
                · have hF := gw_neg h12 hF
                  refine gw_iload_n C d_Mo_goOnWithTerm_313 rfl 0 rfl ?_
                  refine gw_iconst (v := 3) C d_Mo_goOnWithTerm_314 (by decide) ?_
                  refine gw_icmp_ne (tgt := 322) C d_Mo_goOnWithTerm_315 (by decide) (fun h13 => ?_) (fun h13 => ?_)
                  · have hF := gw_neg h13 hF
                    refine gw_iload_n C d_Mo_goOnWithTerm_322 rfl 0 rfl ?_
                    refine gw_iconst (v := 4) C d_Mo_goOnWithTerm_323 (by decide) ?_
                    refine gw_icmp_ne (tgt := 332) C d_Mo_goOnWithTerm_324 (by decide) (fun h14 => ?_) (fun h14 => ?_)
                    · have hF := gw_neg h14 hF
                      refine gw_iconst (v := 2) C d_Mo_goOnWithTerm_332 (by decide) ?_
                      refine gw_less [2, 1, 0] rfl ?_
                      exact k_Mo_goOnWithTerm_333 l C hr hF
                    · have hF := gw_pos h14 hF
                      refine gw_bipush (v := 6) C d_Mo_goOnWithTerm_327 (by decide) ?_
                      refine gw_goto (tgt := 333) C d_Mo_goOnWithTerm_329 (by decide) ?_
                      refine gw_less [2, 1, 0] rfl ?_
                      exact k_Mo_goOnWithTerm_333 l C hr hF
                  · have hF := gw_pos h13 hF
                    refine gw_iconst (v := 5) C d_Mo_goOnWithTerm_318 (by decide) ?_
                    refine gw_goto (tgt := 333) C d_Mo_goOnWithTerm_319 (by decide) ?_
                    refine gw_less [2, 1, 0] rfl ?_
                    exact k_Mo_goOnWithTerm_333 l C hr hF
                · have hF := gw_pos h12 hF
                  refine gw_iconst (v := 4) C d_Mo_goOnWithTerm_309 (by decide) ?_
                  refine gw_goto (tgt := 333) C d_Mo_goOnWithTerm_310 (by decide) ?_
                  refine gw_less [2, 1, 0] rfl ?_
                  exact k_Mo_goOnWithTerm_333 l C hr hF
            · have hF := gw_pos h7 hF
              refine gw_aload_n C d_Mo_goOnWithTerm_242 rfl 2 rfl ?_
              refine gw_iconst (v := 1) C d_Mo_goOnWithTerm_243 (by decide) ?_
              refine gw_iconst (v := 1) C d_Mo_goOnWithTerm_244 (by decide) ?_
              refine gw_iconst (v := 0) C d_Mo_goOnWithTerm_245 (by decide) ?_
              obtain ⟨r25, σ26, h24, hF⟩ := gw_bnd hF
              refine fc_Mo_216 (As := [.int 1, .int 1, .int 0]) (st := []) (σ' := σ26) C (c_Mo_hasRoom l D cI cL cZ ad h24) ⟨Nat.le_of_ble_eq_true rfl, Nat.le_of_ble_eq_true rfl⟩ ⟨Nat.le_of_ble_eq_true rfl, Nat.le_of_ble_eq_true rfl⟩ rfl (Nat.le_of_ble_eq_true rfl) d_Mo_goOnWithTerm_246 ?_
              refine gw_if_eq (tgt := 371) C d_Mo_goOnWithTerm_249 (by decide) (fun h27 => ?_) (fun h27 => ?_)
              · have hF := gw_pos h27 hF
                cases hF
                exact gw_vret C hr rfl d_Mo_goOnWithTerm_371
              · have hF := gw_neg h27 hF
                refine gw_aload_n C d_Mo_goOnWithTerm_252 rfl 2 rfl ?_
                refine gw_aload_n C d_Mo_goOnWithTerm_253 rfl 2 rfl ?_
                refine fg_Mo_113 (v := σ26.1 1) C rfl d_Mo_goOnWithTerm_254 ?_
                refine gw_aload_n C d_Mo_goOnWithTerm_257 rfl 2 rfl ?_
                refine fg_Mo_154 (v := σ26.1 8) C rfl d_Mo_goOnWithTerm_258 ?_
                obtain ⟨r29, σ30, h28, hF⟩ := gw_bnd hF
                refine fc_Mo_223 (As := [.int (σ26.1 1), .int (σ26.1 8)]) (st := []) (σ' := σ30) C (c_Mo_newPlace l D cI cL cZ ad h28) ⟨Nat.le_of_ble_eq_true rfl, Nat.le_of_ble_eq_true rfl⟩ ⟨Nat.le_of_ble_eq_true rfl, Nat.le_of_ble_eq_true rfl⟩ rfl (Nat.le_of_ble_eq_true rfl) d_Mo_goOnWithTerm_261 ?_
                refine gw_istore_n (lv' := [(3, .int r29), (2, .int (σ.2.1 0 ((σ.1 7).toNatClampNeg))), (1, .int (σ.1 7)), (0, .ref (ad 0))]) C d_Mo_goOnWithTerm_264 rfl (by decide) rfl ?_
                refine gw_aload_n C d_Mo_goOnWithTerm_265 rfl 3 rfl ?_
                refine gw_aload_n C d_Mo_goOnWithTerm_266 rfl 3 rfl ?_
                refine fg_Mo_13 C d_Mo_goOnWithTerm_267 ?_
                refine gw_iload_n C d_Mo_goOnWithTerm_270 rfl 2 rfl ?_
                obtain ⟨h31, hF⟩ := gw_grd hF
                refine alwM_2 (v := σ30.2.1 1 ((σ.1 7).toNatClampNeg)) C h31 rfl d_Mo_goOnWithTerm_271 ?_
                refine gw_iload_n C d_Mo_goOnWithTerm_272 rfl 0 rfl ?_
                obtain ⟨r33, σ34, h32, hF⟩ := gw_bnd hF
                refine fc_Mo_210 (As := [.int (σ30.2.1 1 ((σ.1 7).toNatClampNeg)), .int r29]) (st := []) (σ' := σ34) C (c_Mo_newThing l D cI cL cZ ad h32) ⟨Nat.le_of_ble_eq_true rfl, Nat.le_of_ble_eq_true rfl⟩ ⟨Nat.le_of_ble_eq_true rfl, Nat.le_of_ble_eq_true rfl⟩ rfl (Nat.le_of_ble_eq_true rfl) d_Mo_goOnWithTerm_273 ?_
                refine gw_istore (lv' := [(4, .int r33), (3, .int r29), (2, .int (σ.2.1 0 ((σ.1 7).toNatClampNeg))), (1, .int (σ.1 7)), (0, .ref (ad 0))]) C d_Mo_goOnWithTerm_276 (by decide) rfl ?_
                refine gw_aload_n C d_Mo_goOnWithTerm_278 rfl 4 rfl ?_
                refine gw_aload_n C d_Mo_goOnWithTerm_279 rfl 4 rfl ?_
                refine fg_Mo_16 C d_Mo_goOnWithTerm_280 ?_
                refine gw_iload_n C d_Mo_goOnWithTerm_283 rfl 3 rfl ?_
                obtain ⟨h35, hF⟩ := gw_grd hF
                refine alwM_3 (v := σ34.2.1 2 ((σ.1 7).toNatClampNeg)) C h35 rfl d_Mo_goOnWithTerm_284 ?_
                refine gw_iload_n C d_Mo_goOnWithTerm_285 rfl 1 rfl ?_
                obtain ⟨σ37, h36, hF⟩ := gw_bndv hF
                refine fc_Mo_144 (As := [.int (σ34.2.1 2 ((σ.1 7).toNatClampNeg)), .int r29]) (st := []) (σ' := σ37) C (c_Mo_atHand l D cI cL cZ ad h36) ⟨Nat.le_of_ble_eq_true rfl, Nat.le_of_ble_eq_true rfl⟩ ⟨Nat.le_of_ble_eq_true rfl, Nat.le_of_ble_eq_true rfl⟩ rfl (Nat.le_of_ble_eq_true rfl) d_Mo_goOnWithTerm_286 ?_
                refine gw_goto (tgt := 371) C d_Mo_goOnWithTerm_289 (by decide) ?_
                cases hF
                exact gw_vret C hr rfl d_Mo_goOnWithTerm_371
          · have hF := gw_pos h6 hF
            refine gw_aload_n C d_Mo_goOnWithTerm_175 rfl 2 rfl ?_
            refine gw_aload_n C d_Mo_goOnWithTerm_176 rfl 2 rfl ?_
            refine gw_aload_n C d_Mo_goOnWithTerm_177 rfl 2 rfl ?_
            refine fg_Mo_16 C d_Mo_goOnWithTerm_178 ?_
            refine gw_iload_n C d_Mo_goOnWithTerm_181 rfl 1 rfl ?_
            obtain ⟨h38, hF⟩ := gw_grd hF
            refine alwM_3 (v := σ.2.1 2 ((σ.1 7).toNatClampNeg)) C h38 rfl d_Mo_goOnWithTerm_182 ?_
            obtain ⟨r40, σ41, h39, hF⟩ := gw_bnd hF
            refine fc_Mo_207 (As := [.int (σ.2.1 2 ((σ.1 7).toNatClampNeg))]) (st := [.ref (ad 0)]) (σ' := σ41) C (c_Mo_isNew l D cI cL cZ ad h39) ⟨Nat.le_of_ble_eq_true rfl, Nat.le_of_ble_eq_true rfl⟩ ⟨Nat.le_of_ble_eq_true rfl, Nat.le_of_ble_eq_true rfl⟩ rfl (Nat.le_of_ble_eq_true rfl) d_Mo_goOnWithTerm_183 ?_
            refine gw_if_eq (tgt := 193) C d_Mo_goOnWithTerm_186 (by decide) (fun h42 => ?_) (fun h42 => ?_)
            · have hF := gw_pos h42 hF
              refine gw_iconst (v := 0) C d_Mo_goOnWithTerm_193 (by decide) ?_
              refine gw_less [2, 1] rfl ?_
              exact k_Mo_goOnWithTerm_194 l C hr hF
            · have hF := gw_neg h42 hF
              refine gw_iconst (v := 1) C d_Mo_goOnWithTerm_189 (by decide) ?_
              refine gw_goto (tgt := 194) C d_Mo_goOnWithTerm_190 (by decide) ?_
              refine gw_less [2, 1] rfl ?_
              exact k_Mo_goOnWithTerm_194 l C hr hF
        · have hF := gw_pos h5 hF
          refine gw_aload_n C d_Mo_goOnWithTerm_89 rfl 2 rfl ?_
          refine gw_aload_n C d_Mo_goOnWithTerm_90 rfl 2 rfl ?_
          refine gw_aload_n C d_Mo_goOnWithTerm_91 rfl 2 rfl ?_
          refine fg_Mo_13 C d_Mo_goOnWithTerm_92 ?_
          refine gw_iload_n C d_Mo_goOnWithTerm_95 rfl 1 rfl ?_
          obtain ⟨h56, hF⟩ := gw_grd hF
          refine alwM_2 (v := σ.2.1 1 ((σ.1 7).toNatClampNeg)) C h56 rfl d_Mo_goOnWithTerm_96 ?_
          obtain ⟨r58, σ59, h57, hF⟩ := gw_bnd hF
          refine fc_Mo_207 (As := [.int (σ.2.1 1 ((σ.1 7).toNatClampNeg))]) (st := [.ref (ad 0)]) (σ' := σ59) C (c_Mo_isNew l D cI cL cZ ad h57) ⟨Nat.le_of_ble_eq_true rfl, Nat.le_of_ble_eq_true rfl⟩ ⟨Nat.le_of_ble_eq_true rfl, Nat.le_of_ble_eq_true rfl⟩ rfl (Nat.le_of_ble_eq_true rfl) d_Mo_goOnWithTerm_97 ?_
          refine gw_if_eq (tgt := 107) C d_Mo_goOnWithTerm_100 (by decide) (fun h60 => ?_) (fun h60 => ?_)
          · have hF := gw_pos h60 hF
            refine gw_iconst (v := 0) C d_Mo_goOnWithTerm_107 (by decide) ?_
            refine gw_less [2, 1] rfl ?_
            exact k_Mo_goOnWithTerm_108 l C hr hF
          · have hF := gw_neg h60 hF
            refine gw_iconst (v := 1) C d_Mo_goOnWithTerm_103 (by decide) ?_
            refine gw_goto (tgt := 108) C d_Mo_goOnWithTerm_104 (by decide) ?_
            refine gw_less [2, 1] rfl ?_
            exact k_Mo_goOnWithTerm_108 l C hr hF
      · have hF := gw_pos h4 hF
        refine gw_aload_n C d_Mo_goOnWithTerm_61 rfl 2 rfl ?_
        refine gw_aload_n C d_Mo_goOnWithTerm_62 rfl 2 rfl ?_
        refine gw_aload_n C d_Mo_goOnWithTerm_63 rfl 2 rfl ?_
        refine fg_Mo_154 (v := σ.1 8) C rfl d_Mo_goOnWithTerm_64 ?_
        refine gw_aload_n C d_Mo_goOnWithTerm_67 rfl 2 rfl ?_
        refine fg_Mo_13 C d_Mo_goOnWithTerm_68 ?_
        refine gw_iload_n C d_Mo_goOnWithTerm_71 rfl 1 rfl ?_
        obtain ⟨h80, hF⟩ := gw_grd hF
        refine alwM_2 (v := σ.2.1 1 ((σ.1 7).toNatClampNeg)) C h80 rfl d_Mo_goOnWithTerm_72 ?_
        obtain ⟨r82, σ83, h81, hF⟩ := gw_bnd hF
        refine fc_Mo_213 (As := [.int (σ.1 8), .int (σ.2.1 1 ((σ.1 7).toNatClampNeg))]) (st := [.ref (ad 0)]) (σ' := σ83) C (c_Mo_thingOfPlace l D cI cL cZ ad h81) ⟨Nat.le_of_ble_eq_true rfl, Nat.le_of_ble_eq_true rfl⟩ ⟨Nat.le_of_ble_eq_true rfl, Nat.le_of_ble_eq_true rfl⟩ rfl (Nat.le_of_ble_eq_true rfl) d_Mo_goOnWithTerm_73 ?_
        refine gw_iconst (v := 0) C d_Mo_goOnWithTerm_76 (by decide) ?_
        obtain ⟨σ85, h84, hF⟩ := gw_bndv hF
        refine fc_Mo_183 (As := [.int r82, .int 0]) (st := []) (σ' := σ85) C (c_Mo_need l D cI cL cZ ad h84) ⟨Nat.le_of_ble_eq_true rfl, Nat.le_of_ble_eq_true rfl⟩ ⟨Nat.le_of_ble_eq_true rfl, Nat.le_of_ble_eq_true rfl⟩ rfl (Nat.le_of_ble_eq_true rfl) d_Mo_goOnWithTerm_77 ?_
        refine gw_goto (tgt := 371) C d_Mo_goOnWithTerm_80 (by decide) ?_
        cases hF
        exact gw_vret C hr rfl d_Mo_goOnWithTerm_371
    · have hF := gw_pos h3 hF
      refine gw_aload_n C d_Mo_goOnWithTerm_37 rfl 2 rfl ?_
      refine gw_iconst (v := 1) C d_Mo_goOnWithTerm_38 (by decide) ?_
      refine gw_lconst (v := 0) C d_Mo_goOnWithTerm_39 rfl ?_
      refine gw_aload_n C d_Mo_goOnWithTerm_40 rfl 2 rfl ?_
      refine fg_Mo_13 C d_Mo_goOnWithTerm_41 ?_
      refine gw_iload_n C d_Mo_goOnWithTerm_44 rfl 1 rfl ?_
      obtain ⟨h86, hF⟩ := gw_grd hF
      refine alwM_2 (v := σ.2.1 1 ((σ.1 7).toNatClampNeg)) C h86 rfl d_Mo_goOnWithTerm_45 ?_
      refine gw_aload_n C d_Mo_goOnWithTerm_46 rfl 2 rfl ?_
      refine fg_Mo_154 (v := σ.1 8) C rfl d_Mo_goOnWithTerm_47 ?_
      obtain ⟨σ88, h87, hF⟩ := gw_bndv hF
      refine fc_Mo_196 (As := [.int 1, .long 0, .int (σ.2.1 1 ((σ.1 7).toNatClampNeg)), .int (σ.1 8)]) (st := []) (σ' := σ88) C (c_Mo_valueAtHand l D cI cL cZ ad h87) ⟨Nat.le_of_ble_eq_true rfl, Nat.le_of_ble_eq_true rfl⟩ ⟨Nat.le_of_ble_eq_true rfl, Nat.le_of_ble_eq_true rfl⟩ rfl (Nat.le_of_ble_eq_true rfl) d_Mo_goOnWithTerm_50 ?_
      refine gw_goto (tgt := 371) C d_Mo_goOnWithTerm_53 (by decide) ?_
      cases hF
      exact gw_vret C hr rfl d_Mo_goOnWithTerm_371
  · have hF := gw_pos h2 hF
    refine gw_aload_n C d_Mo_goOnWithTerm_16 rfl 2 rfl ?_
    refine gw_iconst (v := 0) C d_Mo_goOnWithTerm_17 (by decide) ?_
    refine gw_aload_n C d_Mo_goOnWithTerm_18 rfl 2 rfl ?_
    refine fg_Mo_22 C d_Mo_goOnWithTerm_19 ?_
    refine gw_iload_n C d_Mo_goOnWithTerm_22 rfl 1 rfl ?_
    obtain ⟨h89, hF⟩ := gw_grd hF
    refine alwM_5 (v := σ.2.2.2 0 ((σ.1 7).toNatClampNeg)) C h89 rfl d_Mo_goOnWithTerm_23 ?_
    refine gw_iconst (v := (-1)) C d_Mo_goOnWithTerm_24 (by decide) ?_
    refine gw_iconst (v := (-1)) C d_Mo_goOnWithTerm_25 (by decide) ?_
    obtain ⟨σ91, h90, hF⟩ := gw_bndv hF
    refine fc_Mo_196 (As := [.int 0, .long (σ.2.2.2 0 ((σ.1 7).toNatClampNeg)), .int (-1), .int (-1)]) (st := []) (σ' := σ91) C (c_Mo_valueAtHand l D cI cL cZ ad h90) ⟨Nat.le_of_ble_eq_true rfl, Nat.le_of_ble_eq_true rfl⟩ ⟨Nat.le_of_ble_eq_true rfl, Nat.le_of_ble_eq_true rfl⟩ rfl (Nat.le_of_ble_eq_true rfl) d_Mo_goOnWithTerm_26 ?_
    refine gw_goto (tgt := 371) C d_Mo_goOnWithTerm_29 (by decide) ?_
    cases hF
    exact gw_vret C hr rfl d_Mo_goOnWithTerm_371
set_option maxRecDepth 100000 in
set_option maxHeartbeats 4000000 in
theorem k_Mo_act_18 {p : Program} (l : Launch) {e : Env} {s : State} {m : MethodId} {args : Array Value} {below : List Frame} {meth : Method} {c : Code} {D : va_G} {A : Nat → Prop} {cI cL cZ : ClassId} {ad : Nat → Nat} (C : gw_C p s m args meth c b_Mo_act 8 R_Mo D gw_cl (gw_ty cI cL cZ) A) (hr : meth.sig.returnType = none) {σ : St} {x1 : Int32} {x2 : Int64} {x4 : Int64} {σ' : St} (hF : K_Mo_act_18 σ x1 x2 x4 = some σ') : gw_W p l e rm_Mo_act s m args below meth c D gw_cl A (MQ below (gw_Qc D gw_cl (wM ad cI cL cZ σ') none A) args s 0 0 A) 0 0 8 (wM ad cI cL cZ σ) [(0, .ref (ad 0)), (1, .int x1), (2, .long x2), (4, .long x4)] 18 [] := by
  unfold K_Mo_act_18 at hF
  refine gw_aload_n C d_Mo_act_18 rfl 0 rfl ?_
  refine gw_dup C d_Mo_act_19 rfl ?_
  refine fg_Mo_122 (v := σ.1 4) C rfl d_Mo_act_20 ?_
  refine gw_iconst (v := 1) C d_Mo_act_23 (by decide) ?_
  refine gw_isub C d_Mo_act_24 ?_
  refine fp_Mo_122 C d_Mo_act_25 ?_
  refine gw_iload_n C d_Mo_act_28 rfl 1 rfl ?_
  refine gw_if_ne (tgt := 39) C d_Mo_act_29 (by decide) (fun h2 => ?_) (fun h2 => ?_)
  · have hF := gw_neg h2 hF
    refine gw_iload_n C d_Mo_act_39 rfl 1 rfl ?_
    refine gw_iconst (v := 1) C d_Mo_act_40 (by decide) ?_
    refine gw_icmp_ne (tgt := 51) C d_Mo_act_41 (by decide) (fun h3 => ?_) (fun h3 => ?_)
    · have hF := gw_neg h3 hF
      refine gw_iload_n C d_Mo_act_51 rfl 1 rfl ?_
      refine gw_iconst (v := 2) C d_Mo_act_52 (by decide) ?_
      refine gw_icmp_ne (tgt := 63) C d_Mo_act_53 (by decide) (fun h4 => ?_) (fun h4 => ?_)
      · have hF := gw_neg h4 hF
        refine gw_iload_n C d_Mo_act_63 rfl 1 rfl ?_
        refine gw_iconst (v := 3) C d_Mo_act_64 (by decide) ?_
        refine gw_icmp_ne (tgt := 75) C d_Mo_act_65 (by decide) (fun h5 => ?_) (fun h5 => ?_)
        · have hF := gw_neg h5 hF
          refine gw_iload_n C d_Mo_act_75 rfl 1 rfl ?_
          refine gw_iconst (v := 4) C d_Mo_act_76 (by decide) ?_
          refine gw_icmp_ne (tgt := 95) C d_Mo_act_77 (by decide) (fun h6 => ?_) (fun h6 => ?_)
          · have hF := gw_neg h6 hF
            refine gw_lload_n C d_Mo_act_95 rfl 2 rfl ?_
            refine gw_lload C d_Mo_act_96 3 rfl ?_
            refine gw_lcmp C d_Mo_act_98 ?_
            refine gw_if_ge (tgt := 106) C d_Mo_act_99 (by decide) (fun h7 => ?_) (fun h7 => ?_)
            · have hF := gw_pos h7 hF
              refine gw_lconst (v := 0) C d_Mo_act_106 rfl ?_
              refine gw_lstore (lv' := [(6, .long 0), (0, .ref (ad 0)), (1, .int x1), (2, .long x2), (4, .long x4)]) C d_Mo_act_107 (by decide) rfl ?_
              refine gw_aload_n C d_Mo_act_109 rfl 1 rfl ?_
              refine gw_iconst (v := 0) C d_Mo_act_110 (by decide) ?_
              refine gw_lload C d_Mo_act_111 0 rfl ?_
              refine gw_iconst (v := (-1)) C d_Mo_act_113 (by decide) ?_
              refine gw_iconst (v := (-1)) C d_Mo_act_114 (by decide) ?_
              obtain ⟨σ9, h8, hF⟩ := gw_bndv hF
              refine fc_Mo_196 (As := [.int 0, .long 0, .int (-1), .int (-1)]) (st := []) (σ' := σ9) C (c_Mo_valueAtHand l D cI cL cZ ad h8) ⟨Nat.le_of_ble_eq_true rfl, Nat.le_of_ble_eq_true rfl⟩ ⟨Nat.le_of_ble_eq_true rfl, Nat.le_of_ble_eq_true rfl⟩ rfl (Nat.le_of_ble_eq_true rfl) d_Mo_act_115 ?_
              cases hF
              exact gw_vret C hr rfl d_Mo_act_118
            · have hF := gw_neg h7 hF
              refine gw_lconst (v := 1) C d_Mo_act_102 rfl ?_
              refine gw_goto (tgt := 107) C d_Mo_act_103 (by decide) ?_
              refine gw_lstore (lv' := [(6, .long 1), (0, .ref (ad 0)), (1, .int x1), (2, .long x2), (4, .long x4)]) C d_Mo_act_107 (by decide) rfl ?_
              refine gw_aload_n C d_Mo_act_109 rfl 1 rfl ?_
              refine gw_iconst (v := 0) C d_Mo_act_110 (by decide) ?_
              refine gw_lload C d_Mo_act_111 0 rfl ?_
              refine gw_iconst (v := (-1)) C d_Mo_act_113 (by decide) ?_
              refine gw_iconst (v := (-1)) C d_Mo_act_114 (by decide) ?_
              obtain ⟨σ11, h10, hF⟩ := gw_bndv hF
              refine fc_Mo_196 (As := [.int 0, .long 1, .int (-1), .int (-1)]) (st := []) (σ' := σ11) C (c_Mo_valueAtHand l D cI cL cZ ad h10) ⟨Nat.le_of_ble_eq_true rfl, Nat.le_of_ble_eq_true rfl⟩ ⟨Nat.le_of_ble_eq_true rfl, Nat.le_of_ble_eq_true rfl⟩ rfl (Nat.le_of_ble_eq_true rfl) d_Mo_act_115 ?_
              cases hF
              exact gw_vret C hr rfl d_Mo_act_118
          · have hF := gw_pos h6 hF
            refine gw_lload_n C d_Mo_act_80 rfl 2 rfl ?_
            refine gw_lload C d_Mo_act_81 3 rfl ?_
            refine gw_lcmp C d_Mo_act_83 ?_
            refine gw_if_ne (tgt := 91) C d_Mo_act_84 (by decide) (fun h12 => ?_) (fun h12 => ?_)
            · have hF := gw_neg h12 hF
              refine gw_lconst (v := 0) C d_Mo_act_91 rfl ?_
              refine gw_goto (tgt := 107) C d_Mo_act_92 (by decide) ?_
              refine gw_lstore (lv' := [(6, .long 0), (0, .ref (ad 0)), (1, .int x1), (2, .long x2), (4, .long x4)]) C d_Mo_act_107 (by decide) rfl ?_
              refine gw_aload_n C d_Mo_act_109 rfl 1 rfl ?_
              refine gw_iconst (v := 0) C d_Mo_act_110 (by decide) ?_
              refine gw_lload C d_Mo_act_111 0 rfl ?_
              refine gw_iconst (v := (-1)) C d_Mo_act_113 (by decide) ?_
              refine gw_iconst (v := (-1)) C d_Mo_act_114 (by decide) ?_
              obtain ⟨σ14, h13, hF⟩ := gw_bndv hF
              refine fc_Mo_196 (As := [.int 0, .long 0, .int (-1), .int (-1)]) (st := []) (σ' := σ14) C (c_Mo_valueAtHand l D cI cL cZ ad h13) ⟨Nat.le_of_ble_eq_true rfl, Nat.le_of_ble_eq_true rfl⟩ ⟨Nat.le_of_ble_eq_true rfl, Nat.le_of_ble_eq_true rfl⟩ rfl (Nat.le_of_ble_eq_true rfl) d_Mo_act_115 ?_
              cases hF
              exact gw_vret C hr rfl d_Mo_act_118
            · have hF := gw_pos h12 hF
              refine gw_lconst (v := 1) C d_Mo_act_87 rfl ?_
              refine gw_goto (tgt := 107) C d_Mo_act_88 (by decide) ?_
              refine gw_lstore (lv' := [(6, .long 1), (0, .ref (ad 0)), (1, .int x1), (2, .long x2), (4, .long x4)]) C d_Mo_act_107 (by decide) rfl ?_
              refine gw_aload_n C d_Mo_act_109 rfl 1 rfl ?_
              refine gw_iconst (v := 0) C d_Mo_act_110 (by decide) ?_
              refine gw_lload C d_Mo_act_111 0 rfl ?_
              refine gw_iconst (v := (-1)) C d_Mo_act_113 (by decide) ?_
              refine gw_iconst (v := (-1)) C d_Mo_act_114 (by decide) ?_
              obtain ⟨σ16, h15, hF⟩ := gw_bndv hF
              refine fc_Mo_196 (As := [.int 0, .long 1, .int (-1), .int (-1)]) (st := []) (σ' := σ16) C (c_Mo_valueAtHand l D cI cL cZ ad h15) ⟨Nat.le_of_ble_eq_true rfl, Nat.le_of_ble_eq_true rfl⟩ ⟨Nat.le_of_ble_eq_true rfl, Nat.le_of_ble_eq_true rfl⟩ rfl (Nat.le_of_ble_eq_true rfl) d_Mo_act_115 ?_
              cases hF
              exact gw_vret C hr rfl d_Mo_act_118
        · have hF := gw_pos h5 hF
          refine gw_lload_n C d_Mo_act_68 rfl 2 rfl ?_
          refine gw_lload C d_Mo_act_69 3 rfl ?_
          obtain ⟨h17, hF⟩ := gw_grd hF
          refine gw_ldiv C d_Mo_act_71 h17 ?_
          refine gw_goto (tgt := 107) C d_Mo_act_72 (by decide) ?_
          refine gw_lstore (lv' := [(6, .long (x2 / x4)), (0, .ref (ad 0)), (1, .int x1), (2, .long x2), (4, .long x4)]) C d_Mo_act_107 (by decide) rfl ?_
          refine gw_aload_n C d_Mo_act_109 rfl 1 rfl ?_
          refine gw_iconst (v := 0) C d_Mo_act_110 (by decide) ?_
          refine gw_lload C d_Mo_act_111 0 rfl ?_
          refine gw_iconst (v := (-1)) C d_Mo_act_113 (by decide) ?_
          refine gw_iconst (v := (-1)) C d_Mo_act_114 (by decide) ?_
          obtain ⟨σ19, h18, hF⟩ := gw_bndv hF
          refine fc_Mo_196 (As := [.int 0, .long (x2 / x4), .int (-1), .int (-1)]) (st := []) (σ' := σ19) C (c_Mo_valueAtHand l D cI cL cZ ad h18) ⟨Nat.le_of_ble_eq_true rfl, Nat.le_of_ble_eq_true rfl⟩ ⟨Nat.le_of_ble_eq_true rfl, Nat.le_of_ble_eq_true rfl⟩ rfl (Nat.le_of_ble_eq_true rfl) d_Mo_act_115 ?_
          cases hF
          exact gw_vret C hr rfl d_Mo_act_118
      · have hF := gw_pos h4 hF
        refine gw_lload_n C d_Mo_act_56 rfl 2 rfl ?_
        refine gw_lload C d_Mo_act_57 3 rfl ?_
        refine gw_lmul C d_Mo_act_59 ?_
        refine gw_goto (tgt := 107) C d_Mo_act_60 (by decide) ?_
        refine gw_lstore (lv' := [(6, .long (x2 * x4)), (0, .ref (ad 0)), (1, .int x1), (2, .long x2), (4, .long x4)]) C d_Mo_act_107 (by decide) rfl ?_
        refine gw_aload_n C d_Mo_act_109 rfl 1 rfl ?_
        refine gw_iconst (v := 0) C d_Mo_act_110 (by decide) ?_
        refine gw_lload C d_Mo_act_111 0 rfl ?_
        refine gw_iconst (v := (-1)) C d_Mo_act_113 (by decide) ?_
        refine gw_iconst (v := (-1)) C d_Mo_act_114 (by decide) ?_
        obtain ⟨σ21, h20, hF⟩ := gw_bndv hF
        refine fc_Mo_196 (As := [.int 0, .long (x2 * x4), .int (-1), .int (-1)]) (st := []) (σ' := σ21) C (c_Mo_valueAtHand l D cI cL cZ ad h20) ⟨Nat.le_of_ble_eq_true rfl, Nat.le_of_ble_eq_true rfl⟩ ⟨Nat.le_of_ble_eq_true rfl, Nat.le_of_ble_eq_true rfl⟩ rfl (Nat.le_of_ble_eq_true rfl) d_Mo_act_115 ?_
        cases hF
        exact gw_vret C hr rfl d_Mo_act_118
    · have hF := gw_pos h3 hF
      refine gw_lload_n C d_Mo_act_44 rfl 2 rfl ?_
      refine gw_lload C d_Mo_act_45 3 rfl ?_
      refine gw_lsub C d_Mo_act_47 ?_
      refine gw_goto (tgt := 107) C d_Mo_act_48 (by decide) ?_
      refine gw_lstore (lv' := [(6, .long (x2 - x4)), (0, .ref (ad 0)), (1, .int x1), (2, .long x2), (4, .long x4)]) C d_Mo_act_107 (by decide) rfl ?_
      refine gw_aload_n C d_Mo_act_109 rfl 1 rfl ?_
      refine gw_iconst (v := 0) C d_Mo_act_110 (by decide) ?_
      refine gw_lload C d_Mo_act_111 0 rfl ?_
      refine gw_iconst (v := (-1)) C d_Mo_act_113 (by decide) ?_
      refine gw_iconst (v := (-1)) C d_Mo_act_114 (by decide) ?_
      obtain ⟨σ23, h22, hF⟩ := gw_bndv hF
      refine fc_Mo_196 (As := [.int 0, .long (x2 - x4), .int (-1), .int (-1)]) (st := []) (σ' := σ23) C (c_Mo_valueAtHand l D cI cL cZ ad h22) ⟨Nat.le_of_ble_eq_true rfl, Nat.le_of_ble_eq_true rfl⟩ ⟨Nat.le_of_ble_eq_true rfl, Nat.le_of_ble_eq_true rfl⟩ rfl (Nat.le_of_ble_eq_true rfl) d_Mo_act_115 ?_
      cases hF
      exact gw_vret C hr rfl d_Mo_act_118
  · have hF := gw_pos h2 hF
    refine gw_lload_n C d_Mo_act_32 rfl 2 rfl ?_
    refine gw_lload C d_Mo_act_33 3 rfl ?_
    refine gw_ladd C d_Mo_act_35 ?_
    refine gw_goto (tgt := 107) C d_Mo_act_36 (by decide) ?_
    refine gw_lstore (lv' := [(6, .long (x2 + x4)), (0, .ref (ad 0)), (1, .int x1), (2, .long x2), (4, .long x4)]) C d_Mo_act_107 (by decide) rfl ?_
    refine gw_aload_n C d_Mo_act_109 rfl 1 rfl ?_
    refine gw_iconst (v := 0) C d_Mo_act_110 (by decide) ?_
    refine gw_lload C d_Mo_act_111 0 rfl ?_
    refine gw_iconst (v := (-1)) C d_Mo_act_113 (by decide) ?_
    refine gw_iconst (v := (-1)) C d_Mo_act_114 (by decide) ?_
    obtain ⟨σ25, h24, hF⟩ := gw_bndv hF
    refine fc_Mo_196 (As := [.int 0, .long (x2 + x4), .int (-1), .int (-1)]) (st := []) (σ' := σ25) C (c_Mo_valueAtHand l D cI cL cZ ad h24) ⟨Nat.le_of_ble_eq_true rfl, Nat.le_of_ble_eq_true rfl⟩ ⟨Nat.le_of_ble_eq_true rfl, Nat.le_of_ble_eq_true rfl⟩ rfl (Nat.le_of_ble_eq_true rfl) d_Mo_act_115 ?_
    cases hF
    exact gw_vret C hr rfl d_Mo_act_118
set_option maxRecDepth 100000 in
set_option maxHeartbeats 4000000 in
theorem c_Mo_act (l : Launch) (D : va_G) (cI cL cZ : ClassId) (ad : Nat → Nat) {σ : St} {x1 : Int32} {x2 : Int64} {x4 : Int64} {σ' : St} (hF : F_Mo_act σ x1 x2 x4 = some σ') : gw_M l y_Mo_act w_Mo_act rm_Mo_act D gw_cl (gw_ty cI cL cZ) [.ref (ad 0), .int x1, .long x2, .long x4] (wM ad cI cL cZ σ) (wM ad cI cL cZ σ') none := by
  refine gw_start (cc := b_Mo_act) (nL := 8) (ret := none) (by decide) rfl (Nat.le_of_ble_eq_true rfl) (fun p e s m below meth c A C hr _ => ?_)
  refine gw_eq (lv' := [(0, .ref (ad 0)), (1, .int x1), (2, .long x2), (4, .long x4)]) rfl rfl ?_
  unfold F_Mo_act at hF
  refine gw_iload_n C d_Mo_act_0 rfl 1 rfl ?_
  refine gw_iconst (v := 3) C d_Mo_act_1 (by decide) ?_
  refine gw_icmp_ne (tgt := 18) C d_Mo_act_2 (by decide) (fun h1 => ?_) (fun h1 => ?_)
  · have hF := gw_neg h1 hF
    exact k_Mo_act_18 l C hr hF
  · have hF := gw_pos h1 hF
    refine gw_lload C d_Mo_act_5 3 rfl ?_
    refine gw_lconst (v := 0) C d_Mo_act_7 rfl ?_
    refine gw_lcmp C d_Mo_act_8 ?_
    refine gw_if_ne (tgt := 18) C d_Mo_act_9 (by decide) (fun h26 => ?_) (fun h26 => ?_)
    · have hF := gw_neg h26 hF
      exact k_Mo_act_18 l C hr hF
    · have hF := gw_pos h26 hF
      refine gw_aload_n C d_Mo_act_12 rfl 0 rfl ?_
      refine gw_iconst (v := 4) C d_Mo_act_13 (by decide) ?_
      refine fp_Mo_141 C d_Mo_act_14 ?_
      cases hF
      exact gw_vret C hr rfl d_Mo_act_17
