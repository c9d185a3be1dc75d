set_option maxRecDepth 100000 in
set_option maxHeartbeats 4000000 in
theorem k_Mo_reachPlaces_2 {p : Program} (l : Launch) {e : Env} {s : State} {m : MethodId} {args : Array Value} {below : List Frame} {meth : Method} {c : Code} {D : va_G} {A : Nat → Prop} {cI cL cZ : ClassId} {ad : Nat → Nat} (C : gw_C p s m args meth c b_Mo_reachPlaces 3 R_Mo D gw_cl (gw_ty cI cL cZ) A) (hr : meth.sig.returnType = none) {σ' : St} : ∀ (n : Nat) (σ : St) (x2 : Int32) (hF : K_Mo_reachPlaces_2 n σ x2 = some σ'), gw_W p l e rm_Mo_reachPlaces s m args below meth c D gw_cl A (MQ below (gw_Qc D gw_cl (wM ad cI cL cZ σ') none A) args s 0 0 A) 0 0 3 (wM ad cI cL cZ σ) [(0, .ref (ad 0)), (2, .int x2)] 2 []
  | 0, σ, x2, hF => by cases hF
  | n + 1, σ, x2, hF => by
    unfold K_Mo_reachPlaces_2 at hF
    refine gw_iload_n C d_Mo_reachPlaces_2 rfl 1 rfl ?_
    refine gw_if_lt (tgt := 42) C d_Mo_reachPlaces_3 (by decide) (fun h1 => ?_) (fun h1 => ?_)
    · have hF := gw_pos h1 hF
      cases hF
      exact gw_vret C hr rfl d_Mo_reachPlaces_42
    · have hF := gw_neg h1 hF
      refine gw_aload_n C d_Mo_reachPlaces_6 rfl 0 rfl ?_
      refine fg_Mo_81 C d_Mo_reachPlaces_7 ?_
      refine gw_iload_n C d_Mo_reachPlaces_10 rfl 1 rfl ?_
      obtain ⟨h2, hF⟩ := gw_grd hF
      refine alwM_24 (v := σ.2.1 20 x2.toNatClampNeg) C h2 rfl d_Mo_reachPlaces_11 ?_
      refine gw_if_ne (tgt := 42) C d_Mo_reachPlaces_12 (by decide) (fun h3 => ?_) (fun h3 => ?_)
      · have hF := gw_neg h3 hF
        cases hF
        exact gw_vret C hr rfl d_Mo_reachPlaces_42
      · have hF := gw_pos h3 hF
        refine gw_aload_n C d_Mo_reachPlaces_15 rfl 0 rfl ?_
        refine fg_Mo_81 C d_Mo_reachPlaces_16 ?_
        refine gw_iload_n C d_Mo_reachPlaces_19 rfl 1 rfl ?_
        refine gw_iconst (v := 1) C d_Mo_reachPlaces_20 (by decide) ?_
        obtain ⟨h4, hF⟩ := gw_grd hF
        refine aswM_24 C h4 rfl d_Mo_reachPlaces_21 ?_
        refine gw_aload_n C d_Mo_reachPlaces_22 rfl 0 rfl ?_
        refine gw_aload_n C d_Mo_reachPlaces_23 rfl 0 rfl ?_
        refine fg_Mo_60 C d_Mo_reachPlaces_24 ?_
        refine gw_iload_n C d_Mo_reachPlaces_27 rfl 1 rfl ?_
        obtain ⟨h5, hF⟩ := gw_grd hF
        refine alwM_17 (v := σ.2.1 14 x2.toNatClampNeg) C h5 rfl d_Mo_reachPlaces_28 ?_
        obtain ⟨σ7, h6, hF⟩ := gw_bndv hF
        refine fc_Mo_236 (As := [.int (σ.2.1 14 x2.toNatClampNeg)]) (st := []) (σ' := σ7) C (c_Mo_reach l D cI cL cZ ad h6) ⟨Nat.le_of_ble_eq_true rfl, Nat.le_of_ble_eq_true rfl⟩ ⟨Nat.le_of_ble_eq_true rfl, Nat.le_of_ble_eq_true rfl⟩ rfl (Nat.le_of_ble_eq_true rfl) d_Mo_reachPlaces_29 ?_
        refine gw_aload_n C d_Mo_reachPlaces_32 rfl 0 rfl ?_
        refine fg_Mo_63 C d_Mo_reachPlaces_33 ?_
        refine gw_iload_n C d_Mo_reachPlaces_36 rfl 1 rfl ?_
        obtain ⟨h8, hF⟩ := gw_grd hF
        refine alwM_18 (v := σ7.2.1 15 x2.toNatClampNeg) C h8 rfl d_Mo_reachPlaces_37 ?_
        refine gw_istore_n (lv' := [(2, .int (σ7.2.1 15 x2.toNatClampNeg)), (0, .ref (ad 0))]) C d_Mo_reachPlaces_38 rfl (by decide) rfl ?_
        refine gw_goto (tgt := 2) C d_Mo_reachPlaces_39 (by decide) ?_
        refine gw_less [1, 0] rfl ?_
        exact k_Mo_reachPlaces_2 l C hr n _ _ hF
set_option maxRecDepth 100000 in
set_option maxHeartbeats 4000000 in
theorem c_Mo_reachPlaces (l : Launch) (D : va_G) (cI cL cZ : ClassId) (ad : Nat → Nat) {σ : St} {x1 : Int32} {σ' : St} (hF : F_Mo_reachPlaces σ x1 = some σ') : gw_M l y_Mo_reachPlaces w_Mo_reachPlaces rm_Mo_reachPlaces D gw_cl (gw_ty cI cL cZ) [.ref (ad 0), .int x1] (wM ad cI cL cZ σ) (wM ad cI cL cZ σ') none := by
  refine gw_start (cc := b_Mo_reachPlaces) (nL := 3) (ret := none) (by decide) rfl (Nat.le_of_ble_eq_true rfl) (fun p e s m below meth c A C hr _ => ?_)
  refine gw_eq (lv' := [(0, .ref (ad 0)), (1, .int x1)]) rfl rfl ?_
  unfold F_Mo_reachPlaces at hF
  refine gw_iload_n C d_Mo_reachPlaces_0 rfl 1 rfl ?_
  refine gw_istore_n (lv' := [(2, .int x1), (0, .ref (ad 0)), (1, .int x1)]) C d_Mo_reachPlaces_1 rfl (by decide) rfl ?_
  refine gw_less [1, 0] rfl ?_
  exact k_Mo_reachPlaces_2 l C hr gw_N _ _ hF
set_option maxRecDepth 100000 in
set_option maxHeartbeats 4000000 in
theorem c_Mo_reachValue (l : Launch) (D : va_G) (cI cL cZ : ClassId) (ad : Nat → Nat) {σ : St} {x1 : Int32} {x2 : Int32} {x3 : Int32} {σ' : St} (hF : F_Mo_reachValue σ x1 x2 x3 = some σ') : gw_M l y_Mo_reachValue w_Mo_reachValue rm_Mo_reachValue D gw_cl (gw_ty cI cL cZ) [.ref (ad 0), .int x1, .int x2, .int x3] (wM ad cI cL cZ σ) (wM ad cI cL cZ σ') none := by
  refine gw_start (cc := b_Mo_reachValue) (nL := 4) (ret := none) (by decide) rfl (Nat.le_of_ble_eq_true rfl) (fun p e s m below meth c A C hr _ => ?_)
  refine gw_eq (lv' := [(0, .ref (ad 0)), (1, .int x1), (2, .int x2), (3, .int x3)]) rfl rfl ?_
  unfold F_Mo_reachValue at hF
  refine gw_iload_n C d_Mo_reachValue_0 rfl 1 rfl ?_
  refine gw_iconst (v := 1) C d_Mo_reachValue_1 (by decide) ?_
  refine gw_icmp_ne (tgt := 13) C d_Mo_reachValue_2 (by decide) (fun h1 => ?_) (fun h1 => ?_)
  · have hF := gw_neg h1 hF
    refine gw_iload_n C d_Mo_reachValue_13 rfl 1 rfl ?_
    refine gw_iconst (v := 2) C d_Mo_reachValue_14 (by decide) ?_
    refine gw_icmp_ne (tgt := 28) C d_Mo_reachValue_15 (by decide) (fun h2 => ?_) (fun h2 => ?_)
    · have hF := gw_neg h2 hF
      cases hF
      exact gw_vret C hr rfl d_Mo_reachValue_28
    · have hF := gw_pos h2 hF
      refine gw_aload_n C d_Mo_reachValue_18 rfl 0 rfl ?_
      refine gw_iload_n C d_Mo_reachValue_19 rfl 2 rfl ?_
      obtain ⟨σ4, h3, hF⟩ := gw_bndv hF
      refine fc_Mo_236 (As := [.int x2]) (st := []) (σ' := σ4) C (c_Mo_reach l D cI cL cZ ad h3) ⟨Nat.le_of_ble_eq_true rfl, Nat.le_of_ble_eq_true rfl⟩ ⟨Nat.le_of_ble_eq_true rfl, Nat.le_of_ble_eq_true rfl⟩ rfl (Nat.le_of_ble_eq_true rfl) d_Mo_reachValue_20 ?_
      refine gw_aload_n C d_Mo_reachValue_23 rfl 0 rfl ?_
      refine gw_iload_n C d_Mo_reachValue_24 rfl 3 rfl ?_
      obtain ⟨σ6, h5, hF⟩ := gw_bndv hF
      refine fc_Mo_236 (As := [.int x3]) (st := []) (σ' := σ6) C (c_Mo_reach l D cI cL cZ ad h5) ⟨Nat.le_of_ble_eq_true rfl, Nat.le_of_ble_eq_true rfl⟩ ⟨Nat.le_of_ble_eq_true rfl, Nat.le_of_ble_eq_true rfl⟩ rfl (Nat.le_of_ble_eq_true rfl) d_Mo_reachValue_25 ?_
      cases hF
      exact gw_vret C hr rfl d_Mo_reachValue_28
  · have hF := gw_pos h1 hF
    refine gw_aload_n C d_Mo_reachValue_5 rfl 0 rfl ?_
    refine gw_iload_n C d_Mo_reachValue_6 rfl 3 rfl ?_
    obtain ⟨σ8, h7, hF⟩ := gw_bndv hF
    refine fc_Mo_240 (As := [.int x3]) (st := []) (σ' := σ8) C (c_Mo_reachPlaces l D cI cL cZ ad h7) ⟨Nat.le_of_ble_eq_true rfl, Nat.le_of_ble_eq_true rfl⟩ ⟨Nat.le_of_ble_eq_true rfl, Nat.le_of_ble_eq_true rfl⟩ rfl (Nat.le_of_ble_eq_true rfl) d_Mo_reachValue_7 ?_
    refine gw_goto (tgt := 28) C d_Mo_reachValue_10 (by decide) ?_
    cases hF
    exact gw_vret C hr rfl d_Mo_reachValue_28
set_option maxRecDepth 100000 in
set_option maxHeartbeats 4000000 in
theorem k_Mo_reachHand_55 {p : Program} (l : Launch) {e : Env} {s : State} {m : MethodId} {args : Array Value} {below : List Frame} {meth : Method} {c : Code} {D : va_G} {A : Nat → Prop} {cI cL cZ : ClassId} {ad : Nat → Nat} (C : gw_C p s m args meth c b_Mo_reachHand 2 R_Mo D gw_cl (gw_ty cI cL cZ) A) (hr : meth.sig.returnType = none) {σ' : St} : ∀ (n : Nat) (σ : St) (x1 : Int32) (hF : K_Mo_reachHand_55 n σ x1 = some σ'), gw_W p l e rm_Mo_reachHand s m args below meth c D gw_cl A (MQ below (gw_Qc D gw_cl (wM ad cI cL cZ σ') none A) args s 0 0 A) 0 0 2 (wM ad cI cL cZ σ) [(0, .ref (ad 0)), (1, .int x1)] 55 []
  | 0, σ, x1, hF => by cases hF
  | n + 1, σ, x1, hF => by
    unfold K_Mo_reachHand_55 at hF
    refine gw_iload_n C d_Mo_reachHand_55 rfl 1 rfl ?_
    refine gw_aload_n C d_Mo_reachHand_56 rfl 0 rfl ?_
    refine fg_Mo_122 (v := σ.1 4) C rfl d_Mo_reachHand_57 ?_
    refine gw_icmp_ge (tgt := 122) C d_Mo_reachHand_60 (by decide) (fun h5 => ?_) (fun h5 => ?_)
    · have hF := gw_pos h5 hF
      cases hF
      exact gw_vret C hr rfl d_Mo_reachHand_122
    · have hF := gw_neg h5 hF
      refine gw_aload_n C d_Mo_reachHand_63 rfl 0 rfl ?_
      refine fg_Mo_66 C d_Mo_reachHand_64 ?_
      refine gw_iload_n C d_Mo_reachHand_67 rfl 1 rfl ?_
      obtain ⟨h6, hF⟩ := gw_grd hF
      refine alwM_19 (v := σ.2.1 16 x1.toNatClampNeg) C h6 rfl d_Mo_reachHand_68 ?_
      refine gw_iconst (v := 2) C d_Mo_reachHand_69 (by decide) ?_
      refine gw_icmp_ge (tgt := 86) C d_Mo_reachHand_70 (by decide) (fun h7 => ?_) (fun h7 => ?_)
      · have hF := gw_pos h7 hF
        refine gw_aload_n C d_Mo_reachHand_86 rfl 0 rfl ?_
        refine fg_Mo_66 C d_Mo_reachHand_87 ?_
        refine gw_iload_n C d_Mo_reachHand_90 rfl 1 rfl ?_
        obtain ⟨h8, hF⟩ := gw_grd hF
        refine alwM_19 (v := σ.2.1 16 x1.toNatClampNeg) C h8 rfl d_Mo_reachHand_91 ?_
        refine gw_iconst (v := 2) C d_Mo_reachHand_92 (by decide) ?_
        refine gw_icmp_eq (tgt := 106) C d_Mo_reachHand_93 (by decide) (fun h9 => ?_) (fun h9 => ?_)
        · have hF := gw_pos h9 hF
          refine gw_aload_n C d_Mo_reachHand_106 rfl 0 rfl ?_
          refine gw_aload_n C d_Mo_reachHand_107 rfl 0 rfl ?_
          refine fg_Mo_72 C d_Mo_reachHand_108 ?_
          refine gw_iload_n C d_Mo_reachHand_111 rfl 1 rfl ?_
          obtain ⟨h10, hF⟩ := gw_grd hF
          refine alwM_21 (v := σ.2.1 18 x1.toNatClampNeg) C h10 rfl d_Mo_reachHand_112 ?_
          obtain ⟨σ12, h11, hF⟩ := gw_bndv hF
          refine fc_Mo_240 (As := [.int (σ.2.1 18 x1.toNatClampNeg)]) (st := []) (σ' := σ12) C (c_Mo_reachPlaces l D cI cL cZ ad h11) ⟨Nat.le_of_ble_eq_true rfl, Nat.le_of_ble_eq_true rfl⟩ ⟨Nat.le_of_ble_eq_true rfl, Nat.le_of_ble_eq_true rfl⟩ rfl (Nat.le_of_ble_eq_true rfl) d_Mo_reachHand_113 ?_
          refine gw_iinc (q := 1) (v := x1 + 1) (lv' := [(1, .int (x1 + 1)), (0, .ref (ad 0))]) C d_Mo_reachHand_116 rfl rfl (by decide) rfl ?_
          refine gw_goto (tgt := 55) C d_Mo_reachHand_119 (by decide) ?_
          refine gw_less [1, 0] rfl ?_
          exact k_Mo_reachHand_55 l C hr n _ _ hF
        · have hF := gw_neg h9 hF
          refine gw_aload_n C d_Mo_reachHand_96 rfl 0 rfl ?_
          refine fg_Mo_66 C d_Mo_reachHand_97 ?_
          refine gw_iload_n C d_Mo_reachHand_100 rfl 1 rfl ?_
          obtain ⟨h13, hF⟩ := gw_grd hF
          refine alwM_19 (v := σ.2.1 16 x1.toNatClampNeg) C h13 rfl d_Mo_reachHand_101 ?_
          refine gw_iconst (v := 4) C d_Mo_reachHand_102 (by decide) ?_
          refine gw_icmp_ne (tgt := 116) C d_Mo_reachHand_103 (by decide) (fun h14 => ?_) (fun h14 => ?_)
          · have hF := gw_neg h14 hF
            refine gw_iinc (q := 1) (v := x1 + 1) (lv' := [(1, .int (x1 + 1)), (0, .ref (ad 0))]) C d_Mo_reachHand_116 rfl rfl (by decide) rfl ?_
            refine gw_goto (tgt := 55) C d_Mo_reachHand_119 (by decide) ?_
            refine gw_less [1, 0] rfl ?_
            exact k_Mo_reachHand_55 l C hr n _ _ hF
          · have hF := gw_pos h14 hF
            refine gw_aload_n C d_Mo_reachHand_106 rfl 0 rfl ?_
            refine gw_aload_n C d_Mo_reachHand_107 rfl 0 rfl ?_
            refine fg_Mo_72 C d_Mo_reachHand_108 ?_
            refine gw_iload_n C d_Mo_reachHand_111 rfl 1 rfl ?_
            obtain ⟨h15, hF⟩ := gw_grd hF
            refine alwM_21 (v := σ.2.1 18 x1.toNatClampNeg) C h15 rfl d_Mo_reachHand_112 ?_
            obtain ⟨σ17, h16, hF⟩ := gw_bndv hF
            refine fc_Mo_240 (As := [.int (σ.2.1 18 x1.toNatClampNeg)]) (st := []) (σ' := σ17) C (c_Mo_reachPlaces l D cI cL cZ ad h16) ⟨Nat.le_of_ble_eq_true rfl, Nat.le_of_ble_eq_true rfl⟩ ⟨Nat.le_of_ble_eq_true rfl, Nat.le_of_ble_eq_true rfl⟩ rfl (Nat.le_of_ble_eq_true rfl) d_Mo_reachHand_113 ?_
            refine gw_iinc (q := 1) (v := x1 + 1) (lv' := [(1, .int (x1 + 1)), (0, .ref (ad 0))]) C d_Mo_reachHand_116 rfl rfl (by decide) rfl ?_
            refine gw_goto (tgt := 55) C d_Mo_reachHand_119 (by decide) ?_
            refine gw_less [1, 0] rfl ?_
            exact k_Mo_reachHand_55 l C hr n _ _ hF
      · have hF := gw_neg h7 hF
        refine gw_aload_n C d_Mo_reachHand_73 rfl 0 rfl ?_
        refine gw_aload_n C d_Mo_reachHand_74 rfl 0 rfl ?_
        refine fg_Mo_69 C d_Mo_reachHand_75 ?_
        refine gw_iload_n C d_Mo_reachHand_78 rfl 1 rfl ?_
        obtain ⟨h18, hF⟩ := gw_grd hF
        refine alwM_20 (v := σ.2.1 17 x1.toNatClampNeg) C h18 rfl d_Mo_reachHand_79 ?_
        obtain ⟨σ20, h19, hF⟩ := gw_bndv hF
        refine fc_Mo_236 (As := [.int (σ.2.1 17 x1.toNatClampNeg)]) (st := []) (σ' := σ20) C (c_Mo_reach l D cI cL cZ ad h19) ⟨Nat.le_of_ble_eq_true rfl, Nat.le_of_ble_eq_true rfl⟩ ⟨Nat.le_of_ble_eq_true rfl, Nat.le_of_ble_eq_true rfl⟩ rfl (Nat.le_of_ble_eq_true rfl) d_Mo_reachHand_80 ?_
        refine gw_goto (tgt := 116) C d_Mo_reachHand_83 (by decide) ?_
        refine gw_iinc (q := 1) (v := x1 + 1) (lv' := [(1, .int (x1 + 1)), (0, .ref (ad 0))]) C d_Mo_reachHand_116 rfl rfl (by decide) rfl ?_
        refine gw_goto (tgt := 55) C d_Mo_reachHand_119 (by decide) ?_
        refine gw_less [1, 0] rfl ?_
        exact k_Mo_reachHand_55 l C hr n _ _ hF
set_option maxRecDepth 100000 in
set_option maxHeartbeats 4000000 in
theorem k_Mo_reachHand_53 {p : Program} (l : Launch) {e : Env} {s : State} {m : MethodId} {args : Array Value} {below : List Frame} {meth : Method} {c : Code} {D : va_G} {A : Nat → Prop} {cI cL cZ : ClassId} {ad : Nat → Nat} (C : gw_C p s m args meth c b_Mo_reachHand 2 R_Mo D gw_cl (gw_ty cI cL cZ) A) (hr : meth.sig.returnType = none) {σ : St} {σ' : St} (hF : K_Mo_reachHand_53 σ = some σ') : gw_W p l e rm_Mo_reachHand s m args below meth c D gw_cl A (MQ below (gw_Qc D gw_cl (wM ad cI cL cZ σ') none A) args s 0 0 A) 0 0 2 (wM ad cI cL cZ σ) [(0, .ref (ad 0))] 53 [] := by
  unfold K_Mo_reachHand_53 at hF
  refine gw_iconst (v := 0) C d_Mo_reachHand_53 (by decide) ?_
  refine gw_istore_n (lv' := [(1, .int 0), (0, .ref (ad 0))]) C d_Mo_reachHand_54 rfl (by decide) rfl ?_
  refine gw_less [1, 0] rfl ?_
  exact k_Mo_reachHand_55 l C hr gw_N _ _ hF
set_option maxRecDepth 100000 in
set_option maxHeartbeats 4000000 in
theorem c_Mo_reachHand (l : Launch) (D : va_G) (cI cL cZ : ClassId) (ad : Nat → Nat) {σ : St} {σ' : St} (hF : F_Mo_reachHand σ = some σ') : gw_M l y_Mo_reachHand w_Mo_reachHand rm_Mo_reachHand D gw_cl (gw_ty cI cL cZ) [.ref (ad 0)] (wM ad cI cL cZ σ) (wM ad cI cL cZ σ') none := by
  refine gw_start (cc := b_Mo_reachHand) (nL := 2) (ret := none) (by decide) rfl (Nat.le_of_ble_eq_true rfl) (fun p e s m below meth c A C hr _ => ?_)
  refine gw_eq (lv' := [(0, .ref (ad 0))]) rfl rfl ?_
  unfold F_Mo_reachHand at hF
  refine gw_aload_n C d_Mo_reachHand_0 rfl 0 rfl ?_
  refine fg_Mo_148 (v := σ.1 6) C rfl d_Mo_reachHand_1 ?_
  refine gw_if_ne (tgt := 18) C d_Mo_reachHand_4 (by decide) (fun h1 => ?_) (fun h1 => ?_)
  · have hF := gw_neg h1 hF
    refine gw_aload_n C d_Mo_reachHand_18 rfl 0 rfl ?_
    refine fg_Mo_148 (v := σ.1 6) C rfl d_Mo_reachHand_19 ?_
    refine gw_iconst (v := 1) C d_Mo_reachHand_22 (by decide) ?_
    refine gw_icmp_ne (tgt := 45) C d_Mo_reachHand_23 (by decide) (fun h2 => ?_) (fun h2 => ?_)
    · have hF := gw_neg h2 hF
      refine gw_aload_n C d_Mo_reachHand_45 rfl 0 rfl ?_
      refine gw_aload_n C d_Mo_reachHand_46 rfl 0 rfl ?_
      refine fg_Mo_180 (v := σ.1 9) C rfl d_Mo_reachHand_47 ?_
      obtain ⟨σ4, h3, hF⟩ := gw_bndv hF
      refine fc_Mo_236 (As := [.int (σ.1 9)]) (st := []) (σ' := σ4) C (c_Mo_reach l D cI cL cZ ad h3) ⟨Nat.le_of_ble_eq_true rfl, Nat.le_of_ble_eq_true rfl⟩ ⟨Nat.le_of_ble_eq_true rfl, Nat.le_of_ble_eq_true rfl⟩ rfl (Nat.le_of_ble_eq_true rfl) d_Mo_reachHand_50 ?_
      exact k_Mo_reachHand_53 l C hr hF
    · have hF := gw_pos h2 hF
      refine gw_aload_n C d_Mo_reachHand_26 rfl 0 rfl ?_
      refine gw_aload_n C d_Mo_reachHand_27 rfl 0 rfl ?_
      refine fg_Mo_157 (v := σ.1 10) C rfl d_Mo_reachHand_28 ?_
      refine gw_aload_n C d_Mo_reachHand_31 rfl 0 rfl ?_
      refine fg_Mo_164 (v := σ.1 11) C rfl d_Mo_reachHand_32 ?_
      refine gw_aload_n C d_Mo_reachHand_35 rfl 0 rfl ?_
      refine fg_Mo_167 (v := σ.1 12) C rfl d_Mo_reachHand_36 ?_
      obtain ⟨σ22, h21, hF⟩ := gw_bndv hF
      refine fc_Mo_243 (As := [.int (σ.1 10), .int (σ.1 11), .int (σ.1 12)]) (st := []) (σ' := σ22) C (c_Mo_reachValue l D cI cL cZ ad h21) ⟨Nat.le_of_ble_eq_true rfl, Nat.le_of_ble_eq_true rfl⟩ ⟨Nat.le_of_ble_eq_true rfl, Nat.le_of_ble_eq_true rfl⟩ rfl (Nat.le_of_ble_eq_true rfl) d_Mo_reachHand_39 ?_
      refine gw_goto (tgt := 53) C d_Mo_reachHand_42 (by decide) ?_
      exact k_Mo_reachHand_53 l C hr hF
  · have hF := gw_pos h1 hF
    refine gw_aload_n C d_Mo_reachHand_7 rfl 0 rfl ?_
    refine gw_aload_n C d_Mo_reachHand_8 rfl 0 rfl ?_
    refine fg_Mo_154 (v := σ.1 8) C rfl d_Mo_reachHand_9 ?_
    obtain ⟨σ24, h23, hF⟩ := gw_bndv hF
    refine fc_Mo_240 (As := [.int (σ.1 8)]) (st := []) (σ' := σ24) C (c_Mo_reachPlaces l D cI cL cZ ad h23) ⟨Nat.le_of_ble_eq_true rfl, Nat.le_of_ble_eq_true rfl⟩ ⟨Nat.le_of_ble_eq_true rfl, Nat.le_of_ble_eq_true rfl⟩ rfl (Nat.le_of_ble_eq_true rfl) d_Mo_reachHand_12 ?_
    refine gw_goto (tgt := 53) C d_Mo_reachHand_15 (by decide) ?_
    exact k_Mo_reachHand_53 l C hr hF
set_option maxRecDepth 100000 in
set_option maxHeartbeats 4000000 in
theorem k_Mo_sweep_136 {p : Program} (l : Launch) {e : Env} {s : State} {m : MethodId} {args : Array Value} {below : List Frame} {meth : Method} {c : Code} {D : va_G} {A : Nat → Prop} {cI cL cZ : ClassId} {ad : Nat → Nat} (C : gw_C p s m args meth c b_Mo_sweep 3 R_Mo D gw_cl (gw_ty cI cL cZ) A) (hr : meth.sig.returnType = (some .int)) {r : Int32} {σ' : St} : ∀ (n : Nat) (σ : St) (x1 : Int32) (x2 : Int32) (hF : K_Mo_sweep_136 n σ x1 x2 = some (r, σ')), gw_W p l e rm_Mo_sweep s m args below meth c D gw_cl A (MQ below (gw_Qc D gw_cl (wM ad cI cL cZ σ') (some (.int r)) A) args s 0 0 A) 0 0 3 (wM ad cI cL cZ σ) [(0, .ref (ad 0)), (1, .int x1), (2, .int x2)] 136 []
  | 0, σ, x1, x2, hF => by cases hF
  | n + 1, σ, x1, x2, hF => by
    unfold K_Mo_sweep_136 at hF
    refine gw_iload_n C d_Mo_sweep_136 rfl 2 rfl ?_
    refine gw_aload_n C d_Mo_sweep_137 rfl 0 rfl ?_
    refine fg_Mo_113 (v := σ.1 1) C rfl d_Mo_sweep_138 ?_
    refine gw_icmp_ge (tgt := 179) C d_Mo_sweep_141 (by decide) (fun h6 => ?_) (fun h6 => ?_)
    · have hF := gw_pos h6 hF
      refine gw_aload_n C d_Mo_sweep_179 rfl 0 rfl ?_
      refine gw_dup C d_Mo_sweep_180 rfl ?_
      refine fg_Mo_116 (v := σ.1 2) C rfl d_Mo_sweep_181 ?_
      refine gw_iload_n C d_Mo_sweep_184 rfl 1 rfl ?_
      refine gw_isub C d_Mo_sweep_185 ?_
      refine fp_Mo_116 C d_Mo_sweep_186 ?_
      refine gw_iload_n C d_Mo_sweep_189 rfl 1 rfl ?_
      cases hF
      exact gw_iret C hr rfl d_Mo_sweep_190
    · have hF := gw_neg h6 hF
      refine gw_aload_n C d_Mo_sweep_144 rfl 0 rfl ?_
      refine fg_Mo_78 C d_Mo_sweep_145 ?_
      refine gw_iload_n C d_Mo_sweep_148 rfl 2 rfl ?_
      obtain ⟨h7, hF⟩ := gw_grd hF
      refine alwM_23 (v := σ.2.1 19 x2.toNatClampNeg) C h7 rfl d_Mo_sweep_149 ?_
      refine gw_if_ne (tgt := 173) C d_Mo_sweep_150 (by decide) (fun h8 => ?_) (fun h8 => ?_)
      · have hF := gw_neg h8 hF
        refine gw_iinc (q := 2) (v := x2 + 1) (lv' := [(2, .int (x2 + 1)), (0, .ref (ad 0)), (1, .int x1)]) C d_Mo_sweep_173 rfl rfl (by decide) rfl ?_
        refine gw_goto (tgt := 136) C d_Mo_sweep_176 (by decide) ?_
        refine gw_less [1, 2, 0] rfl ?_
        exact k_Mo_sweep_136 l C hr n _ _ _ hF
      · have hF := gw_pos h8 hF
        refine gw_aload_n C d_Mo_sweep_153 rfl 0 rfl ?_
        refine fg_Mo_29 C d_Mo_sweep_154 ?_
        refine gw_iload_n C d_Mo_sweep_157 rfl 2 rfl ?_
        obtain ⟨h9, hF⟩ := gw_grd hF
        refine alwM_7 (v := σ.2.1 5 x2.toNatClampNeg) C h9 rfl d_Mo_sweep_158 ?_
        refine gw_iconst (v := 3) C d_Mo_sweep_159 (by decide) ?_
        refine gw_icmp_eq (tgt := 173) C d_Mo_sweep_160 (by decide) (fun h10 => ?_) (fun h10 => ?_)
        · have hF := gw_pos h10 hF
          refine gw_iinc (q := 2) (v := x2 + 1) (lv' := [(2, .int (x2 + 1)), (0, .ref (ad 0)), (1, .int x1)]) C d_Mo_sweep_173 rfl rfl (by decide) rfl ?_
          refine gw_goto (tgt := 136) C d_Mo_sweep_176 (by decide) ?_
          refine gw_less [1, 2, 0] rfl ?_
          exact k_Mo_sweep_136 l C hr n _ _ _ hF
        · have hF := gw_neg h10 hF
          refine gw_aload_n C d_Mo_sweep_163 rfl 0 rfl ?_
          refine fg_Mo_29 C d_Mo_sweep_164 ?_
          refine gw_iload_n C d_Mo_sweep_167 rfl 2 rfl ?_
          refine gw_iconst (v := 3) C d_Mo_sweep_168 (by decide) ?_
          obtain ⟨h11, hF⟩ := gw_grd hF
          refine aswM_7 C h11 d_Mo_sweep_169 ?_
          refine gw_iinc (q := 1) (v := x1 + 1) (lv' := [(1, .int (x1 + 1)), (0, .ref (ad 0)), (2, .int x2)]) C d_Mo_sweep_170 rfl rfl (by decide) rfl ?_
          refine gw_iinc (q := 2) (v := x2 + 1) (lv' := [(2, .int (x2 + 1)), (1, .int (x1 + 1)), (0, .ref (ad 0))]) C d_Mo_sweep_173 rfl rfl (by decide) rfl ?_
          refine gw_goto (tgt := 136) C d_Mo_sweep_176 (by decide) ?_
          refine gw_less [2, 1, 0] rfl ?_
          exact k_Mo_sweep_136 l C hr n _ _ _ hF
set_option maxRecDepth 100000 in
set_option maxHeartbeats 4000000 in
theorem k_Mo_sweep_57 {p : Program} (l : Launch) {e : Env} {s : State} {m : MethodId} {args : Array Value} {below : List Frame} {meth : Method} {c : Code} {D : va_G} {A : Nat → Prop} {cI cL cZ : ClassId} {ad : Nat → Nat} (C : gw_C p s m args meth c b_Mo_sweep 3 R_Mo D gw_cl (gw_ty cI cL cZ) A) (hr : meth.sig.returnType = (some .int)) {r : Int32} {σ' : St} : ∀ (n : Nat) (σ : St) (x1 : Int32) (hF : K_Mo_sweep_57 n σ x1 = some (r, σ')), gw_W p l e rm_Mo_sweep s m args below meth c D gw_cl A (MQ below (gw_Qc D gw_cl (wM ad cI cL cZ σ') (some (.int r)) A) args s 0 0 A) 0 0 3 (wM ad cI cL cZ σ) [(0, .ref (ad 0)), (1, .int x1)] 57 []
  | 0, σ, x1, hF => by cases hF
  | n + 1, σ, x1, hF => by
    unfold K_Mo_sweep_57 at hF
    refine gw_iload_n C d_Mo_sweep_57 rfl 1 rfl ?_
    refine gw_aload_n C d_Mo_sweep_58 rfl 0 rfl ?_
    refine fg_Mo_233 (v := σ.1 21) C rfl d_Mo_sweep_59 ?_
    refine gw_icmp_ge (tgt := 132) C d_Mo_sweep_62 (by decide) (fun h5 => ?_) (fun h5 => ?_)
    · have hF := gw_pos h5 hF
      refine gw_iconst (v := 0) C d_Mo_sweep_132 (by decide) ?_
      refine gw_istore_n (lv' := [(1, .int 0), (0, .ref (ad 0))]) C d_Mo_sweep_133 rfl (by decide) rfl ?_
      refine gw_iconst (v := 0) C d_Mo_sweep_134 (by decide) ?_
      refine gw_istore_n (lv' := [(2, .int 0), (1, .int 0), (0, .ref (ad 0))]) C d_Mo_sweep_135 rfl (by decide) rfl ?_
      refine gw_less [2, 1, 0] rfl ?_
      exact k_Mo_sweep_136 l C hr gw_N _ _ _ hF
    · have hF := gw_neg h5 hF
      refine gw_aload_n C d_Mo_sweep_65 rfl 0 rfl ?_
      refine fg_Mo_84 C d_Mo_sweep_66 ?_
      refine gw_iload_n C d_Mo_sweep_69 rfl 1 rfl ?_
      obtain ⟨h12, hF⟩ := gw_grd hF
      refine alwM_25 (v := σ.2.1 21 x1.toNatClampNeg) C h12 rfl d_Mo_sweep_70 ?_
      refine gw_istore_n (lv' := [(2, .int (σ.2.1 21 x1.toNatClampNeg)), (0, .ref (ad 0)), (1, .int x1)]) C d_Mo_sweep_71 rfl (by decide) rfl ?_
      refine gw_aload_n C d_Mo_sweep_72 rfl 1 rfl ?_
      refine fg_Mo_29 C d_Mo_sweep_73 ?_
      refine gw_iload_n C d_Mo_sweep_76 rfl 0 rfl ?_
      obtain ⟨h13, hF⟩ := gw_grd hF
      refine alwM_7 (v := σ.2.1 5 ((σ.2.1 21 x1.toNatClampNeg).toNatClampNeg)) C h13 rfl d_Mo_sweep_77 ?_
      refine gw_if_ne (tgt := 94) C d_Mo_sweep_78 (by decide) (fun h14 => ?_) (fun h14 => ?_)
      · have hF := gw_neg h14 hF
        refine gw_aload_n C d_Mo_sweep_94 rfl 1 rfl ?_
        refine fg_Mo_29 C d_Mo_sweep_95 ?_
        refine gw_iload_n C d_Mo_sweep_98 rfl 0 rfl ?_
        obtain ⟨h15, hF⟩ := gw_grd hF
        refine alwM_7 (v := σ.2.1 5 ((σ.2.1 21 x1.toNatClampNeg).toNatClampNeg)) C h15 rfl d_Mo_sweep_99 ?_
        refine gw_iconst (v := 2) C d_Mo_sweep_100 (by decide) ?_
        refine gw_icmp_ne (tgt := 126) C d_Mo_sweep_101 (by decide) (fun h16 => ?_) (fun h16 => ?_)
        · have hF := gw_neg h16 hF
          refine gw_iinc (q := 2) (v := x1 + 1) (lv' := [(1, .int (x1 + 1)), (2, .int (σ.2.1 21 x1.toNatClampNeg)), (0, .ref (ad 0))]) C d_Mo_sweep_126 rfl rfl (by decide) rfl ?_
          refine gw_goto (tgt := 57) C d_Mo_sweep_129 (by decide) ?_
          refine gw_less [2, 0] rfl ?_
          exact k_Mo_sweep_57 l C hr n _ _ hF
        · have hF := gw_pos h16 hF
          refine gw_aload_n C d_Mo_sweep_104 rfl 1 rfl ?_
          refine gw_aload_n C d_Mo_sweep_105 rfl 1 rfl ?_
          refine fg_Mo_38 C d_Mo_sweep_106 ?_
          refine gw_iload_n C d_Mo_sweep_109 rfl 0 rfl ?_
          obtain ⟨h17, hF⟩ := gw_grd hF
          refine alwM_10 (v := σ.2.1 8 ((σ.2.1 21 x1.toNatClampNeg).toNatClampNeg)) C h17 rfl d_Mo_sweep_110 ?_
          refine gw_aload_n C d_Mo_sweep_111 rfl 1 rfl ?_
          refine fg_Mo_44 C d_Mo_sweep_112 ?_
          refine gw_iload_n C d_Mo_sweep_115 rfl 0 rfl ?_
          obtain ⟨h18, hF⟩ := gw_grd hF
          refine alwM_12 (v := σ.2.1 9 ((σ.2.1 21 x1.toNatClampNeg).toNatClampNeg)) C h18 rfl d_Mo_sweep_116 ?_
          refine gw_aload_n C d_Mo_sweep_117 rfl 1 rfl ?_
          refine fg_Mo_47 C d_Mo_sweep_118 ?_
          refine gw_iload_n C d_Mo_sweep_121 rfl 0 rfl ?_
          obtain ⟨h19, hF⟩ := gw_grd hF
          refine alwM_13 (v := σ.2.1 10 ((σ.2.1 21 x1.toNatClampNeg).toNatClampNeg)) C h19 rfl d_Mo_sweep_122 ?_
          obtain ⟨σ21, h20, hF⟩ := gw_bndv hF
          refine fc_Mo_243 (As := [.int (σ.2.1 8 ((σ.2.1 21 x1.toNatClampNeg).toNatClampNeg)), .int (σ.2.1 9 ((σ.2.1 21 x1.toNatClampNeg).toNatClampNeg)), .int (σ.2.1 10 ((σ.2.1 21 x1.toNatClampNeg).toNatClampNeg))]) (st := []) (σ' := σ21) C (c_Mo_reachValue l D cI cL cZ ad h20) ⟨Nat.le_of_ble_eq_true rfl, Nat.le_of_ble_eq_true rfl⟩ ⟨Nat.le_of_ble_eq_true rfl, Nat.le_of_ble_eq_true rfl⟩ rfl (Nat.le_of_ble_eq_true rfl) d_Mo_sweep_123 ?_
          refine gw_iinc (q := 2) (v := x1 + 1) (lv' := [(1, .int (x1 + 1)), (2, .int (σ.2.1 21 x1.toNatClampNeg)), (0, .ref (ad 0))]) C d_Mo_sweep_126 rfl rfl (by decide) rfl ?_
          refine gw_goto (tgt := 57) C d_Mo_sweep_129 (by decide) ?_
          refine gw_less [2, 0] rfl ?_
          exact k_Mo_sweep_57 l C hr n _ _ hF
      · have hF := gw_pos h14 hF
        refine gw_aload_n C d_Mo_sweep_81 rfl 1 rfl ?_
        refine gw_aload_n C d_Mo_sweep_82 rfl 1 rfl ?_
        refine fg_Mo_35 C d_Mo_sweep_83 ?_
        refine gw_iload_n C d_Mo_sweep_86 rfl 0 rfl ?_
        obtain ⟨h22, hF⟩ := gw_grd hF
        refine alwM_9 (v := σ.2.1 7 ((σ.2.1 21 x1.toNatClampNeg).toNatClampNeg)) C h22 rfl d_Mo_sweep_87 ?_
        obtain ⟨σ24, h23, hF⟩ := gw_bndv hF
        refine fc_Mo_240 (As := [.int (σ.2.1 7 ((σ.2.1 21 x1.toNatClampNeg).toNatClampNeg))]) (st := []) (σ' := σ24) C (c_Mo_reachPlaces l D cI cL cZ ad h23) ⟨Nat.le_of_ble_eq_true rfl, Nat.le_of_ble_eq_true rfl⟩ ⟨Nat.le_of_ble_eq_true rfl, Nat.le_of_ble_eq_true rfl⟩ rfl (Nat.le_of_ble_eq_true rfl) d_Mo_sweep_88 ?_
        refine gw_goto (tgt := 126) C d_Mo_sweep_91 (by decide) ?_
        refine gw_iinc (q := 2) (v := x1 + 1) (lv' := [(1, .int (x1 + 1)), (2, .int (σ.2.1 21 x1.toNatClampNeg)), (0, .ref (ad 0))]) C d_Mo_sweep_126 rfl rfl (by decide) rfl ?_
        refine gw_goto (tgt := 57) C d_Mo_sweep_129 (by decide) ?_
        refine gw_less [2, 0] rfl ?_
        exact k_Mo_sweep_57 l C hr n _ _ hF
set_option maxRecDepth 100000 in
set_option maxHeartbeats 4000000 in
theorem k_Mo_sweep_25 {p : Program} (l : Launch) {e : Env} {s : State} {m : MethodId} {args : Array Value} {below : List Frame} {meth : Method} {c : Code} {D : va_G} {A : Nat → Prop} {cI cL cZ : ClassId} {ad : Nat → Nat} (C : gw_C p s m args meth c b_Mo_sweep 3 R_Mo D gw_cl (gw_ty cI cL cZ) A) (hr : meth.sig.returnType = (some .int)) {r : Int32} {σ' : St} : ∀ (n : Nat) (σ : St) (x1 : Int32) (hF : K_Mo_sweep_25 n σ x1 = some (r, σ')), gw_W p l e rm_Mo_sweep s m args below meth c D gw_cl A (MQ below (gw_Qc D gw_cl (wM ad cI cL cZ σ') (some (.int r)) A) args s 0 0 A) 0 0 3 (wM ad cI cL cZ σ) [(0, .ref (ad 0)), (1, .int x1)] 25 []
  | 0, σ, x1, hF => by cases hF
  | n + 1, σ, x1, hF => by
    unfold K_Mo_sweep_25 at hF
    refine gw_iload_n C d_Mo_sweep_25 rfl 1 rfl ?_
    refine gw_aload_n C d_Mo_sweep_26 rfl 0 rfl ?_
    refine fg_Mo_119 (v := σ.1 3) C rfl d_Mo_sweep_27 ?_
    refine gw_icmp_ge (tgt := 46) C d_Mo_sweep_30 (by decide) (fun h2 => ?_) (fun h2 => ?_)
    · have hF := gw_pos h2 hF
      refine gw_aload_n C d_Mo_sweep_46 rfl 0 rfl ?_
      refine gw_iconst (v := 0) C d_Mo_sweep_47 (by decide) ?_
      refine fp_Mo_233 C d_Mo_sweep_48 ?_
      refine gw_aload_n C d_Mo_sweep_51 rfl 0 rfl ?_
      obtain ⟨σ4, h3, hF⟩ := gw_bndv hF
      refine fc_Mo_247 (As := []) (st := []) (σ' := σ4) C (c_Mo_reachHand l D cI cL cZ ad h3) ⟨Nat.le_of_ble_eq_true rfl, Nat.le_of_ble_eq_true rfl⟩ ⟨Nat.le_of_ble_eq_true rfl, Nat.le_of_ble_eq_true rfl⟩ rfl (Nat.le_of_ble_eq_true rfl) d_Mo_sweep_52 ?_
      refine gw_iconst (v := 0) C d_Mo_sweep_55 (by decide) ?_
      refine gw_istore_n (lv' := [(1, .int 0), (0, .ref (ad 0))]) C d_Mo_sweep_56 rfl (by decide) rfl ?_
      refine gw_less [1, 0] rfl ?_
      exact k_Mo_sweep_57 l C hr gw_N _ _ hF
    · have hF := gw_neg h2 hF
      refine gw_aload_n C d_Mo_sweep_33 rfl 0 rfl ?_
      refine fg_Mo_81 C d_Mo_sweep_34 ?_
      refine gw_iload_n C d_Mo_sweep_37 rfl 1 rfl ?_
      refine gw_iconst (v := 0) C d_Mo_sweep_38 (by decide) ?_
      obtain ⟨h25, hF⟩ := gw_grd hF
      refine aswM_24 C h25 rfl d_Mo_sweep_39 ?_
      refine gw_iinc (q := 1) (v := x1 + 1) (lv' := [(1, .int (x1 + 1)), (0, .ref (ad 0))]) C d_Mo_sweep_40 rfl rfl (by decide) rfl ?_
      refine gw_goto (tgt := 25) C d_Mo_sweep_43 (by decide) ?_
      refine gw_less [1, 0] rfl ?_
      exact k_Mo_sweep_25 l C hr n _ _ hF
set_option maxRecDepth 100000 in
set_option maxHeartbeats 4000000 in
theorem k_Mo_sweep_2 {p : Program} (l : Launch) {e : Env} {s : State} {m : MethodId} {args : Array Value} {below : List Frame} {meth : Method} {c : Code} {D : va_G} {A : Nat → Prop} {cI cL cZ : ClassId} {ad : Nat → Nat} (C : gw_C p s m args meth c b_Mo_sweep 3 R_Mo D gw_cl (gw_ty cI cL cZ) A) (hr : meth.sig.returnType = (some .int)) {r : Int32} {σ' : St} : ∀ (n : Nat) (σ : St) (x1 : Int32) (hF : K_Mo_sweep_2 n σ x1 = some (r, σ')), gw_W p l e rm_Mo_sweep s m args below meth c D gw_cl A (MQ below (gw_Qc D gw_cl (wM ad cI cL cZ σ') (some (.int r)) A) args s 0 0 A) 0 0 3 (wM ad cI cL cZ σ) [(0, .ref (ad 0)), (1, .int x1)] 2 []
  | 0, σ, x1, hF => by cases hF
  | n + 1, σ, x1, hF => by
    unfold K_Mo_sweep_2 at hF
    refine gw_iload_n C d_Mo_sweep_2 rfl 1 rfl ?_
    refine gw_aload_n C d_Mo_sweep_3 rfl 0 rfl ?_
    refine fg_Mo_113 (v := σ.1 1) C rfl d_Mo_sweep_4 ?_
    refine gw_icmp_ge (tgt := 23) C d_Mo_sweep_7 (by decide) (fun h1 => ?_) (fun h1 => ?_)
    · have hF := gw_pos h1 hF
      refine gw_iconst (v := 0) C d_Mo_sweep_23 (by decide) ?_
      refine gw_istore_n (lv' := [(1, .int 0), (0, .ref (ad 0))]) C d_Mo_sweep_24 rfl (by decide) rfl ?_
      refine gw_less [1, 0] rfl ?_
      exact k_Mo_sweep_25 l C hr gw_N _ _ hF
    · have hF := gw_neg h1 hF
      refine gw_aload_n C d_Mo_sweep_10 rfl 0 rfl ?_
      refine fg_Mo_78 C d_Mo_sweep_11 ?_
      refine gw_iload_n C d_Mo_sweep_14 rfl 1 rfl ?_
      refine gw_iconst (v := 0) C d_Mo_sweep_15 (by decide) ?_
      obtain ⟨h26, hF⟩ := gw_grd hF
      refine aswM_23 C h26 rfl d_Mo_sweep_16 ?_
      refine gw_iinc (q := 1) (v := x1 + 1) (lv' := [(1, .int (x1 + 1)), (0, .ref (ad 0))]) C d_Mo_sweep_17 rfl rfl (by decide) rfl ?_
      refine gw_goto (tgt := 2) C d_Mo_sweep_20 (by decide) ?_
      refine gw_less [1, 0] rfl ?_
      exact k_Mo_sweep_2 l C hr n _ _ hF
set_option maxRecDepth 100000 in
set_option maxHeartbeats 4000000 in
theorem c_Mo_sweep (l : Launch) (D : va_G) (cI cL cZ : ClassId) (ad : Nat → Nat) {σ : St} {r : Int32} {σ' : St} (hF : F_Mo_sweep σ = some (r, σ')) : gw_M l y_Mo_sweep w_Mo_sweep rm_Mo_sweep D gw_cl (gw_ty cI cL cZ) [.ref (ad 0)] (wM ad cI cL cZ σ) (wM ad cI cL cZ σ') (some (.int r)) := by
  refine gw_start (cc := b_Mo_sweep) (nL := 3) (ret := (some .int)) (by decide) rfl (Nat.le_of_ble_eq_true rfl) (fun p e s m below meth c A C hr _ => ?_)
  refine gw_eq (lv' := [(0, .ref (ad 0))]) rfl rfl ?_
  unfold F_Mo_sweep at hF
  refine gw_iconst (v := 0) C d_Mo_sweep_0 (by decide) ?_
  refine gw_istore_n (lv' := [(1, .int 0), (0, .ref (ad 0))]) C d_Mo_sweep_1 rfl (by decide) rfl ?_
  refine gw_less [1, 0] rfl ?_
  exact k_Mo_sweep_2 l C hr gw_N _ _ hF
set_option maxRecDepth 100000 in
set_option maxHeartbeats 4000000 in
theorem k_Mo_latestInWork_7 {p : Program} (l : Launch) {e : Env} {s : State} {m : MethodId} {args : Array Value} {below : List Frame} {meth : Method} {c : Code} {D : va_G} {A : Nat → Prop} {cI cL cZ : ClassId} {ad : Nat → Nat} (C : gw_C p s m args meth c b_Mo_latestInWork 2 R_Mo D gw_cl (gw_ty cI cL cZ) A) (hr : meth.sig.returnType = (some .int)) {r : Int32} {σ' : St} : ∀ (n : Nat) (σ : St) (x1 : Int32) (hF : K_Mo_latestInWork_7 n σ x1 = some (r, σ')), gw_W p l e rm_Mo_latestInWork s m args below meth c D gw_cl A (MQ below (gw_Qc D gw_cl (wM ad cI cL cZ σ') (some (.int r)) A) args s 0 0 A) 0 0 2 (wM ad cI cL cZ σ) [(0, .ref (ad 0)), (1, .int x1)] 7 []
  | 0, σ, x1, hF => by cases hF
  | n + 1, σ, x1, hF => by
    unfold K_Mo_latestInWork_7 at hF
    refine gw_iload_n C d_Mo_latestInWork_7 rfl 1 rfl ?_
    refine gw_if_lt (tgt := 26) C d_Mo_latestInWork_8 (by decide) (fun h1 => ?_) (fun h1 => ?_)
    · have hF := gw_pos h1 hF
      refine gw_iload_n C d_Mo_latestInWork_26 rfl 1 rfl ?_
      refine gw_if_ge (tgt := 34) C d_Mo_latestInWork_27 (by decide) (fun h2 => ?_) (fun h2 => ?_)
      · have hF := gw_pos h2 hF
        refine gw_aload_n C d_Mo_latestInWork_34 rfl 0 rfl ?_
        refine fg_Mo_69 C d_Mo_latestInWork_35 ?_
        refine gw_iload_n C d_Mo_latestInWork_38 rfl 1 rfl ?_
        obtain ⟨h3, hF⟩ := gw_grd hF
        refine alwM_20 (v := σ.2.1 17 x1.toNatClampNeg) C h3 rfl d_Mo_latestInWork_39 ?_
        cases hF
        exact gw_iret C hr rfl d_Mo_latestInWork_40
      · have hF := gw_neg h2 hF
        refine gw_iconst (v := (-1)) C d_Mo_latestInWork_30 (by decide) ?_
        refine gw_goto (tgt := 40) C d_Mo_latestInWork_31 (by decide) ?_
        cases hF
        exact gw_iret C hr rfl d_Mo_latestInWork_40
    · have hF := gw_neg h1 hF
      refine gw_aload_n C d_Mo_latestInWork_11 rfl 0 rfl ?_
      refine fg_Mo_66 C d_Mo_latestInWork_12 ?_
      refine gw_iload_n C d_Mo_latestInWork_15 rfl 1 rfl ?_
      obtain ⟨h4, hF⟩ := gw_grd hF
      refine alwM_19 (v := σ.2.1 16 x1.toNatClampNeg) C h4 rfl d_Mo_latestInWork_16 ?_
      refine gw_if_eq (tgt := 26) C d_Mo_latestInWork_17 (by decide) (fun h5 => ?_) (fun h5 => ?_)
      · have hF := gw_pos h5 hF
        refine gw_iload_n C d_Mo_latestInWork_26 rfl 1 rfl ?_
        refine gw_if_ge (tgt := 34) C d_Mo_latestInWork_27 (by decide) (fun h6 => ?_) (fun h6 => ?_)
        · have hF := gw_pos h6 hF
          refine gw_aload_n C d_Mo_latestInWork_34 rfl 0 rfl ?_
          refine fg_Mo_69 C d_Mo_latestInWork_35 ?_
          refine gw_iload_n C d_Mo_latestInWork_38 rfl 1 rfl ?_
          obtain ⟨h7, hF⟩ := gw_grd hF
          refine alwM_20 (v := σ.2.1 17 x1.toNatClampNeg) C h7 rfl d_Mo_latestInWork_39 ?_
          cases hF
          exact gw_iret C hr rfl d_Mo_latestInWork_40
        · have hF := gw_neg h6 hF
          refine gw_iconst (v := (-1)) C d_Mo_latestInWork_30 (by decide) ?_
          refine gw_goto (tgt := 40) C d_Mo_latestInWork_31 (by decide) ?_
          cases hF
          exact gw_iret C hr rfl d_Mo_latestInWork_40
      · have hF := gw_neg h5 hF
        refine gw_iinc (q := 1) (v := x1 + (-1)) (lv' := [(1, .int (x1 + (-1))), (0, .ref (ad 0))]) C d_Mo_latestInWork_20 rfl rfl (by decide) rfl ?_
        refine gw_goto (tgt := 7) C d_Mo_latestInWork_23 (by decide) ?_
        refine gw_less [1, 0] rfl ?_
        exact k_Mo_latestInWork_7 l C hr n _ _ hF
set_option maxRecDepth 100000 in
set_option maxHeartbeats 4000000 in
theorem c_Mo_latestInWork (l : Launch) (D : va_G) (cI cL cZ : ClassId) (ad : Nat → Nat) {σ : St} {r : Int32} {σ' : St} (hF : F_Mo_latestInWork σ = some (r, σ')) : gw_M l y_Mo_latestInWork w_Mo_latestInWork rm_Mo_latestInWork D gw_cl (gw_ty cI cL cZ) [.ref (ad 0)] (wM ad cI cL cZ σ) (wM ad cI cL cZ σ') (some (.int r)) := by
  refine gw_start (cc := b_Mo_latestInWork) (nL := 2) (ret := (some .int)) (by decide) rfl (Nat.le_of_ble_eq_true rfl) (fun p e s m below meth c A C hr _ => ?_)
  refine gw_eq (lv' := [(0, .ref (ad 0))]) rfl rfl ?_
  unfold F_Mo_latestInWork at hF
  refine gw_aload_n C d_Mo_latestInWork_0 rfl 0 rfl ?_
  refine fg_Mo_122 (v := σ.1 4) C rfl d_Mo_latestInWork_1 ?_
  refine gw_iconst (v := 1) C d_Mo_latestInWork_4 (by decide) ?_
  refine gw_isub C d_Mo_latestInWork_5 ?_
  refine gw_istore_n (lv' := [(1, .int ((σ.1 4) - 1)), (0, .ref (ad 0))]) C d_Mo_latestInWork_6 rfl (by decide) rfl ?_
  refine gw_less [1, 0] rfl ?_
  exact k_Mo_latestInWork_7 l C hr gw_N _ _ hF
set_option maxRecDepth 100000 in
set_option maxHeartbeats 4000000 in
theorem c_Mo_push (l : Launch) (D : va_G) (cI cL cZ : ClassId) (ad : Nat → Nat) {σ : St} {x1 : Int32} {x2 : Int32} {x3 : Int32} {x4 : Int64} {σ' : St} (hF : F_Mo_push σ x1 x2 x3 x4 = some σ') : gw_M l y_Mo_push w_Mo_push rm_Mo_push D gw_cl (gw_ty cI cL cZ) [.ref (ad 0), .int x1, .int x2, .int x3, .long x4] (wM ad cI cL cZ σ) (wM ad cI cL cZ σ') none := by
  refine gw_start (cc := b_Mo_push) (nL := 6) (ret := none) (by decide) rfl (Nat.le_of_ble_eq_true rfl) (fun p e s m below meth c A C hr _ => ?_)
  refine gw_eq (lv' := [(0, .ref (ad 0)), (1, .int x1), (2, .int x2), (3, .int x3), (4, .long x4)]) rfl rfl ?_
  unfold F_Mo_push at hF
  refine gw_aload_n C d_Mo_push_0 rfl 0 rfl ?_
  refine fg_Mo_66 C d_Mo_push_1 ?_
  refine gw_aload_n C d_Mo_push_4 rfl 0 rfl ?_
  refine fg_Mo_122 (v := σ.1 4) C rfl d_Mo_push_5 ?_
  refine gw_iload_n C d_Mo_push_8 rfl 1 rfl ?_
  obtain ⟨h1, hF⟩ := gw_grd hF
  refine aswM_19 C h1 d_Mo_push_9 ?_
  refine gw_aload_n C d_Mo_push_10 rfl 0 rfl ?_
  refine fg_Mo_69 C d_Mo_push_11 ?_
  refine gw_aload_n C d_Mo_push_14 rfl 0 rfl ?_
  refine fg_Mo_122 (v := σ.1 4) C rfl d_Mo_push_15 ?_
  refine gw_iload_n C d_Mo_push_18 rfl 2 rfl ?_
  obtain ⟨h2, hF⟩ := gw_grd hF
  refine aswM_20 C h2 d_Mo_push_19 ?_
  refine gw_aload_n C d_Mo_push_20 rfl 0 rfl ?_
  refine fg_Mo_72 C d_Mo_push_21 ?_
  refine gw_aload_n C d_Mo_push_24 rfl 0 rfl ?_
  refine fg_Mo_122 (v := σ.1 4) C rfl d_Mo_push_25 ?_
  refine gw_iload_n C d_Mo_push_28 rfl 3 rfl ?_
  obtain ⟨h3, hF⟩ := gw_grd hF
  refine aswM_21 C h3 d_Mo_push_29 ?_
  refine gw_aload_n C d_Mo_push_30 rfl 0 rfl ?_
  refine fg_Mo_75 C d_Mo_push_31 ?_
  refine gw_aload_n C d_Mo_push_34 rfl 0 rfl ?_
  refine fg_Mo_122 (v := σ.1 4) C rfl d_Mo_push_35 ?_
  refine gw_lload C d_Mo_push_38 4 rfl ?_
  obtain ⟨h4, hF⟩ := gw_grd hF
  refine aswM_22 C h4 d_Mo_push_40 ?_
  refine gw_aload_n C d_Mo_push_41 rfl 0 rfl ?_
  refine gw_dup C d_Mo_push_42 rfl ?_
  refine fg_Mo_122 (v := σ.1 4) C rfl d_Mo_push_43 ?_
  refine gw_iconst (v := 1) C d_Mo_push_46 (by decide) ?_
  refine gw_iadd C d_Mo_push_47 ?_
  refine fp_Mo_122 C d_Mo_push_48 ?_
  cases hF
  exact gw_vret C hr rfl d_Mo_push_51
set_option maxRecDepth 100000 in
set_option maxHeartbeats 4000000 in
theorem k_Mo_need_164 {p : Program} (l : Launch) {e : Env} {s : State} {m : MethodId} {args : Array Value} {below : List Frame} {meth : Method} {c : Code} {D : va_G} {A : Nat → Prop} {cI cL cZ : ClassId} {ad : Nat → Nat} (C : gw_C p s m args meth c b_Mo_need 4 R_Mo D gw_cl (gw_ty cI cL cZ) A) (hr : meth.sig.returnType = none) {σ : St} {x1 : Int32} {σ' : St} (hF : K_Mo_need_164 σ x1 = some σ') : gw_W p l e rm_Mo_need s m args below meth c D gw_cl A (MQ below (gw_Qc D gw_cl (wM ad cI cL cZ σ') none A) args s 0 0 A) 0 0 4 (wM ad cI cL cZ σ) [(0, .ref (ad 0)), (1, .int x1)] 164 [] := by
  unfold K_Mo_need_164 at hF
  refine gw_aload_n C d_Mo_need_164 rfl 0 rfl ?_
  refine fg_Mo_137 (v := σ.1 14) C rfl d_Mo_need_165 ?_
  refine gw_if_eq (tgt := 186) C d_Mo_need_168 (by decide) (fun h11 => ?_) (fun h11 => ?_)
  · have hF := gw_pos h11 hF
    refine gw_aload_n C d_Mo_need_186 rfl 0 rfl ?_
    refine gw_aload_n C d_Mo_need_187 rfl 0 rfl ?_
    refine fg_Mo_32 C d_Mo_need_188 ?_
    refine gw_iload_n C d_Mo_need_191 rfl 1 rfl ?_
    obtain ⟨h12, hF⟩ := gw_grd hF
    refine alwM_8 (v := σ.2.1 6 x1.toNatClampNeg) C h12 rfl d_Mo_need_192 ?_
    refine gw_aload_n C d_Mo_need_193 rfl 0 rfl ?_
    refine fg_Mo_35 C d_Mo_need_194 ?_
    refine gw_iload_n C d_Mo_need_197 rfl 1 rfl ?_
    obtain ⟨h13, hF⟩ := gw_grd hF
    refine alwM_9 (v := σ.2.1 7 x1.toNatClampNeg) C h13 rfl d_Mo_need_198 ?_
    obtain ⟨σ15, h14, hF⟩ := gw_bndv hF
    refine fc_Mo_144 (As := [.int (σ.2.1 6 x1.toNatClampNeg), .int (σ.2.1 7 x1.toNatClampNeg)]) (st := []) (σ' := σ15) C (c_Mo_atHand l D cI cL cZ ad h14) ⟨Nat.le_of_ble_eq_true rfl, Nat.le_of_ble_eq_true rfl⟩ ⟨Nat.le_of_ble_eq_true rfl, Nat.le_of_ble_eq_true rfl⟩ rfl (Nat.le_of_ble_eq_true rfl) d_Mo_need_199 ?_
    cases hF
    exact gw_vret C hr rfl d_Mo_need_202
  · have hF := gw_neg h11 hF
    refine gw_aload_n C d_Mo_need_171 rfl 0 rfl ?_
    refine fg_Mo_29 C d_Mo_need_172 ?_
    refine gw_iload_n C d_Mo_need_175 rfl 1 rfl ?_
    refine gw_iconst (v := 1) C d_Mo_need_176 (by decide) ?_
    obtain ⟨h16, hF⟩ := gw_grd hF
    refine aswM_7 C h16 d_Mo_need_177 ?_
    refine gw_aload_n C d_Mo_need_178 rfl 0 rfl ?_
    refine gw_iconst (v := 0) C d_Mo_need_179 (by decide) ?_
    refine gw_iload_n C d_Mo_need_180 rfl 1 rfl ?_
    refine gw_iconst (v := (-1)) C d_Mo_need_181 (by decide) ?_
    refine gw_lconst (v := 0) C d_Mo_need_182 rfl ?_
    obtain ⟨σ18, h17, hF⟩ := gw_bndv hF
    refine fc_Mo_203 (As := [.int 0, .int x1, .int (-1), .long 0]) (st := []) (σ' := σ18) C (c_Mo_push l D cI cL cZ ad h17) ⟨Nat.le_of_ble_eq_true rfl, Nat.le_of_ble_eq_true rfl⟩ ⟨Nat.le_of_ble_eq_true rfl, Nat.le_of_ble_eq_true rfl⟩ rfl (Nat.le_of_ble_eq_true rfl) d_Mo_need_183 ?_
    refine gw_aload_n C d_Mo_need_186 rfl 0 rfl ?_
    refine gw_aload_n C d_Mo_need_187 rfl 0 rfl ?_
    refine fg_Mo_32 C d_Mo_need_188 ?_
    refine gw_iload_n C d_Mo_need_191 rfl 1 rfl ?_
    obtain ⟨h19, hF⟩ := gw_grd hF
    refine alwM_8 (v := σ18.2.1 6 x1.toNatClampNeg) C h19 rfl d_Mo_need_192 ?_
    refine gw_aload_n C d_Mo_need_193 rfl 0 rfl ?_
    refine fg_Mo_35 C d_Mo_need_194 ?_
    refine gw_iload_n C d_Mo_need_197 rfl 1 rfl ?_
    obtain ⟨h20, hF⟩ := gw_grd hF
    refine alwM_9 (v := σ18.2.1 7 x1.toNatClampNeg) C h20 rfl d_Mo_need_198 ?_
    obtain ⟨σ22, h21, hF⟩ := gw_bndv hF
    refine fc_Mo_144 (As := [.int (σ18.2.1 6 x1.toNatClampNeg), .int (σ18.2.1 7 x1.toNatClampNeg)]) (st := []) (σ' := σ22) C (c_Mo_atHand l D cI cL cZ ad h21) ⟨Nat.le_of_ble_eq_true rfl, Nat.le_of_ble_eq_true rfl⟩ ⟨Nat.le_of_ble_eq_true rfl, Nat.le_of_ble_eq_true rfl⟩ rfl (Nat.le_of_ble_eq_true rfl) d_Mo_need_199 ?_
    cases hF
    exact gw_vret C hr rfl d_Mo_need_202
set_option maxRecDepth 100000 in
set_option maxHeartbeats 4000000 in
theorem k_Mo_need_113 {p : Program} (l : Launch) {e : Env} {s : State} {m : MethodId} {args : Array Value} {below : List Frame} {meth : Method} {c : Code} {D : va_G} {A : Nat → Prop} {cI cL cZ : ClassId} {ad : Nat → Nat} (C : gw_C p s m args meth c b_Mo_need 4 R_Mo D gw_cl (gw_ty cI cL cZ) A) (hr : meth.sig.returnType = none) {σ : St} {x1 : Int32} {x3 : Int32} {σ' : St} (hF : K_Mo_need_113 σ x1 x3 = some σ') : gw_W p l e rm_Mo_need s m args below meth c D gw_cl A (MQ below (gw_Qc D gw_cl (wM ad cI cL cZ σ') none A) args s 0 0 A) 0 0 4 (wM ad cI cL cZ σ) [(0, .ref (ad 0)), (1, .int x1), (3, .int x3)] 113 [] := by
  unfold K_Mo_need_113 at hF
  refine gw_aload_n C d_Mo_need_113 rfl 0 rfl ?_
  refine gw_iload_n C d_Mo_need_114 rfl 2 rfl ?_
  refine fp_Mo_122 C d_Mo_need_115 ?_
  refine gw_aload_n C d_Mo_need_118 rfl 0 rfl ?_
  refine gw_dup C d_Mo_need_119 rfl ?_
  refine fg_Mo_134 (v := σ.1 17) C rfl d_Mo_need_120 ?_
  refine gw_iconst (v := 1) C d_Mo_need_123 (by decide) ?_
  refine gw_iadd C d_Mo_need_124 ?_
  refine fp_Mo_134 C d_Mo_need_125 ?_
  refine gw_aload_n C d_Mo_need_128 rfl 0 rfl ?_
  refine fg_Mo_50 C d_Mo_need_129 ?_
  refine gw_iload_n C d_Mo_need_132 rfl 1 rfl ?_
  refine gw_dup2_11 C d_Mo_need_133 rfl rfl ?_
  obtain ⟨h7, hF⟩ := gw_grd hF
  refine alwM_14 (v := σ.2.1 11 x1.toNatClampNeg) C h7 rfl d_Mo_need_134 ?_
  refine gw_iconst (v := 1) C d_Mo_need_135 (by decide) ?_
  refine gw_iadd C d_Mo_need_136 ?_
  obtain ⟨h8, hF⟩ := gw_grd hF
  refine aswM_14 C h8 d_Mo_need_137 ?_
  refine gw_aload_n C d_Mo_need_138 rfl 0 rfl ?_
  refine fg_Mo_56 C d_Mo_need_139 ?_
  refine gw_iload_n C d_Mo_need_142 rfl 1 rfl ?_
  obtain ⟨h9, hF⟩ := gw_grd hF
  refine alwM_16 (v := σ.2.1 13 x1.toNatClampNeg) C h9 rfl d_Mo_need_143 ?_
  refine gw_if_ne (tgt := 164) C d_Mo_need_144 (by decide) (fun h10 => ?_) (fun h10 => ?_)
  · have hF := gw_neg h10 hF
    refine gw_less [0, 1] rfl ?_
    exact k_Mo_need_164 l C hr hF
  · have hF := gw_pos h10 hF
    refine gw_aload_n C d_Mo_need_147 rfl 0 rfl ?_
    refine fg_Mo_56 C d_Mo_need_148 ?_
    refine gw_iload_n C d_Mo_need_151 rfl 1 rfl ?_
    refine gw_iconst (v := 1) C d_Mo_need_152 (by decide) ?_
    obtain ⟨h23, hF⟩ := gw_grd hF
    refine aswM_16 C h23 rfl d_Mo_need_153 ?_
    refine gw_aload_n C d_Mo_need_154 rfl 0 rfl ?_
    refine fg_Mo_53 C d_Mo_need_155 ?_
    refine gw_iload_n C d_Mo_need_158 rfl 1 rfl ?_
    refine gw_aload_n C d_Mo_need_159 rfl 0 rfl ?_
    obtain ⟨r25, σ26, h24, hF⟩ := gw_bnd hF
    refine fc_Mo_200 (As := []) (st := [.int x1, .ref (ad 15)]) (σ' := σ26) C (c_Mo_latestInWork l D cI cL cZ ad h24) ⟨Nat.le_of_ble_eq_true rfl, Nat.le_of_ble_eq_true rfl⟩ ⟨Nat.le_of_ble_eq_true rfl, Nat.le_of_ble_eq_true rfl⟩ rfl (Nat.le_of_ble_eq_true rfl) d_Mo_need_160 ?_
    obtain ⟨h27, hF⟩ := gw_grd hF
    refine aswM_15 C h27 d_Mo_need_163 ?_
    refine gw_less [0, 1] rfl ?_
    exact k_Mo_need_164 l C hr hF
set_option maxRecDepth 100000 in
set_option maxHeartbeats 4000000 in
theorem k_Mo_need_17 {p : Program} (l : Launch) {e : Env} {s : State} {m : MethodId} {args : Array Value} {below : List Frame} {meth : Method} {c : Code} {D : va_G} {A : Nat → Prop} {cI cL cZ : ClassId} {ad : Nat → Nat} (C : gw_C p s m args meth c b_Mo_need 4 R_Mo D gw_cl (gw_ty cI cL cZ) A) (hr : meth.sig.returnType = none) {σ : St} {x1 : Int32} {y0 : Int32} {σ' : St} (hF : K_Mo_need_17 σ x1 y0 = some σ') : gw_W p l e rm_Mo_need s m args below meth c D gw_cl A (MQ below (gw_Qc D gw_cl (wM ad cI cL cZ σ') none A) args s 0 0 A) 0 0 4 (wM ad cI cL cZ σ) [(0, .ref (ad 0)), (1, .int x1)] 17 [.int y0] := by
  unfold K_Mo_need_17 at hF
  refine gw_istore_n (lv' := [(3, .int y0), (0, .ref (ad 0)), (1, .int x1)]) C d_Mo_need_17 rfl (by decide) rfl ?_
  refine gw_aload_n C d_Mo_need_18 rfl 1 rfl ?_
  refine fg_Mo_29 C d_Mo_need_19 ?_
  refine gw_iload_n C d_Mo_need_22 rfl 2 rfl ?_
  obtain ⟨h2, hF⟩ := gw_grd hF
  refine alwM_7 (v := σ.2.1 5 x1.toNatClampNeg) C h2 rfl d_Mo_need_23 ?_
  refine gw_iconst (v := 1) C d_Mo_need_24 (by decide) ?_
  refine gw_icmp_ne (tgt := 39) C d_Mo_need_25 (by decide) (fun h3 => ?_) (fun h3 => ?_)
  · have hF := gw_neg h3 hF
    refine gw_aload_n C d_Mo_need_39 rfl 1 rfl ?_
    refine fg_Mo_29 C d_Mo_need_40 ?_
    refine gw_iload_n C d_Mo_need_43 rfl 2 rfl ?_
    obtain ⟨h4, hF⟩ := gw_grd hF
    refine alwM_7 (v := σ.2.1 5 x1.toNatClampNeg) C h4 rfl d_Mo_need_44 ?_
    refine gw_iconst (v := 2) C d_Mo_need_45 (by decide) ?_
    refine gw_icmp_ne (tgt := 93) C d_Mo_need_46 (by decide) (fun h5 => ?_) (fun h5 => ?_)
    · have hF := gw_neg h5 hF
      refine gw_aload_n C d_Mo_need_93 rfl 1 rfl ?_
      refine fg_Mo_137 (v := σ.1 14) C rfl d_Mo_need_94 ?_
      refine gw_if_eq (tgt := 113) C d_Mo_need_97 (by decide) (fun h6 => ?_) (fun h6 => ?_)
      · have hF := gw_pos h6 hF
        refine gw_less [1, 2, 0] rfl ?_
        exact k_Mo_need_113 l C hr hF
      · have hF := gw_neg h6 hF
        refine gw_iload_n C d_Mo_need_100 rfl 0 rfl ?_
        refine gw_sipush (v := 300) C d_Mo_need_101 (by decide) ?_
        refine gw_icmp_ne (tgt := 113) C d_Mo_need_104 (by decide) (fun h28 => ?_) (fun h28 => ?_)
        · have hF := gw_neg h28 hF
          refine gw_less [1, 2, 0] rfl ?_
          exact k_Mo_need_113 l C hr hF
        · have hF := gw_pos h28 hF
          refine gw_aload_n C d_Mo_need_107 rfl 1 rfl ?_
          refine gw_iconst (v := 5) C d_Mo_need_108 (by decide) ?_
          refine fp_Mo_141 C d_Mo_need_109 ?_
          cases hF
          exact gw_vret C hr rfl d_Mo_need_112
    · have hF := gw_pos h5 hF
      refine gw_aload_n C d_Mo_need_49 rfl 1 rfl ?_
      refine gw_iload_n C d_Mo_need_50 rfl 0 rfl ?_
      refine fp_Mo_122 C d_Mo_need_51 ?_
      refine gw_aload_n C d_Mo_need_54 rfl 1 rfl ?_
      refine gw_dup C d_Mo_need_55 rfl ?_
      refine fg_Mo_131 (v := σ.1 16) C rfl d_Mo_need_56 ?_
      refine gw_iconst (v := 1) C d_Mo_need_59 (by decide) ?_
      refine gw_iadd C d_Mo_need_60 ?_
      refine fp_Mo_131 C d_Mo_need_61 ?_
      refine gw_aload_n C d_Mo_need_64 rfl 1 rfl ?_
      refine gw_aload_n C d_Mo_need_65 rfl 1 rfl ?_
      refine fg_Mo_38 C d_Mo_need_66 ?_
      refine gw_iload_n C d_Mo_need_69 rfl 2 rfl ?_
      obtain ⟨h29, hF⟩ := gw_grd hF
      refine alwM_10 (v := σ.2.1 8 x1.toNatClampNeg) C h29 rfl d_Mo_need_70 ?_
      refine gw_aload_n C d_Mo_need_71 rfl 1 rfl ?_
      refine fg_Mo_41 C d_Mo_need_72 ?_
      refine gw_iload_n C d_Mo_need_75 rfl 2 rfl ?_
      obtain ⟨h30, hF⟩ := gw_grd hF
      refine alwM_11 (v := σ.2.2.2 1 x1.toNatClampNeg) C h30 rfl d_Mo_need_76 ?_
      refine gw_aload_n C d_Mo_need_77 rfl 1 rfl ?_
      refine fg_Mo_44 C d_Mo_need_78 ?_
      refine gw_iload_n C d_Mo_need_81 rfl 2 rfl ?_
      obtain ⟨h31, hF⟩ := gw_grd hF
      refine alwM_12 (v := σ.2.1 9 x1.toNatClampNeg) C h31 rfl d_Mo_need_82 ?_
      refine gw_aload_n C d_Mo_need_83 rfl 1 rfl ?_
      refine fg_Mo_47 C d_Mo_need_84 ?_
      refine gw_iload_n C d_Mo_need_87 rfl 2 rfl ?_
      obtain ⟨h32, hF⟩ := gw_grd hF
      refine alwM_13 (v := σ.2.1 10 x1.toNatClampNeg) C h32 rfl d_Mo_need_88 ?_
      obtain ⟨σ34, h33, hF⟩ := gw_bndv hF
      refine fc_Mo_196 (As := [.int (σ.2.1 8 x1.toNatClampNeg), .long (σ.2.2.2 1 x1.toNatClampNeg), .int (σ.2.1 9 x1.toNatClampNeg), .int (σ.2.1 10 x1.toNatClampNeg)]) (st := []) (σ' := σ34) C (c_Mo_valueAtHand l D cI cL cZ ad h33) ⟨Nat.le_of_ble_eq_true rfl, Nat.le_of_ble_eq_true rfl⟩ ⟨Nat.le_of_ble_eq_true rfl, Nat.le_of_ble_eq_true rfl⟩ rfl (Nat.le_of_ble_eq_true rfl) d_Mo_need_89 ?_
      cases hF
      exact gw_vret C hr rfl d_Mo_need_92
  · have hF := gw_pos h3 hF
    refine gw_aload_n C d_Mo_need_28 rfl 1 rfl ?_
    refine gw_iconst (v := 3) C d_Mo_need_29 (by decide) ?_
    refine fp_Mo_141 C d_Mo_need_30 ?_
    refine gw_aload_n C d_Mo_need_33 rfl 1 rfl ?_
    refine gw_iload_n C d_Mo_need_34 rfl 2 rfl ?_
    refine fp_Mo_193 C d_Mo_need_35 ?_
    cases hF
    exact gw_vret C hr rfl d_Mo_need_38
set_option maxRecDepth 100000 in
set_option maxHeartbeats 4000000 in
theorem c_Mo_need (l : Launch) (D : va_G) (cI cL cZ : ClassId) (ad : Nat → Nat) {σ : St} {x1 : Int32} {x2 : Int32} {σ' : St} (hF : F_Mo_need σ x1 x2 = some σ') : gw_M l y_Mo_need w_Mo_need rm_Mo_need D gw_cl (gw_ty cI cL cZ) [.ref (ad 0), .int x1, .int x2] (wM ad cI cL cZ σ) (wM ad cI cL cZ σ') none := by
  refine gw_start (cc := b_Mo_need) (nL := 4) (ret := none) (by decide) rfl (Nat.le_of_ble_eq_true rfl) (fun p e s m below meth c A C hr _ => ?_)
  refine gw_eq (lv' := [(0, .ref (ad 0)), (1, .int x1), (2, .int x2)]) rfl rfl ?_
  unfold F_Mo_need at hF
  refine gw_iload_n C d_Mo_need_0 rfl 2 rfl ?_
  refine gw_if_eq (tgt := 13) C d_Mo_need_1 (by decide) (fun h1 => ?_) (fun h1 => ?_)
  · have hF := gw_pos h1 hF
    refine gw_aload_n C d_Mo_need_13 rfl 0 rfl ?_
    refine fg_Mo_122 (v := σ.1 4) C rfl d_Mo_need_14 ?_
    refine gw_less [0, 1] rfl ?_
    exact k_Mo_need_17 l C hr hF
  · have hF := gw_neg h1 hF
    refine gw_aload_n C d_Mo_need_4 rfl 0 rfl ?_
    refine fg_Mo_122 (v := σ.1 4) C rfl d_Mo_need_5 ?_
    refine gw_iconst (v := 1) C d_Mo_need_8 (by decide) ?_
    refine gw_isub C d_Mo_need_9 ?_
    refine gw_goto (tgt := 17) C d_Mo_need_10 (by decide) ?_
    refine gw_less [0, 1] rfl ?_
    exact k_Mo_need_17 l C hr hF
