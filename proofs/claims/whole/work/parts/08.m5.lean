set_option maxRecDepth 100000 in
set_option maxHeartbeats 4000000 in
theorem c_Mo_isThing (l : Launch) (D : va_G) (cI cL cZ : ClassId) (ad : Nat → Nat) {σ : St} {x1 : Int32} {r : Int32} {σ' : St} (hF : F_Mo_isThing σ x1 = some (r, σ')) : gw_M l y_Mo_isThing w_Mo_isThing rm_Mo_isThing D gw_cl (gw_ty cI cL cZ) [.ref (ad 0), .int x1] (wM ad cI cL cZ σ) (wM ad cI cL cZ σ') (some (.int r)) := by
  refine gw_start (cc := b_Mo_isThing) (nL := 2) (ret := (some .boolean)) (by decide) rfl (Nat.le_of_ble_eq_true rfl) (fun p e s m below meth c A C hr _ => ?_)
  refine gw_eq (lv' := [(0, .ref (ad 0)), (1, .int x1)]) rfl rfl ?_
  unfold F_Mo_isThing at hF
  refine gw_aload_n C d_Mo_isThing_0 rfl 0 rfl ?_
  refine fg_Mo_141 (v := σ.1 13) C rfl d_Mo_isThing_1 ?_
  refine gw_if_eq (tgt := 23) C d_Mo_isThing_4 (by decide) (fun h1 => ?_) (fun h1 => ?_)
  · have hF := gw_pos h1 hF
    refine gw_iconst (v := 0) C d_Mo_isThing_23 (by decide) ?_
    cases hF
    exact gw_zret C hr rfl rfl d_Mo_isThing_24
  · have hF := gw_neg h1 hF
    refine gw_iload_n C d_Mo_isThing_7 rfl 1 rfl ?_
    refine gw_if_lt (tgt := 23) C d_Mo_isThing_8 (by decide) (fun h2 => ?_) (fun h2 => ?_)
    · have hF := gw_pos h2 hF
      refine gw_iconst (v := 0) C d_Mo_isThing_23 (by decide) ?_
      cases hF
      exact gw_zret C hr rfl rfl d_Mo_isThing_24
    · have hF := gw_neg h2 hF
      refine gw_iload_n C d_Mo_isThing_11 rfl 1 rfl ?_
      refine gw_aload_n C d_Mo_isThing_12 rfl 0 rfl ?_
      refine fg_Mo_113 (v := σ.1 1) C rfl d_Mo_isThing_13 ?_
      refine gw_icmp_ge (tgt := 23) C d_Mo_isThing_16 (by decide) (fun h3 => ?_) (fun h3 => ?_)
      · have hF := gw_pos h3 hF
        refine gw_iconst (v := 0) C d_Mo_isThing_23 (by decide) ?_
        cases hF
        exact gw_zret C hr rfl rfl d_Mo_isThing_24
      · have hF := gw_neg h3 hF
        refine gw_iconst (v := 1) C d_Mo_isThing_19 (by decide) ?_
        refine gw_goto (tgt := 24) C d_Mo_isThing_20 (by decide) ?_
        cases hF
        exact gw_zret C hr rfl rfl d_Mo_isThing_24
set_option maxRecDepth 100000 in
set_option maxHeartbeats 4000000 in
theorem c_Mo_thing (l : Launch) (D : va_G) (cI cL cZ : ClassId) (ad : Nat → Nat) {σ : St} {x1 : Int32} {r : Int32} {σ' : St} (hF : F_Mo_thing σ x1 = some (r, σ')) : gw_M l y_Mo_thing w_Mo_thing rm_Mo_thing D gw_cl (gw_ty cI cL cZ) [.ref (ad 0), .int x1] (wM ad cI cL cZ σ) (wM ad cI cL cZ σ') (some (.int r)) := by
  refine gw_start (cc := b_Mo_thing) (nL := 2) (ret := (some .int)) (by decide) rfl (Nat.le_of_ble_eq_true rfl) (fun p e s m below meth c A C hr _ => ?_)
  refine gw_eq (lv' := [(0, .ref (ad 0)), (1, .int x1)]) rfl rfl ?_
  unfold F_Mo_thing at hF
  refine gw_aload_n C d_Mo_thing_0 rfl 0 rfl ?_
  refine gw_iload_n C d_Mo_thing_1 rfl 1 rfl ?_
  obtain ⟨r2, σ3, h1, hF⟩ := gw_bnd hF
  refine fc_Mo_230 (As := [.int x1]) (st := []) (σ' := σ3) C (c_Mo_isThing l D cI cL cZ ad h1) ⟨Nat.le_of_ble_eq_true rfl, Nat.le_of_ble_eq_true rfl⟩ ⟨Nat.le_of_ble_eq_true rfl, Nat.le_of_ble_eq_true rfl⟩ rfl (Nat.le_of_ble_eq_true rfl) d_Mo_thing_2 ?_
  refine gw_if_ne (tgt := 14) C d_Mo_thing_5 (by decide) (fun h4 => ?_) (fun h4 => ?_)
  · have hF := gw_neg h4 hF
    refine gw_aload_n C d_Mo_thing_14 rfl 0 rfl ?_
    refine gw_iconst (v := 0) C d_Mo_thing_15 (by decide) ?_
    refine fp_Mo_87 C d_Mo_thing_16 ?_
    refine gw_aload_n C d_Mo_thing_19 rfl 0 rfl ?_
    refine fg_Mo_29 C d_Mo_thing_20 ?_
    refine gw_iload_n C d_Mo_thing_23 rfl 1 rfl ?_
    obtain ⟨h5, hF⟩ := gw_grd hF
    refine alwM_7 (v := σ3.2.1 5 x1.toNatClampNeg) C h5 rfl d_Mo_thing_24 ?_
    cases hF
    exact gw_iret C hr rfl d_Mo_thing_25
  · have hF := gw_pos h4 hF
    refine gw_aload_n C d_Mo_thing_8 rfl 0 rfl ?_
    refine gw_iconst (v := 1) C d_Mo_thing_9 (by decide) ?_
    obtain ⟨r7, σ8, h6, hF⟩ := gw_bnd hF
    refine fc_Mo_94 (As := [.int 1]) (st := []) (σ' := σ8) C (c_Mo_thrownBy l D cI cL cZ ad h6) ⟨Nat.le_of_ble_eq_true rfl, Nat.le_of_ble_eq_true rfl⟩ ⟨Nat.le_of_ble_eq_true rfl, Nat.le_of_ble_eq_true rfl⟩ rfl (Nat.le_of_ble_eq_true rfl) d_Mo_thing_10 ?_
    cases hF
    exact gw_iret C hr rfl d_Mo_thing_13
set_option maxRecDepth 100000 in
set_option maxHeartbeats 4000000 in
theorem c_Mo_worked (l : Launch) (D : va_G) (cI cL cZ : ClassId) (ad : Nat → Nat) {σ : St} {x1 : Int32} {x2 : Int32} {r : Int32} {σ' : St} (hF : F_Mo_worked σ x1 x2 = some (r, σ')) : gw_M l y_Mo_worked w_Mo_worked rm_Mo_worked D gw_cl (gw_ty cI cL cZ) [.ref (ad 0), .int x1, .int x2] (wM ad cI cL cZ σ) (wM ad cI cL cZ σ') (some (.int r)) := by
  refine gw_start (cc := b_Mo_worked) (nL := 3) (ret := (some .int)) (by decide) rfl (Nat.le_of_ble_eq_true rfl) (fun p e s m below meth c A C hr _ => ?_)
  refine gw_eq (lv' := [(0, .ref (ad 0)), (1, .int x1), (2, .int x2)]) rfl rfl ?_
  unfold F_Mo_worked at hF
  refine gw_aload_n C d_Mo_worked_0 rfl 0 rfl ?_
  refine gw_iload_n C d_Mo_worked_1 rfl 1 rfl ?_
  obtain ⟨r2, σ3, h1, hF⟩ := gw_bnd hF
  refine fc_Mo_230 (As := [.int x1]) (st := []) (σ' := σ3) C (c_Mo_isThing l D cI cL cZ ad h1) ⟨Nat.le_of_ble_eq_true rfl, Nat.le_of_ble_eq_true rfl⟩ ⟨Nat.le_of_ble_eq_true rfl, Nat.le_of_ble_eq_true rfl⟩ rfl (Nat.le_of_ble_eq_true rfl) d_Mo_worked_2 ?_
  refine gw_if_ne (tgt := 14) C d_Mo_worked_5 (by decide) (fun h4 => ?_) (fun h4 => ?_)
  · have hF := gw_neg h4 hF
    refine gw_iload_n C d_Mo_worked_14 rfl 2 rfl ?_
    refine gw_if_lt (tgt := 23) C d_Mo_worked_15 (by decide) (fun h5 => ?_) (fun h5 => ?_)
    · have hF := gw_pos h5 hF
      refine gw_aload_n C d_Mo_worked_23 rfl 0 rfl ?_
      refine gw_iconst (v := 2) C d_Mo_worked_24 (by decide) ?_
      obtain ⟨r7, σ8, h6, hF⟩ := gw_bnd hF
      refine fc_Mo_94 (As := [.int 2]) (st := []) (σ' := σ8) C (c_Mo_thrownBy l D cI cL cZ ad h6) ⟨Nat.le_of_ble_eq_true rfl, Nat.le_of_ble_eq_true rfl⟩ ⟨Nat.le_of_ble_eq_true rfl, Nat.le_of_ble_eq_true rfl⟩ rfl (Nat.le_of_ble_eq_true rfl) d_Mo_worked_25 ?_
      cases hF
      exact gw_iret C hr rfl d_Mo_worked_28
    · have hF := gw_neg h5 hF
      refine gw_iload_n C d_Mo_worked_18 rfl 2 rfl ?_
      refine gw_iconst (v := 2) C d_Mo_worked_19 (by decide) ?_
      refine gw_icmp_le (tgt := 29) C d_Mo_worked_20 (by decide) (fun h9 => ?_) (fun h9 => ?_)
      · have hF := gw_pos h9 hF
        refine gw_aload_n C d_Mo_worked_29 rfl 0 rfl ?_
        refine gw_iconst (v := 0) C d_Mo_worked_30 (by decide) ?_
        refine fp_Mo_87 C d_Mo_worked_31 ?_
        refine gw_iload_n C d_Mo_worked_34 rfl 2 rfl ?_
        refine gw_if_ne (tgt := 47) C d_Mo_worked_35 (by decide) (fun h10 => ?_) (fun h10 => ?_)
        · have hF := gw_neg h10 hF
          refine gw_iload_n C d_Mo_worked_47 rfl 2 rfl ?_
          refine gw_iconst (v := 1) C d_Mo_worked_48 (by decide) ?_
          refine gw_icmp_ne (tgt := 61) C d_Mo_worked_49 (by decide) (fun h11 => ?_) (fun h11 => ?_)
          · have hF := gw_neg h11 hF
            refine gw_aload_n C d_Mo_worked_61 rfl 0 rfl ?_
            refine fg_Mo_32 C d_Mo_worked_62 ?_
            refine gw_iload_n C d_Mo_worked_65 rfl 1 rfl ?_
            obtain ⟨h12, hF⟩ := gw_grd hF
            refine alwM_8 (v := σ3.2.1 6 x1.toNatClampNeg) C h12 rfl d_Mo_worked_66 ?_
            cases hF
            exact gw_iret C hr rfl d_Mo_worked_67
          · have hF := gw_pos h11 hF
            refine gw_aload_n C d_Mo_worked_52 rfl 0 rfl ?_
            refine fg_Mo_53 C d_Mo_worked_53 ?_
            refine gw_iload_n C d_Mo_worked_56 rfl 1 rfl ?_
            obtain ⟨h13, hF⟩ := gw_grd hF
            refine alwM_15 (v := σ3.2.1 12 x1.toNatClampNeg) C h13 rfl d_Mo_worked_57 ?_
            refine gw_goto (tgt := 67) C d_Mo_worked_58 (by decide) ?_
            cases hF
            exact gw_iret C hr rfl d_Mo_worked_67
        · have hF := gw_pos h10 hF
          refine gw_aload_n C d_Mo_worked_38 rfl 0 rfl ?_
          refine fg_Mo_50 C d_Mo_worked_39 ?_
          refine gw_iload_n C d_Mo_worked_42 rfl 1 rfl ?_
          obtain ⟨h14, hF⟩ := gw_grd hF
          refine alwM_14 (v := σ3.2.1 11 x1.toNatClampNeg) C h14 rfl d_Mo_worked_43 ?_
          refine gw_goto (tgt := 67) C d_Mo_worked_44 (by decide) ?_
          cases hF
          exact gw_iret C hr rfl d_Mo_worked_67
      · have hF := gw_neg h9 hF
        refine gw_aload_n C d_Mo_worked_23 rfl 0 rfl ?_
        refine gw_iconst (v := 2) C d_Mo_worked_24 (by decide) ?_
        obtain ⟨r16, σ17, h15, hF⟩ := gw_bnd hF
        refine fc_Mo_94 (As := [.int 2]) (st := []) (σ' := σ17) C (c_Mo_thrownBy l D cI cL cZ ad h15) ⟨Nat.le_of_ble_eq_true rfl, Nat.le_of_ble_eq_true rfl⟩ ⟨Nat.le_of_ble_eq_true rfl, Nat.le_of_ble_eq_true rfl⟩ rfl (Nat.le_of_ble_eq_true rfl) d_Mo_worked_25 ?_
        cases hF
        exact gw_iret C hr rfl d_Mo_worked_28
  · have hF := gw_pos h4 hF
    refine gw_aload_n C d_Mo_worked_8 rfl 0 rfl ?_
    refine gw_iconst (v := 1) C d_Mo_worked_9 (by decide) ?_
    obtain ⟨r19, σ20, h18, hF⟩ := gw_bnd hF
    refine fc_Mo_94 (As := [.int 1]) (st := []) (σ' := σ20) C (c_Mo_thrownBy l D cI cL cZ ad h18) ⟨Nat.le_of_ble_eq_true rfl, Nat.le_of_ble_eq_true rfl⟩ ⟨Nat.le_of_ble_eq_true rfl, Nat.le_of_ble_eq_true rfl⟩ rfl (Nat.le_of_ble_eq_true rfl) d_Mo_worked_10 ?_
    cases hF
    exact gw_iret C hr rfl d_Mo_worked_13
set_option maxRecDepth 100000 in
set_option maxHeartbeats 4000000 in
theorem k_Mo_ring_25 {p : Program} (l : Launch) {e : Env} {s : State} {m : MethodId} {args : Array Value} {below : List Frame} {meth : Method} {c : Code} {D : va_G} {A : Nat → Prop} {cI cL cZ : ClassId} {ad : Nat → Nat} (C : gw_C p s m args meth c b_Mo_ring 5 R_Mo D gw_cl (gw_ty cI cL cZ) A) (hr : meth.sig.returnType = (some .int)) {r : Int32} {σ' : St} : ∀ (n : Nat) (σ : St) (x1 : Int32) (x2 : Int32) (x3 : Int32) (x4 : Int32) (hF : K_Mo_ring_25 n σ x1 x2 x3 x4 = some (r, σ')), gw_W p l e rm_Mo_ring s m args below meth c D gw_cl A (MQ below (gw_Qc D gw_cl (wM ad cI cL cZ σ') (some (.int r)) A) args s 0 0 A) 0 0 5 (wM ad cI cL cZ σ) [(0, .ref (ad 0)), (1, .int x1), (2, .int x2), (3, .int x3), (4, .int x4)] 25 []
  | 0, σ, x1, x2, x3, x4, hF => by cases hF
  | n + 1, σ, x1, x2, x3, x4, hF => by
    unfold K_Mo_ring_25 at hF
    refine gw_iload C d_Mo_ring_25 4 rfl ?_
    refine gw_aload_n C d_Mo_ring_27 rfl 0 rfl ?_
    refine fg_Mo_122 (v := σ.1 4) C rfl d_Mo_ring_28 ?_
    refine gw_icmp_ge (tgt := 108) C d_Mo_ring_31 (by decide) (fun h6 => ?_) (fun h6 => ?_)
    · have hF := gw_pos h6 hF
      refine gw_aload_n C d_Mo_ring_108 rfl 0 rfl ?_
      refine gw_iconst (v := 1) C d_Mo_ring_109 (by decide) ?_
      obtain ⟨r8, σ9, h7, hF⟩ := gw_bnd hF
      refine fc_Mo_94 (As := [.int 1]) (st := []) (σ' := σ9) C (c_Mo_thrownBy l D cI cL cZ ad h7) ⟨Nat.le_of_ble_eq_true rfl, Nat.le_of_ble_eq_true rfl⟩ ⟨Nat.le_of_ble_eq_true rfl, Nat.le_of_ble_eq_true rfl⟩ rfl (Nat.le_of_ble_eq_true rfl) d_Mo_ring_110 ?_
      cases hF
      exact gw_iret C hr rfl d_Mo_ring_113
    · have hF := gw_neg h6 hF
      refine gw_aload_n C d_Mo_ring_34 rfl 0 rfl ?_
      refine fg_Mo_66 C d_Mo_ring_35 ?_
      refine gw_iload C d_Mo_ring_38 4 rfl ?_
      obtain ⟨h10, hF⟩ := gw_grd hF
      refine alwM_19 (v := σ.2.1 16 x4.toNatClampNeg) C h10 rfl d_Mo_ring_40 ?_
      refine gw_if_ne (tgt := 102) C d_Mo_ring_41 (by decide) (fun h11 => ?_) (fun h11 => ?_)
      · have hF := gw_neg h11 hF
        refine gw_iinc (q := 4) (v := x4 + 1) (lv' := [(4, .int (x4 + 1)), (0, .ref (ad 0)), (1, .int x1), (2, .int x2), (3, .int x3)]) C d_Mo_ring_102 rfl rfl (by decide) rfl ?_
        refine gw_goto (tgt := 25) C d_Mo_ring_105 (by decide) ?_
        refine gw_less [1, 2, 3, 4, 0] rfl ?_
        exact k_Mo_ring_25 l C hr n _ _ _ _ _ hF
      · have hF := gw_pos h11 hF
        refine gw_iload_n C d_Mo_ring_44 rfl 3 rfl ?_
        refine gw_if_ne (tgt := 62) C d_Mo_ring_45 (by decide) (fun h12 => ?_) (fun h12 => ?_)
        · have hF := gw_neg h12 hF
          refine gw_iconst (v := 1) C d_Mo_ring_62 (by decide) ?_
          refine gw_goto (tgt := 67) C d_Mo_ring_63 (by decide) ?_
          refine gw_istore_n (lv' := [(3, .int 1), (0, .ref (ad 0)), (1, .int x1), (2, .int x2), (4, .int x4)]) C d_Mo_ring_67 rfl (by decide) rfl ?_
          refine gw_iload_n C d_Mo_ring_68 rfl 0 rfl ?_
          refine gw_if_eq (tgt := 90) C d_Mo_ring_69 (by decide) (fun h13 => ?_) (fun h13 => ?_)
          · exact absurd h13 (by decide)
          · skip
            refine gw_iload_n C d_Mo_ring_72 rfl 3 rfl ?_
            refine gw_iload_n C d_Mo_ring_73 rfl 2 rfl ?_
            refine gw_icmp_ne (tgt := 90) C d_Mo_ring_74 (by decide) (fun h14 => ?_) (fun h14 => ?_)
            · have hF := gw_neg h14 hF
              refine gw_iload_n C d_Mo_ring_90 rfl 3 rfl ?_
              refine gw_iload_n C d_Mo_ring_91 rfl 0 rfl ?_
              refine gw_if_eq (tgt := 99) C d_Mo_ring_92 (by decide) (fun h15 => ?_) (fun h15 => ?_)
              · exact absurd h15 (by decide)
              · skip
                refine gw_iconst (v := 1) C d_Mo_ring_95 (by decide) ?_
                refine gw_goto (tgt := 100) C d_Mo_ring_96 (by decide) ?_
                refine gw_iadd C d_Mo_ring_100 ?_
                refine gw_istore_n (lv' := [(2, .int (x2 + 1)), (3, .int 1), (0, .ref (ad 0)), (1, .int x1), (4, .int x4)]) C d_Mo_ring_101 rfl (by decide) rfl ?_
                refine gw_iinc (q := 4) (v := x4 + 1) (lv' := [(4, .int (x4 + 1)), (2, .int (x2 + 1)), (3, .int 1), (0, .ref (ad 0)), (1, .int x1)]) C d_Mo_ring_102 rfl rfl (by decide) rfl ?_
                refine gw_goto (tgt := 25) C d_Mo_ring_105 (by decide) ?_
                refine gw_less [3, 4, 1, 2, 0] rfl ?_
                exact k_Mo_ring_25 l C hr n _ _ _ _ _ hF
            · have hF := gw_pos h14 hF
              refine gw_aload_n C d_Mo_ring_77 rfl 1 rfl ?_
              refine gw_iconst (v := 0) C d_Mo_ring_78 (by decide) ?_
              refine fp_Mo_87 C d_Mo_ring_79 ?_
              refine gw_aload_n C d_Mo_ring_82 rfl 1 rfl ?_
              refine fg_Mo_69 C d_Mo_ring_83 ?_
              refine gw_iload C d_Mo_ring_86 4 rfl ?_
              obtain ⟨h16, hF⟩ := gw_grd hF
              refine alwM_20 (v := σ.2.1 17 x4.toNatClampNeg) C h16 rfl d_Mo_ring_88 ?_
              cases hF
              exact gw_iret C hr rfl d_Mo_ring_89
        · have hF := gw_pos h12 hF
          refine gw_aload_n C d_Mo_ring_48 rfl 0 rfl ?_
          refine fg_Mo_69 C d_Mo_ring_49 ?_
          refine gw_iload C d_Mo_ring_52 4 rfl ?_
          obtain ⟨h17, hF⟩ := gw_grd hF
          refine alwM_20 (v := σ.2.1 17 x4.toNatClampNeg) C h17 rfl d_Mo_ring_54 ?_
          refine gw_aload_n C d_Mo_ring_55 rfl 0 rfl ?_
          refine fg_Mo_193 (v := σ.1 18) C rfl d_Mo_ring_56 ?_
          refine gw_icmp_ne (tgt := 66) C d_Mo_ring_59 (by decide) (fun h18 => ?_) (fun h18 => ?_)
          · have hF := gw_neg h18 hF
            refine gw_iconst (v := 0) C d_Mo_ring_66 (by decide) ?_
            refine gw_istore_n (lv' := [(3, .int 0), (0, .ref (ad 0)), (1, .int x1), (2, .int x2), (4, .int x4)]) C d_Mo_ring_67 rfl (by decide) rfl ?_
            refine gw_iload_n C d_Mo_ring_68 rfl 0 rfl ?_
            refine gw_if_eq (tgt := 90) C d_Mo_ring_69 (by decide) (fun h19 => ?_) (fun h19 => ?_)
            · skip
              refine gw_iload_n C d_Mo_ring_90 rfl 3 rfl ?_
              refine gw_iload_n C d_Mo_ring_91 rfl 0 rfl ?_
              refine gw_if_eq (tgt := 99) C d_Mo_ring_92 (by decide) (fun h20 => ?_) (fun h20 => ?_)
              · skip
                refine gw_iconst (v := 0) C d_Mo_ring_99 (by decide) ?_
                refine gw_iadd C d_Mo_ring_100 ?_
                refine gw_istore_n (lv' := [(2, .int (x2 + 0)), (3, .int 0), (0, .ref (ad 0)), (1, .int x1), (4, .int x4)]) C d_Mo_ring_101 rfl (by decide) rfl ?_
                refine gw_iinc (q := 4) (v := x4 + 1) (lv' := [(4, .int (x4 + 1)), (2, .int (x2 + 0)), (3, .int 0), (0, .ref (ad 0)), (1, .int x1)]) C d_Mo_ring_102 rfl rfl (by decide) rfl ?_
                refine gw_goto (tgt := 25) C d_Mo_ring_105 (by decide) ?_
                refine gw_less [3, 4, 1, 2, 0] rfl ?_
                exact k_Mo_ring_25 l C hr n _ _ _ _ _ hF
              · exact absurd h20 (by decide)
            · exact absurd h19 (by decide)
          · have hF := gw_pos h18 hF
            refine gw_iconst (v := 1) C d_Mo_ring_62 (by decide) ?_
            refine gw_goto (tgt := 67) C d_Mo_ring_63 (by decide) ?_
            refine gw_istore_n (lv' := [(3, .int 1), (0, .ref (ad 0)), (1, .int x1), (2, .int x2), (4, .int x4)]) C d_Mo_ring_67 rfl (by decide) rfl ?_
            refine gw_iload_n C d_Mo_ring_68 rfl 0 rfl ?_
            refine gw_if_eq (tgt := 90) C d_Mo_ring_69 (by decide) (fun h21 => ?_) (fun h21 => ?_)
            · exact absurd h21 (by decide)
            · skip
              refine gw_iload_n C d_Mo_ring_72 rfl 3 rfl ?_
              refine gw_iload_n C d_Mo_ring_73 rfl 2 rfl ?_
              refine gw_icmp_ne (tgt := 90) C d_Mo_ring_74 (by decide) (fun h22 => ?_) (fun h22 => ?_)
              · have hF := gw_neg h22 hF
                refine gw_iload_n C d_Mo_ring_90 rfl 3 rfl ?_
                refine gw_iload_n C d_Mo_ring_91 rfl 0 rfl ?_
                refine gw_if_eq (tgt := 99) C d_Mo_ring_92 (by decide) (fun h23 => ?_) (fun h23 => ?_)
                · exact absurd h23 (by decide)
                · skip
                  refine gw_iconst (v := 1) C d_Mo_ring_95 (by decide) ?_
                  refine gw_goto (tgt := 100) C d_Mo_ring_96 (by decide) ?_
                  refine gw_iadd C d_Mo_ring_100 ?_
                  refine gw_istore_n (lv' := [(2, .int (x2 + 1)), (3, .int 1), (0, .ref (ad 0)), (1, .int x1), (4, .int x4)]) C d_Mo_ring_101 rfl (by decide) rfl ?_
                  refine gw_iinc (q := 4) (v := x4 + 1) (lv' := [(4, .int (x4 + 1)), (2, .int (x2 + 1)), (3, .int 1), (0, .ref (ad 0)), (1, .int x1)]) C d_Mo_ring_102 rfl rfl (by decide) rfl ?_
                  refine gw_goto (tgt := 25) C d_Mo_ring_105 (by decide) ?_
                  refine gw_less [3, 4, 1, 2, 0] rfl ?_
                  exact k_Mo_ring_25 l C hr n _ _ _ _ _ hF
              · have hF := gw_pos h22 hF
                refine gw_aload_n C d_Mo_ring_77 rfl 1 rfl ?_
                refine gw_iconst (v := 0) C d_Mo_ring_78 (by decide) ?_
                refine fp_Mo_87 C d_Mo_ring_79 ?_
                refine gw_aload_n C d_Mo_ring_82 rfl 1 rfl ?_
                refine fg_Mo_69 C d_Mo_ring_83 ?_
                refine gw_iload C d_Mo_ring_86 4 rfl ?_
                obtain ⟨h24, hF⟩ := gw_grd hF
                refine alwM_20 (v := σ.2.1 17 x4.toNatClampNeg) C h24 rfl d_Mo_ring_88 ?_
                cases hF
                exact gw_iret C hr rfl d_Mo_ring_89
set_option maxRecDepth 100000 in
set_option maxHeartbeats 4000000 in
theorem c_Mo_ring (l : Launch) (D : va_G) (cI cL cZ : ClassId) (ad : Nat → Nat) {σ : St} {x1 : Int32} {r : Int32} {σ' : St} (hF : F_Mo_ring σ x1 = some (r, σ')) : gw_M l y_Mo_ring w_Mo_ring rm_Mo_ring D gw_cl (gw_ty cI cL cZ) [.ref (ad 0), .int x1] (wM ad cI cL cZ σ) (wM ad cI cL cZ σ') (some (.int r)) := by
  refine gw_start (cc := b_Mo_ring) (nL := 5) (ret := (some .int)) (by decide) rfl (Nat.le_of_ble_eq_true rfl) (fun p e s m below meth c A C hr _ => ?_)
  refine gw_eq (lv' := [(0, .ref (ad 0)), (1, .int x1)]) rfl rfl ?_
  unfold F_Mo_ring at hF
  refine gw_aload_n C d_Mo_ring_0 rfl 0 rfl ?_
  refine fg_Mo_141 (v := σ.1 13) C rfl d_Mo_ring_1 ?_
  refine gw_iconst (v := 3) C d_Mo_ring_4 (by decide) ?_
  refine gw_icmp_ne (tgt := 12) C d_Mo_ring_5 (by decide) (fun h1 => ?_) (fun h1 => ?_)
  · have hF := gw_neg h1 hF
    refine gw_aload_n C d_Mo_ring_12 rfl 0 rfl ?_
    refine gw_iconst (v := 1) C d_Mo_ring_13 (by decide) ?_
    obtain ⟨r3, σ4, h2, hF⟩ := gw_bnd hF
    refine fc_Mo_94 (As := [.int 1]) (st := []) (σ' := σ4) C (c_Mo_thrownBy l D cI cL cZ ad h2) ⟨Nat.le_of_ble_eq_true rfl, Nat.le_of_ble_eq_true rfl⟩ ⟨Nat.le_of_ble_eq_true rfl, Nat.le_of_ble_eq_true rfl⟩ rfl (Nat.le_of_ble_eq_true rfl) d_Mo_ring_14 ?_
    cases hF
    exact gw_iret C hr rfl d_Mo_ring_17
  · have hF := gw_pos h1 hF
    refine gw_iload_n C d_Mo_ring_8 rfl 1 rfl ?_
    refine gw_if_ge (tgt := 18) C d_Mo_ring_9 (by decide) (fun h5 => ?_) (fun h5 => ?_)
    · have hF := gw_pos h5 hF
      refine gw_iconst (v := 0) C d_Mo_ring_18 (by decide) ?_
      refine gw_istore_n (lv' := [(2, .int 0), (0, .ref (ad 0)), (1, .int x1)]) C d_Mo_ring_19 rfl (by decide) rfl ?_
      refine gw_iconst (v := 0) C d_Mo_ring_20 (by decide) ?_
      refine gw_istore_n (lv' := [(3, .int 0), (2, .int 0), (0, .ref (ad 0)), (1, .int x1)]) C d_Mo_ring_21 rfl (by decide) rfl ?_
      refine gw_iconst (v := 0) C d_Mo_ring_22 (by decide) ?_
      refine gw_istore (lv' := [(4, .int 0), (3, .int 0), (2, .int 0), (0, .ref (ad 0)), (1, .int x1)]) C d_Mo_ring_23 (by decide) rfl ?_
      refine gw_less [3, 4, 2, 1, 0] rfl ?_
      exact k_Mo_ring_25 l C hr gw_N _ _ _ _ _ hF
    · have hF := gw_neg h5 hF
      refine gw_aload_n C d_Mo_ring_12 rfl 0 rfl ?_
      refine gw_iconst (v := 1) C d_Mo_ring_13 (by decide) ?_
      obtain ⟨r26, σ27, h25, hF⟩ := gw_bnd hF
      refine fc_Mo_94 (As := [.int 1]) (st := []) (σ' := σ27) C (c_Mo_thrownBy l D cI cL cZ ad h25) ⟨Nat.le_of_ble_eq_true rfl, Nat.le_of_ble_eq_true rfl⟩ ⟨Nat.le_of_ble_eq_true rfl, Nat.le_of_ble_eq_true rfl⟩ rfl (Nat.le_of_ble_eq_true rfl) d_Mo_ring_14 ?_
      cases hF
      exact gw_iret C hr rfl d_Mo_ring_17
set_option maxRecDepth 100000 in
set_option maxHeartbeats 4000000 in
theorem c_Mo_entry (l : Launch) (D : va_G) (cI cL cZ : ClassId) (ad : Nat → Nat) {σ : St} {x1 : Int32} {r : Int32} {σ' : St} (hF : F_Mo_entry σ x1 = some (r, σ')) : gw_M l y_Mo_entry w_Mo_entry rm_Mo_entry D gw_cl (gw_ty cI cL cZ) [.ref (ad 0), .int x1] (wM ad cI cL cZ σ) (wM ad cI cL cZ σ') (some (.int r)) := by
  refine gw_start (cc := b_Mo_entry) (nL := 2) (ret := (some .int)) (by decide) rfl (Nat.le_of_ble_eq_true rfl) (fun p e s m below meth c A C hr _ => ?_)
  refine gw_eq (lv' := [(0, .ref (ad 0)), (1, .int x1)]) rfl rfl ?_
  unfold F_Mo_entry at hF
  refine gw_aload_n C d_Mo_entry_0 rfl 0 rfl ?_
  refine fg_Mo_141 (v := σ.1 13) C rfl d_Mo_entry_1 ?_
  refine gw_if_eq (tgt := 19) C d_Mo_entry_4 (by decide) (fun h1 => ?_) (fun h1 => ?_)
  · have hF := gw_pos h1 hF
    refine gw_aload_n C d_Mo_entry_19 rfl 0 rfl ?_
    refine gw_iconst (v := 1) C d_Mo_entry_20 (by decide) ?_
    obtain ⟨r3, σ4, h2, hF⟩ := gw_bnd hF
    refine fc_Mo_94 (As := [.int 1]) (st := []) (σ' := σ4) C (c_Mo_thrownBy l D cI cL cZ ad h2) ⟨Nat.le_of_ble_eq_true rfl, Nat.le_of_ble_eq_true rfl⟩ ⟨Nat.le_of_ble_eq_true rfl, Nat.le_of_ble_eq_true rfl⟩ rfl (Nat.le_of_ble_eq_true rfl) d_Mo_entry_21 ?_
    cases hF
    exact gw_iret C hr rfl d_Mo_entry_24
  · have hF := gw_neg h1 hF
    refine gw_iload_n C d_Mo_entry_7 rfl 1 rfl ?_
    refine gw_if_lt (tgt := 19) C d_Mo_entry_8 (by decide) (fun h5 => ?_) (fun h5 => ?_)
    · have hF := gw_pos h5 hF
      refine gw_aload_n C d_Mo_entry_19 rfl 0 rfl ?_
      refine gw_iconst (v := 1) C d_Mo_entry_20 (by decide) ?_
      obtain ⟨r7, σ8, h6, hF⟩ := gw_bnd hF
      refine fc_Mo_94 (As := [.int 1]) (st := []) (σ' := σ8) C (c_Mo_thrownBy l D cI cL cZ ad h6) ⟨Nat.le_of_ble_eq_true rfl, Nat.le_of_ble_eq_true rfl⟩ ⟨Nat.le_of_ble_eq_true rfl, Nat.le_of_ble_eq_true rfl⟩ rfl (Nat.le_of_ble_eq_true rfl) d_Mo_entry_21 ?_
      cases hF
      exact gw_iret C hr rfl d_Mo_entry_24
    · have hF := gw_neg h5 hF
      refine gw_iload_n C d_Mo_entry_11 rfl 1 rfl ?_
      refine gw_aload_n C d_Mo_entry_12 rfl 0 rfl ?_
      refine fg_Mo_122 (v := σ.1 4) C rfl d_Mo_entry_13 ?_
      refine gw_icmp_lt (tgt := 25) C d_Mo_entry_16 (by decide) (fun h9 => ?_) (fun h9 => ?_)
      · have hF := gw_pos h9 hF
        refine gw_aload_n C d_Mo_entry_25 rfl 0 rfl ?_
        refine gw_iconst (v := 0) C d_Mo_entry_26 (by decide) ?_
        refine fp_Mo_87 C d_Mo_entry_27 ?_
        refine gw_aload_n C d_Mo_entry_30 rfl 0 rfl ?_
        refine fg_Mo_66 C d_Mo_entry_31 ?_
        refine gw_iload_n C d_Mo_entry_34 rfl 1 rfl ?_
        obtain ⟨h10, hF⟩ := gw_grd hF
        refine alwM_19 (v := σ.2.1 16 x1.toNatClampNeg) C h10 rfl d_Mo_entry_35 ?_
        cases hF
        exact gw_iret C hr rfl d_Mo_entry_36
      · have hF := gw_neg h9 hF
        refine gw_aload_n C d_Mo_entry_19 rfl 0 rfl ?_
        refine gw_iconst (v := 1) C d_Mo_entry_20 (by decide) ?_
        obtain ⟨r12, σ13, h11, hF⟩ := gw_bnd hF
        refine fc_Mo_94 (As := [.int 1]) (st := []) (σ' := σ13) C (c_Mo_thrownBy l D cI cL cZ ad h11) ⟨Nat.le_of_ble_eq_true rfl, Nat.le_of_ble_eq_true rfl⟩ ⟨Nat.le_of_ble_eq_true rfl, Nat.le_of_ble_eq_true rfl⟩ rfl (Nat.le_of_ble_eq_true rfl) d_Mo_entry_21 ?_
        cases hF
        exact gw_iret C hr rfl d_Mo_entry_24
set_option maxRecDepth 100000 in
set_option maxHeartbeats 4000000 in
theorem c_Mo_collect (l : Launch) (D : va_G) (cI cL cZ : ClassId) (ad : Nat → Nat) {σ : St} {r : Int32} {σ' : St} (hF : F_Mo_collect σ = some (r, σ')) : gw_M l y_Mo_collect w_Mo_collect rm_Mo_collect D gw_cl (gw_ty cI cL cZ) [.ref (ad 0)] (wM ad cI cL cZ σ) (wM ad cI cL cZ σ') (some (.int r)) := by
  refine gw_start (cc := b_Mo_collect) (nL := 1) (ret := (some .int)) (by decide) rfl (Nat.le_of_ble_eq_true rfl) (fun p e s m below meth c A C hr _ => ?_)
  refine gw_eq (lv' := [(0, .ref (ad 0))]) rfl rfl ?_
  unfold F_Mo_collect at hF
  refine gw_aload_n C d_Mo_collect_0 rfl 0 rfl ?_
  refine fg_Mo_141 (v := σ.1 13) C rfl d_Mo_collect_1 ?_
  refine gw_if_ne (tgt := 13) C d_Mo_collect_4 (by decide) (fun h1 => ?_) (fun h1 => ?_)
  · have hF := gw_neg h1 hF
    refine gw_aload_n C d_Mo_collect_13 rfl 0 rfl ?_
    refine gw_iconst (v := 0) C d_Mo_collect_14 (by decide) ?_
    refine fp_Mo_87 C d_Mo_collect_15 ?_
    refine gw_aload_n C d_Mo_collect_18 rfl 0 rfl ?_
    obtain ⟨r3, σ4, h2, hF⟩ := gw_bnd hF
    refine fc_Mo_173 (As := []) (st := []) (σ' := σ4) C (c_Mo_sweep l D cI cL cZ ad h2) ⟨Nat.le_of_ble_eq_true rfl, Nat.le_of_ble_eq_true rfl⟩ ⟨Nat.le_of_ble_eq_true rfl, Nat.le_of_ble_eq_true rfl⟩ rfl (Nat.le_of_ble_eq_true rfl) d_Mo_collect_19 ?_
    cases hF
    exact gw_iret C hr rfl d_Mo_collect_22
  · have hF := gw_pos h1 hF
    refine gw_aload_n C d_Mo_collect_7 rfl 0 rfl ?_
    refine gw_iconst (v := 1) C d_Mo_collect_8 (by decide) ?_
    obtain ⟨r6, σ7, h5, hF⟩ := gw_bnd hF
    refine fc_Mo_94 (As := [.int 1]) (st := []) (σ' := σ7) C (c_Mo_thrownBy l D cI cL cZ ad h5) ⟨Nat.le_of_ble_eq_true rfl, Nat.le_of_ble_eq_true rfl⟩ ⟨Nat.le_of_ble_eq_true rfl, Nat.le_of_ble_eq_true rfl⟩ rfl (Nat.le_of_ble_eq_true rfl) d_Mo_collect_9 ?_
    cases hF
    exact gw_iret C hr rfl d_Mo_collect_12
set_option maxRecDepth 100000 in
set_option maxHeartbeats 4000000 in
theorem c_Mo_every (l : Launch) (D : va_G) (cI cL cZ : ClassId) (ad : Nat → Nat) {σ : St} {x1 : Int32} {r : Int32} {σ' : St} (hF : F_Mo_every σ x1 = some (r, σ')) : gw_M l y_Mo_every w_Mo_every rm_Mo_every D gw_cl (gw_ty cI cL cZ) [.ref (ad 0), .int x1] (wM ad cI cL cZ σ) (wM ad cI cL cZ σ') (some (.int r)) := by
  refine gw_start (cc := b_Mo_every) (nL := 3) (ret := (some .int)) (by decide) rfl (Nat.le_of_ble_eq_true rfl) (fun p e s m below meth c A C hr _ => ?_)
  refine gw_eq (lv' := [(0, .ref (ad 0)), (1, .int x1)]) rfl rfl ?_
  unfold F_Mo_every at hF
  refine gw_iload_n C d_Mo_every_0 rfl 1 rfl ?_
  refine gw_if_lt (tgt := 11) C d_Mo_every_1 (by decide) (fun h1 => ?_) (fun h1 => ?_)
  · have hF := gw_pos h1 hF
    refine gw_aload_n C d_Mo_every_11 rfl 0 rfl ?_
    refine gw_iconst (v := 1) C d_Mo_every_12 (by decide) ?_
    obtain ⟨r3, σ4, h2, hF⟩ := gw_bnd hF
    refine fc_Mo_94 (As := [.int 1]) (st := []) (σ' := σ4) C (c_Mo_thrownBy l D cI cL cZ ad h2) ⟨Nat.le_of_ble_eq_true rfl, Nat.le_of_ble_eq_true rfl⟩ ⟨Nat.le_of_ble_eq_true rfl, Nat.le_of_ble_eq_true rfl⟩ rfl (Nat.le_of_ble_eq_true rfl) d_Mo_every_13 ?_
    cases hF
    exact gw_iret C hr rfl d_Mo_every_16
  · have hF := gw_neg h1 hF
    refine gw_iload_n C d_Mo_every_4 rfl 1 rfl ?_
    refine gw_sipush (v := 5000) C d_Mo_every_5 (by decide) ?_
    refine gw_icmp_le (tgt := 17) C d_Mo_every_8 (by decide) (fun h5 => ?_) (fun h5 => ?_)
    · have hF := gw_pos h5 hF
      refine gw_aload_n C d_Mo_every_17 rfl 0 rfl ?_
      refine gw_iconst (v := 0) C d_Mo_every_18 (by decide) ?_
      refine fp_Mo_87 C d_Mo_every_19 ?_
      refine gw_aload_n C d_Mo_every_22 rfl 0 rfl ?_
      refine fg_Mo_170 (v := σ.1 19) C rfl d_Mo_every_23 ?_
      refine gw_istore_n (lv' := [(2, .int (σ.1 19)), (0, .ref (ad 0)), (1, .int x1)]) C d_Mo_every_26 rfl (by decide) rfl ?_
      refine gw_aload_n C d_Mo_every_27 rfl 1 rfl ?_
      refine gw_iload_n C d_Mo_every_28 rfl 2 rfl ?_
      refine fp_Mo_170 C d_Mo_every_29 ?_
      refine gw_iload_n C d_Mo_every_32 rfl 0 rfl ?_
      cases hF
      exact gw_iret C hr rfl d_Mo_every_33
    · have hF := gw_neg h5 hF
      refine gw_aload_n C d_Mo_every_11 rfl 0 rfl ?_
      refine gw_iconst (v := 1) C d_Mo_every_12 (by decide) ?_
      obtain ⟨r7, σ8, h6, hF⟩ := gw_bnd hF
      refine fc_Mo_94 (As := [.int 1]) (st := []) (σ' := σ8) C (c_Mo_thrownBy l D cI cL cZ ad h6) ⟨Nat.le_of_ble_eq_true rfl, Nat.le_of_ble_eq_true rfl⟩ ⟨Nat.le_of_ble_eq_true rfl, Nat.le_of_ble_eq_true rfl⟩ rfl (Nat.le_of_ble_eq_true rfl) d_Mo_every_13 ?_
      cases hF
      exact gw_iret C hr rfl d_Mo_every_16
