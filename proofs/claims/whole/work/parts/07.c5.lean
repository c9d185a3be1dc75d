set_option maxRecDepth 100000 in
set_option maxHeartbeats 4000000 in
theorem k_Wa_step_72 {p : Program} (l : Launch) {e : Env} {s : State} {m : MethodId} {args : Array Value} {below : List Frame} {meth : Method} {c : Code} {D : va_G} {A : Nat → Prop} {cI cL cZ : ClassId} {ad : Nat → Nat} (C : gw_C p s m args meth c b_Wa_step 1 R_Wa D gw_cl (gw_ty cI cL cZ) A) (hr : meth.sig.returnType = none) {σ : St} {σ' : St} (hF : K_Wa_step_72 σ = some σ') : gw_W p l e rm_Wa_step s m args below meth c D gw_cl A (MQ below (gw_Qc D gw_cl (wC ad cI cL cZ σ') none A) args s 0 0 A) 0 0 1 (wC ad cI cL cZ σ) [(0, .ref (ad 1))] 72 [] := by
  unfold K_Wa_step_72 at hF
  refine gw_aload_n C d_Wa_step_72 rfl 0 rfl ?_
  refine fg_Wa_46 (v := σ.1 0) C rfl d_Wa_step_73 ?_
  refine gw_iconst (v := 1) C d_Wa_step_76 (by decide) ?_
  refine gw_icmp_ne (tgt := 103) C d_Wa_step_77 (by decide) (fun h6 => ?_) (fun h6 => ?_)
  · have hF := gw_neg h6 hF
    cases hF
    exact gw_vret C hr rfl d_Wa_step_103
  · have hF := gw_pos h6 hF
    refine gw_aload_n C d_Wa_step_80 rfl 0 rfl ?_
    refine fg_Wa_54 (v := σ.1 2) C rfl d_Wa_step_81 ?_
    refine gw_iconst (v := 1) C d_Wa_step_84 (by decide) ?_
    refine gw_icmp_ne (tgt := 103) C d_Wa_step_85 (by decide) (fun h7 => ?_) (fun h7 => ?_)
    · have hF := gw_neg h7 hF
      cases hF
      exact gw_vret C hr rfl d_Wa_step_103
    · have hF := gw_pos h7 hF
      refine gw_aload_n C d_Wa_step_88 rfl 0 rfl ?_
      refine fg_Wa_35 C d_Wa_step_89 ?_
      refine fg_Wa_111 (v := σ.1 17) C rfl d_Wa_step_92 ?_
      refine gw_if_ne (tgt := 103) C d_Wa_step_95 (by decide) (fun h8 => ?_) (fun h8 => ?_)
      · have hF := gw_neg h8 hF
        cases hF
        exact gw_vret C hr rfl d_Wa_step_103
      · have hF := gw_pos h8 hF
        refine gw_aload_n C d_Wa_step_98 rfl 0 rfl ?_
        refine gw_iconst (v := 2) C d_Wa_step_99 (by decide) ?_
        refine fp_Wa_46 C d_Wa_step_100 ?_
        cases hF
        exact gw_vret C hr rfl d_Wa_step_103
set_option maxRecDepth 100000 in
set_option maxHeartbeats 4000000 in
theorem k_Wa_step_24 {p : Program} (l : Launch) {e : Env} {s : State} {m : MethodId} {args : Array Value} {below : List Frame} {meth : Method} {c : Code} {D : va_G} {A : Nat → Prop} {cI cL cZ : ClassId} {ad : Nat → Nat} (C : gw_C p s m args meth c b_Wa_step 1 R_Wa D gw_cl (gw_ty cI cL cZ) A) (hr : meth.sig.returnType = none) {σ : St} {σ' : St} (hF : K_Wa_step_24 σ = some σ') : gw_W p l e rm_Wa_step s m args below meth c D gw_cl A (MQ below (gw_Qc D gw_cl (wC ad cI cL cZ σ') none A) args s 0 0 A) 0 0 1 (wC ad cI cL cZ σ) [(0, .ref (ad 1))] 24 [] := by
  unfold K_Wa_step_24 at hF
  refine gw_aload_n C d_Wa_step_24 rfl 0 rfl ?_
  refine gw_dup C d_Wa_step_25 rfl ?_
  refine fg_Wa_66 (v := σ.1 6) C rfl d_Wa_step_26 ?_
  refine gw_iconst (v := 1) C d_Wa_step_29 (by decide) ?_
  refine gw_iadd C d_Wa_step_30 ?_
  refine fp_Wa_66 C d_Wa_step_31 ?_
  refine gw_aload_n C d_Wa_step_34 rfl 0 rfl ?_
  refine fg_Wa_54 (v := σ.1 2) C rfl d_Wa_step_35 ?_
  refine gw_if_ne (tgt := 48) C d_Wa_step_38 (by decide) (fun h2 => ?_) (fun h2 => ?_)
  · have hF := gw_neg h2 hF
    refine gw_aload_n C d_Wa_step_48 rfl 0 rfl ?_
    refine fg_Wa_54 (v := σ.1 2) C rfl d_Wa_step_49 ?_
    refine gw_iconst (v := 1) C d_Wa_step_52 (by decide) ?_
    refine gw_icmp_ne (tgt := 63) C d_Wa_step_53 (by decide) (fun h3 => ?_) (fun h3 => ?_)
    · have hF := gw_neg h3 hF
      refine gw_aload_n C d_Wa_step_63 rfl 0 rfl ?_
      refine gw_aload_n C d_Wa_step_64 rfl 0 rfl ?_
      refine fg_Wa_63 (v := σ.1 5) C rfl d_Wa_step_65 ?_
      refine gw_iconst (v := 0) C d_Wa_step_68 (by decide) ?_
      obtain ⟨σ5, h4, hF⟩ := gw_bndv hF
      refine fc_Wa_107 (As := [.int (σ.1 5), .int 0]) (st := []) (σ' := σ5) C (c_Wa_need l D cI cL cZ ad h4) ⟨Nat.le_of_ble_eq_true rfl, Nat.le_of_ble_eq_true rfl⟩ ⟨Nat.le_of_ble_eq_true rfl, Nat.le_of_ble_eq_true rfl⟩ rfl (Nat.le_of_ble_eq_true rfl) d_Wa_step_69 ?_
      exact k_Wa_step_72 l C hr hF
    · have hF := gw_pos h3 hF
      refine gw_aload_n C d_Wa_step_56 rfl 0 rfl ?_
      obtain ⟨σ10, h9, hF⟩ := gw_bndv hF
      refine fc_Wa_104 (As := []) (st := []) (σ' := σ10) C (c_Wa_stepWithValue l D cI cL cZ ad h9) ⟨Nat.le_of_ble_eq_true rfl, Nat.le_of_ble_eq_true rfl⟩ ⟨Nat.le_of_ble_eq_true rfl, Nat.le_of_ble_eq_true rfl⟩ rfl (Nat.le_of_ble_eq_true rfl) d_Wa_step_57 ?_
      refine gw_goto (tgt := 72) C d_Wa_step_60 (by decide) ?_
      exact k_Wa_step_72 l C hr hF
  · have hF := gw_pos h2 hF
    refine gw_aload_n C d_Wa_step_41 rfl 0 rfl ?_
    obtain ⟨σ12, h11, hF⟩ := gw_bndv hF
    refine fc_Wa_101 (As := []) (st := []) (σ' := σ12) C (c_Wa_stepWithTerm l D cI cL cZ ad h11) ⟨Nat.le_of_ble_eq_true rfl, Nat.le_of_ble_eq_true rfl⟩ ⟨Nat.le_of_ble_eq_true rfl, Nat.le_of_ble_eq_true rfl⟩ rfl (Nat.le_of_ble_eq_true rfl) d_Wa_step_42 ?_
    refine gw_goto (tgt := 72) C d_Wa_step_45 (by decide) ?_
    exact k_Wa_step_72 l C hr hF
set_option maxRecDepth 100000 in
set_option maxHeartbeats 4000000 in
theorem c_Wa_step (l : Launch) (D : va_G) (cI cL cZ : ClassId) (ad : Nat → Nat) {σ : St} {σ' : St} (hF : F_Wa_step σ = some σ') : gw_M l y_Wa_step w_Wa_step rm_Wa_step D gw_cl (gw_ty cI cL cZ) [.ref (ad 1)] (wC ad cI cL cZ σ) (wC ad cI cL cZ σ') none := by
  refine gw_start (cc := b_Wa_step) (nL := 1) (ret := none) (by decide) rfl (Nat.le_of_ble_eq_true rfl) (fun p e s m below meth c A C hr _ => ?_)
  refine gw_eq (lv' := [(0, .ref (ad 1))]) rfl rfl ?_
  unfold F_Wa_step at hF
  refine gw_aload_n C d_Wa_step_0 rfl 0 rfl ?_
  refine fg_Wa_78 (v := σ.1 10) C rfl d_Wa_step_1 ?_
  refine gw_if_le (tgt := 24) C d_Wa_step_4 (by decide) (fun h1 => ?_) (fun h1 => ?_)
  · have hF := gw_pos h1 hF
    exact k_Wa_step_24 l C hr hF
  · have hF := gw_neg h1 hF
    refine gw_aload_n C d_Wa_step_7 rfl 0 rfl ?_
    refine fg_Wa_66 (v := σ.1 6) C rfl d_Wa_step_8 ?_
    refine gw_aload_n C d_Wa_step_11 rfl 0 rfl ?_
    refine fg_Wa_78 (v := σ.1 10) C rfl d_Wa_step_12 ?_
    obtain ⟨h13, hF⟩ := gw_grd hF
    refine gw_irem C d_Wa_step_15 h13 ?_
    refine gw_if_ne (tgt := 24) C d_Wa_step_16 (by decide) (fun h14 => ?_) (fun h14 => ?_)
    · have hF := gw_neg h14 hF
      exact k_Wa_step_24 l C hr hF
    · have hF := gw_pos h14 hF
      refine gw_aload_n C d_Wa_step_19 rfl 0 rfl ?_
      obtain ⟨r16, σ17, h15, hF⟩ := gw_bnd hF
      refine fc_Wa_97 (As := []) (st := []) (σ' := σ17) C (c_Wa_sweepUnreached l D cI cL cZ ad h15) ⟨Nat.le_of_ble_eq_true rfl, Nat.le_of_ble_eq_true rfl⟩ ⟨Nat.le_of_ble_eq_true rfl, Nat.le_of_ble_eq_true rfl⟩ rfl (Nat.le_of_ble_eq_true rfl) d_Wa_step_20 ?_
      refine gw_pop C d_Wa_step_23 rfl ?_
      exact k_Wa_step_24 l C hr hF
set_option maxRecDepth 100000 in
set_option maxHeartbeats 4000000 in
theorem c_Wa_tally (l : Launch) (D : va_G) (cI cL cZ : ClassId) (ad : Nat → Nat) {σ : St} {x1 : Int32} {r : Int32} {σ' : St} (hF : F_Wa_tally σ x1 = some (r, σ')) : gw_M l y_Wa_tally w_Wa_tally rm_Wa_tally D gw_cl (gw_ty cI cL cZ) [.ref (ad 1), .int x1] (wC ad cI cL cZ σ) (wC ad cI cL cZ σ') (some (.int r)) := by
  refine gw_start (cc := b_Wa_tally) (nL := 2) (ret := (some .int)) (by decide) rfl (Nat.le_of_ble_eq_true rfl) (fun p e s m below meth c A C hr _ => ?_)
  refine gw_eq (lv' := [(0, .ref (ad 1)), (1, .int x1)]) rfl rfl ?_
  unfold F_Wa_tally at hF
  refine gw_iload_n C d_Wa_tally_0 rfl 1 rfl ?_
  by_cases h1 : x1 = 0
  · have hF := gw_pos h1 hF
    refine gw_tableIn (tgt := 44) C d_Wa_tally_1 (by rw [h1]; decide) (by rw [h1]; decide) (by rw [h1]; rfl) (by decide) ?_
    refine gw_aload_n C d_Wa_tally_44 rfl 0 rfl ?_
    refine fg_Wa_66 (v := σ.1 6) C rfl d_Wa_tally_45 ?_
    cases hF
    exact gw_iret C hr rfl d_Wa_tally_48
  · have hF := gw_neg h1 hF
    by_cases h2 : x1 = 1
    · have hF := gw_pos h2 hF
      refine gw_tableIn (tgt := 49) C d_Wa_tally_1 (by rw [h2]; decide) (by rw [h2]; decide) (by rw [h2]; rfl) (by decide) ?_
      refine gw_aload_n C d_Wa_tally_49 rfl 0 rfl ?_
      refine fg_Wa_28 C d_Wa_tally_50 ?_
      refine fg_Wa_114 (v := σ.1 14) C rfl d_Wa_tally_53 ?_
      cases hF
      exact gw_iret C hr rfl d_Wa_tally_56
    · have hF := gw_neg h2 hF
      by_cases h3 : x1 = 2
      · have hF := gw_pos h3 hF
        refine gw_tableIn (tgt := 57) C d_Wa_tally_1 (by rw [h3]; decide) (by rw [h3]; decide) (by rw [h3]; rfl) (by decide) ?_
        refine gw_aload_n C d_Wa_tally_57 rfl 0 rfl ?_
        refine fg_Wa_28 C d_Wa_tally_58 ?_
        refine fg_Wa_117 (v := σ.1 15) C rfl d_Wa_tally_61 ?_
        cases hF
        exact gw_iret C hr rfl d_Wa_tally_64
      · have hF := gw_neg h3 hF
        by_cases h4 : x1 = 3
        · have hF := gw_pos h4 hF
          refine gw_tableIn (tgt := 65) C d_Wa_tally_1 (by rw [h4]; decide) (by rw [h4]; decide) (by rw [h4]; rfl) (by decide) ?_
          refine gw_aload_n C d_Wa_tally_65 rfl 0 rfl ?_
          refine fg_Wa_35 C d_Wa_tally_66 ?_
          refine fg_Wa_111 (v := σ.1 17) C rfl d_Wa_tally_69 ?_
          cases hF
          exact gw_iret C hr rfl d_Wa_tally_72
        · have hF := gw_neg h4 hF
          by_cases h5 : x1 = 4
          · have hF := gw_pos h5 hF
            refine gw_tableIn (tgt := 73) C d_Wa_tally_1 (by rw [h5]; decide) (by rw [h5]; decide) (by rw [h5]; rfl) (by decide) ?_
            refine gw_aload_n C d_Wa_tally_73 rfl 0 rfl ?_
            refine fg_Wa_35 C d_Wa_tally_74 ?_
            refine fg_Wa_120 (v := σ.1 18) C rfl d_Wa_tally_77 ?_
            cases hF
            exact gw_iret C hr rfl d_Wa_tally_80
          · have hF := gw_neg h5 hF
            by_cases h6 : x1 = 5
            · have hF := gw_pos h6 hF
              refine gw_tableIn (tgt := 81) C d_Wa_tally_1 (by rw [h6]; decide) (by rw [h6]; decide) (by rw [h6]; rfl) (by decide) ?_
              refine gw_aload_n C d_Wa_tally_81 rfl 0 rfl ?_
              refine fg_Wa_69 (v := σ.1 7) C rfl d_Wa_tally_82 ?_
              cases hF
              exact gw_iret C hr rfl d_Wa_tally_85
            · have hF := gw_neg h6 hF
              by_cases h7 : x1 = 6
              · have hF := gw_pos h7 hF
                refine gw_tableIn (tgt := 86) C d_Wa_tally_1 (by rw [h7]; decide) (by rw [h7]; decide) (by rw [h7]; rfl) (by decide) ?_
                refine gw_aload_n C d_Wa_tally_86 rfl 0 rfl ?_
                refine fg_Wa_72 (v := σ.1 8) C rfl d_Wa_tally_87 ?_
                cases hF
                exact gw_iret C hr rfl d_Wa_tally_90
              · have hF := gw_neg h7 hF
                refine gw_tableOut (tgt := 91) C d_Wa_tally_1 (gw_out7 h1 h2 h3 h4 h5 h6 h7) (by decide) ?_
                refine gw_aload_n C d_Wa_tally_91 rfl 0 rfl ?_
                refine fg_Wa_21 C d_Wa_tally_92 ?_
                refine fg_Wa_123 (v := σ.1 13) C rfl d_Wa_tally_95 ?_
                cases hF
                exact gw_iret C hr rfl d_Wa_tally_98
set_option maxRecDepth 100000 in
set_option maxHeartbeats 4000000 in
theorem k_Wa_ringThing_18 {p : Program} (l : Launch) {e : Env} {s : State} {m : MethodId} {args : Array Value} {below : List Frame} {meth : Method} {c : Code} {D : va_G} {A : Nat → Prop} {cI cL cZ : ClassId} {ad : Nat → Nat} (C : gw_C p s m args meth c b_Wa_ringThing 5 R_Wa D gw_cl (gw_ty cI cL cZ) A) (hr : meth.sig.returnType = (some .int)) {r : Int32} {σ' : St} : ∀ (n : Nat) (σ : St) (x1 : Int32) (x2 : Int32) (x3 : Int32) (hF : K_Wa_ringThing_18 n σ x1 x2 x3 = some (r, σ')), gw_W p l e rm_Wa_ringThing s m args below meth c D gw_cl A (MQ below (gw_Qc D gw_cl (wC ad cI cL cZ σ') (some (.int r)) A) args s 0 0 A) 0 0 5 (wC ad cI cL cZ σ) [(0, .ref (ad 1)), (1, .int x1), (2, .int x2), (3, .int x3)] 18 []
  | 0, σ, x1, x2, x3, hF => by cases hF
  | n + 1, σ, x1, x2, x3, hF => by
    unfold K_Wa_ringThing_18 at hF
    refine gw_iload_n C d_Wa_ringThing_18 rfl 3 rfl ?_
    refine gw_aload_n C d_Wa_ringThing_19 rfl 0 rfl ?_
    refine fg_Wa_35 C d_Wa_ringThing_20 ?_
    refine fg_Wa_111 (v := σ.1 17) C rfl d_Wa_ringThing_23 ?_
    refine gw_icmp_ge (tgt := 81) C d_Wa_ringThing_26 (by decide) (fun h3 => ?_) (fun h3 => ?_)
    · have hF := gw_pos h3 hF
      refine gw_iconst (v := (-1)) C d_Wa_ringThing_81 (by decide) ?_
      cases hF
      exact gw_iret C hr rfl d_Wa_ringThing_82
    · have hF := gw_neg h3 hF
      refine gw_aload_n C d_Wa_ringThing_29 rfl 0 rfl ?_
      refine fg_Wa_35 C d_Wa_ringThing_30 ?_
      refine gw_iload_n C d_Wa_ringThing_33 rfl 3 rfl ?_
      obtain ⟨r5, σ6, h4, hF⟩ := gw_bnd hF
      refine fc_Wa_124 (As := [.int x3]) (st := []) (σ' := σ6) C (c_Ro_kindOf l D cI cL cZ ad h4) ⟨Nat.le_of_ble_eq_true rfl, Nat.le_of_ble_eq_true rfl⟩ ⟨Nat.le_of_ble_eq_true rfl, Nat.le_of_ble_eq_true rfl⟩ rfl (Nat.le_of_ble_eq_true rfl) d_Wa_ringThing_34 ?_
      refine gw_if_ne (tgt := 75) C d_Wa_ringThing_37 (by decide) (fun h7 => ?_) (fun h7 => ?_)
      · have hF := gw_neg h7 hF
        refine gw_iinc (q := 3) (v := x3 + 1) (lv' := [(3, .int (x3 + 1)), (0, .ref (ad 1)), (1, .int x1), (2, .int x2)]) C d_Wa_ringThing_75 rfl rfl (by decide) rfl ?_
        refine gw_goto (tgt := 18) C d_Wa_ringThing_78 (by decide) ?_
        refine gw_less [1, 2, 3, 0] rfl ?_
        exact k_Wa_ringThing_18 l C hr n _ _ _ _ hF
      · have hF := gw_pos h7 hF
        refine gw_aload_n C d_Wa_ringThing_40 rfl 0 rfl ?_
        refine fg_Wa_35 C d_Wa_ringThing_41 ?_
        refine gw_iload_n C d_Wa_ringThing_44 rfl 3 rfl ?_
        obtain ⟨r9, σ10, h8, hF⟩ := gw_bnd hF
        refine fc_Wa_128 (As := [.int x3]) (st := []) (σ' := σ10) C (c_Ro_firstOf l D cI cL cZ ad h8) ⟨Nat.le_of_ble_eq_true rfl, Nat.le_of_ble_eq_true rfl⟩ ⟨Nat.le_of_ble_eq_true rfl, Nat.le_of_ble_eq_true rfl⟩ rfl (Nat.le_of_ble_eq_true rfl) d_Wa_ringThing_45 ?_
        refine gw_istore (lv' := [(4, .int r9), (0, .ref (ad 1)), (1, .int x1), (2, .int x2), (3, .int x3)]) C d_Wa_ringThing_48 (by decide) rfl ?_
        refine gw_iload_n C d_Wa_ringThing_50 rfl 3 rfl ?_
        refine gw_iconst (v := (-1)) C d_Wa_ringThing_51 (by decide) ?_
        refine gw_icmp_ne (tgt := 64) C d_Wa_ringThing_52 (by decide) (fun h11 => ?_) (fun h11 => ?_)
        · have hF := gw_neg h11 hF
          refine gw_iinc (q := 3) (v := x2 + 1) (lv' := [(2, .int (x2 + 1)), (4, .int r9), (0, .ref (ad 1)), (1, .int x1), (3, .int x3)]) C d_Wa_ringThing_64 rfl rfl (by decide) rfl ?_
          refine gw_iload_n C d_Wa_ringThing_67 rfl 0 rfl ?_
          refine gw_iload_n C d_Wa_ringThing_68 rfl 3 rfl ?_
          refine gw_icmp_ne (tgt := 75) C d_Wa_ringThing_69 (by decide) (fun h12 => ?_) (fun h12 => ?_)
          · have hF := gw_neg h12 hF
            refine gw_iinc (q := 4) (v := x3 + 1) (lv' := [(3, .int (x3 + 1)), (2, .int (x2 + 1)), (4, .int r9), (0, .ref (ad 1)), (1, .int x1)]) C d_Wa_ringThing_75 rfl rfl (by decide) rfl ?_
            refine gw_goto (tgt := 18) C d_Wa_ringThing_78 (by decide) ?_
            refine gw_less [3, 4, 1, 0] rfl ?_
            exact k_Wa_ringThing_18 l C hr n _ _ _ _ hF
          · have hF := gw_pos h12 hF
            refine gw_iload C d_Wa_ringThing_72 1 rfl ?_
            cases hF
            exact gw_iret C hr rfl d_Wa_ringThing_74
        · have hF := gw_pos h11 hF
          refine gw_iload C d_Wa_ringThing_55 0 rfl ?_
          refine gw_aload_n C d_Wa_ringThing_57 rfl 1 rfl ?_
          refine fg_Wa_75 (v := σ10.1 9) C rfl d_Wa_ringThing_58 ?_
          refine gw_icmp_ne (tgt := 67) C d_Wa_ringThing_61 (by decide) (fun h13 => ?_) (fun h13 => ?_)
          · have hF := gw_neg h13 hF
            refine gw_iload_n C d_Wa_ringThing_67 rfl 3 rfl ?_
            refine gw_iload_n C d_Wa_ringThing_68 rfl 2 rfl ?_
            refine gw_icmp_ne (tgt := 75) C d_Wa_ringThing_69 (by decide) (fun h14 => ?_) (fun h14 => ?_)
            · have hF := gw_neg h14 hF
              refine gw_iinc (q := 4) (v := x3 + 1) (lv' := [(3, .int (x3 + 1)), (4, .int r9), (0, .ref (ad 1)), (1, .int x1), (2, .int x2)]) C d_Wa_ringThing_75 rfl rfl (by decide) rfl ?_
              refine gw_goto (tgt := 18) C d_Wa_ringThing_78 (by decide) ?_
              refine gw_less [2, 3, 4, 0] rfl ?_
              exact k_Wa_ringThing_18 l C hr n _ _ _ _ hF
            · have hF := gw_pos h14 hF
              refine gw_iload C d_Wa_ringThing_72 0 rfl ?_
              cases hF
              exact gw_iret C hr rfl d_Wa_ringThing_74
          · have hF := gw_pos h13 hF
            refine gw_iinc (q := 3) (v := x2 + 1) (lv' := [(2, .int (x2 + 1)), (4, .int r9), (0, .ref (ad 1)), (1, .int x1), (3, .int x3)]) C d_Wa_ringThing_64 rfl rfl (by decide) rfl ?_
            refine gw_iload_n C d_Wa_ringThing_67 rfl 0 rfl ?_
            refine gw_iload_n C d_Wa_ringThing_68 rfl 3 rfl ?_
            refine gw_icmp_ne (tgt := 75) C d_Wa_ringThing_69 (by decide) (fun h15 => ?_) (fun h15 => ?_)
            · have hF := gw_neg h15 hF
              refine gw_iinc (q := 4) (v := x3 + 1) (lv' := [(3, .int (x3 + 1)), (2, .int (x2 + 1)), (4, .int r9), (0, .ref (ad 1)), (1, .int x1)]) C d_Wa_ringThing_75 rfl rfl (by decide) rfl ?_
              refine gw_goto (tgt := 18) C d_Wa_ringThing_78 (by decide) ?_
              refine gw_less [3, 4, 1, 0] rfl ?_
              exact k_Wa_ringThing_18 l C hr n _ _ _ _ hF
            · have hF := gw_pos h15 hF
              refine gw_iload C d_Wa_ringThing_72 1 rfl ?_
              cases hF
              exact gw_iret C hr rfl d_Wa_ringThing_74
set_option maxRecDepth 100000 in
set_option maxHeartbeats 4000000 in
theorem c_Wa_ringThing (l : Launch) (D : va_G) (cI cL cZ : ClassId) (ad : Nat → Nat) {σ : St} {x1 : Int32} {r : Int32} {σ' : St} (hF : F_Wa_ringThing σ x1 = some (r, σ')) : gw_M l y_Wa_ringThing w_Wa_ringThing rm_Wa_ringThing D gw_cl (gw_ty cI cL cZ) [.ref (ad 1), .int x1] (wC ad cI cL cZ σ) (wC ad cI cL cZ σ') (some (.int r)) := by
  refine gw_start (cc := b_Wa_ringThing) (nL := 5) (ret := (some .int)) (by decide) rfl (Nat.le_of_ble_eq_true rfl) (fun p e s m below meth c A C hr _ => ?_)
  refine gw_eq (lv' := [(0, .ref (ad 1)), (1, .int x1)]) rfl rfl ?_
  unfold F_Wa_ringThing at hF
  refine gw_aload_n C d_Wa_ringThing_0 rfl 0 rfl ?_
  refine fg_Wa_46 (v := σ.1 0) C rfl d_Wa_ringThing_1 ?_
  refine gw_iconst (v := 3) C d_Wa_ringThing_4 (by decide) ?_
  refine gw_icmp_ne (tgt := 12) C d_Wa_ringThing_5 (by decide) (fun h1 => ?_) (fun h1 => ?_)
  · have hF := gw_neg h1 hF
    refine gw_iconst (v := (-1)) C d_Wa_ringThing_12 (by decide) ?_
    cases hF
    exact gw_iret C hr rfl d_Wa_ringThing_13
  · have hF := gw_pos h1 hF
    refine gw_iload_n C d_Wa_ringThing_8 rfl 1 rfl ?_
    refine gw_if_ge (tgt := 14) C d_Wa_ringThing_9 (by decide) (fun h2 => ?_) (fun h2 => ?_)
    · have hF := gw_pos h2 hF
      refine gw_iconst (v := (-1)) C d_Wa_ringThing_14 (by decide) ?_
      refine gw_istore_n (lv' := [(2, .int (-1)), (0, .ref (ad 1)), (1, .int x1)]) C d_Wa_ringThing_15 rfl (by decide) rfl ?_
      refine gw_iconst (v := 0) C d_Wa_ringThing_16 (by decide) ?_
      refine gw_istore_n (lv' := [(3, .int 0), (2, .int (-1)), (0, .ref (ad 1)), (1, .int x1)]) C d_Wa_ringThing_17 rfl (by decide) rfl ?_
      refine gw_less [2, 3, 1, 0] rfl ?_
      exact k_Wa_ringThing_18 l C hr gw_N _ _ _ _ hF
    · have hF := gw_neg h2 hF
      refine gw_iconst (v := (-1)) C d_Wa_ringThing_12 (by decide) ?_
      cases hF
      exact gw_iret C hr rfl d_Wa_ringThing_13
set_option maxRecDepth 100000 in
set_option maxHeartbeats 4000000 in
theorem c_Te_isFull (l : Launch) (D : va_G) (cI cL cZ : ClassId) (ad : Nat → Nat) {σ : St} {r : Int32} {σ' : St} (hF : F_Te_isFull σ = some (r, σ')) : gw_M l y_Te_isFull w_Te_isFull rm_Te_isFull D gw_cl (gw_ty cI cL cZ) [.ref (ad 2)] (wC ad cI cL cZ σ) (wC ad cI cL cZ σ') (some (.int r)) := by
  refine gw_start (cc := b_Te_isFull) (nL := 1) (ret := (some .boolean)) (by decide) rfl (Nat.le_of_ble_eq_true rfl) (fun p e s m below meth c A C hr _ => ?_)
  refine gw_eq (lv' := [(0, .ref (ad 2))]) rfl rfl ?_
  unfold F_Te_isFull at hF
  refine gw_aload_n C d_Te_isFull_0 rfl 0 rfl ?_
  refine fg_Te_31 (v := σ.1 12) C rfl d_Te_isFull_1 ?_
  refine gw_sipush (v := 200) C d_Te_isFull_4 (by decide) ?_
  refine gw_icmp_lt (tgt := 14) C d_Te_isFull_7 (by decide) (fun h1 => ?_) (fun h1 => ?_)
  · have hF := gw_pos h1 hF
    refine gw_iconst (v := 0) C d_Te_isFull_14 (by decide) ?_
    cases hF
    exact gw_zret C hr rfl rfl d_Te_isFull_15
  · have hF := gw_neg h1 hF
    refine gw_iconst (v := 1) C d_Te_isFull_10 (by decide) ?_
    refine gw_goto (tgt := 15) C d_Te_isFull_11 (by decide) ?_
    cases hF
    exact gw_zret C hr rfl rfl d_Te_isFull_15
set_option maxRecDepth 100000 in
set_option maxHeartbeats 4000000 in
theorem c_Te_add (l : Launch) (D : va_G) (cI cL cZ : ClassId) (ad : Nat → Nat) {σ : St} {x1 : Int32} {x2 : Int32} {x3 : Int32} {x4 : Int32} {x5 : Int64} {x7 : Int32} {r : Int32} {σ' : St} (hF : F_Te_add σ x1 x2 x3 x4 x5 x7 = some (r, σ')) : gw_M l y_Te_add w_Te_add rm_Te_add D gw_cl (gw_ty cI cL cZ) [.ref (ad 2), .int x1, .int x2, .int x3, .int x4, .long x5, .int x7] (wC ad cI cL cZ σ) (wC ad cI cL cZ σ') (some (.int r)) := by
  refine gw_start (cc := b_Te_add) (nL := 9) (ret := (some .int)) (by decide) rfl (Nat.le_of_ble_eq_true rfl) (fun p e s m below meth c A C hr _ => ?_)
  refine gw_eq (lv' := [(0, .ref (ad 2)), (1, .int x1), (2, .int x2), (3, .int x3), (4, .int x4), (5, .long x5), (7, .int x7)]) rfl rfl ?_
  unfold F_Te_add at hF
  refine gw_aload_n C d_Te_add_0 rfl 0 rfl ?_
  refine fg_Te_31 (v := σ.1 12) C rfl d_Te_add_1 ?_
  refine gw_istore (lv' := [(8, .int (σ.1 12)), (0, .ref (ad 2)), (1, .int x1), (2, .int x2), (3, .int x3), (4, .int x4), (5, .long x5), (7, .int x7)]) C d_Te_add_4 (by decide) rfl ?_
  refine gw_iload C d_Te_add_6 0 rfl ?_
  refine gw_if_lt (tgt := 19) C d_Te_add_8 (by decide) (fun h1 => ?_) (fun h1 => ?_)
  · have hF := gw_pos h1 hF
    refine gw_iconst (v := (-1)) C d_Te_add_19 (by decide) ?_
    cases hF
    exact gw_iret C hr rfl d_Te_add_20
  · have hF := gw_neg h1 hF
    refine gw_iload C d_Te_add_11 0 rfl ?_
    refine gw_sipush (v := 200) C d_Te_add_13 (by decide) ?_
    refine gw_icmp_lt (tgt := 21) C d_Te_add_16 (by decide) (fun h2 => ?_) (fun h2 => ?_)
    · have hF := gw_pos h2 hF
      refine gw_aload_n C d_Te_add_21 rfl 1 rfl ?_
      refine fg_Te_9 C d_Te_add_22 ?_
      refine gw_iload C d_Te_add_25 0 rfl ?_
      refine gw_iload_n C d_Te_add_27 rfl 2 rfl ?_
      obtain ⟨h3, hF⟩ := gw_grd hF
      refine aswC_7 C h3 d_Te_add_28 ?_
      refine gw_aload_n C d_Te_add_29 rfl 1 rfl ?_
      refine fg_Te_15 C d_Te_add_30 ?_
      refine gw_iload C d_Te_add_33 0 rfl ?_
      refine gw_iload_n C d_Te_add_35 rfl 3 rfl ?_
      obtain ⟨h4, hF⟩ := gw_grd hF
      refine aswC_8 C h4 d_Te_add_36 ?_
      refine gw_aload_n C d_Te_add_37 rfl 1 rfl ?_
      refine fg_Te_18 C d_Te_add_38 ?_
      refine gw_iload C d_Te_add_41 0 rfl ?_
      refine gw_iload_n C d_Te_add_43 rfl 4 rfl ?_
      obtain ⟨h5, hF⟩ := gw_grd hF
      refine aswC_9 C h5 d_Te_add_44 ?_
      refine gw_aload_n C d_Te_add_45 rfl 1 rfl ?_
      refine fg_Te_21 C d_Te_add_46 ?_
      refine gw_iload C d_Te_add_49 0 rfl ?_
      refine gw_iload C d_Te_add_51 5 rfl ?_
      obtain ⟨h6, hF⟩ := gw_grd hF
      refine aswC_10 C h6 d_Te_add_53 ?_
      refine gw_aload_n C d_Te_add_54 rfl 1 rfl ?_
      refine fg_Te_24 C d_Te_add_55 ?_
      refine gw_iload C d_Te_add_58 0 rfl ?_
      refine gw_lload C d_Te_add_60 6 rfl ?_
      obtain ⟨h7, hF⟩ := gw_grd hF
      refine aswC_11 C h7 d_Te_add_62 ?_
      refine gw_aload_n C d_Te_add_63 rfl 1 rfl ?_
      refine fg_Te_28 C d_Te_add_64 ?_
      refine gw_iload C d_Te_add_67 0 rfl ?_
      refine gw_iload C d_Te_add_69 7 rfl ?_
      obtain ⟨h8, hF⟩ := gw_grd hF
      refine aswC_12 C h8 d_Te_add_71 ?_
      refine gw_aload_n C d_Te_add_72 rfl 1 rfl ?_
      refine gw_iload C d_Te_add_73 0 rfl ?_
      refine gw_iconst (v := 1) C d_Te_add_75 (by decide) ?_
      refine gw_iadd C d_Te_add_76 ?_
      refine fp_Te_31 C d_Te_add_77 ?_
      refine gw_iload C d_Te_add_80 0 rfl ?_
      cases hF
      exact gw_iret C hr rfl d_Te_add_82
    · have hF := gw_neg h2 hF
      refine gw_iconst (v := (-1)) C d_Te_add_19 (by decide) ?_
      cases hF
      exact gw_iret C hr rfl d_Te_add_20
set_option maxRecDepth 100000 in
set_option maxHeartbeats 4000000 in
theorem c_Te_addNumber (l : Launch) (D : va_G) (cI cL cZ : ClassId) (ad : Nat → Nat) {σ : St} {x1 : Int64} {r : Int32} {σ' : St} (hF : F_Te_addNumber σ x1 = some (r, σ')) : gw_M l y_Te_addNumber w_Te_addNumber rm_Te_addNumber D gw_cl (gw_ty cI cL cZ) [.ref (ad 2), .long x1] (wC ad cI cL cZ σ) (wC ad cI cL cZ σ') (some (.int r)) := by
  refine gw_start (cc := b_Te_addNumber) (nL := 3) (ret := (some .int)) (by decide) rfl (Nat.le_of_ble_eq_true rfl) (fun p e s m below meth c A C hr _ => ?_)
  refine gw_eq (lv' := [(0, .ref (ad 2)), (1, .long x1)]) rfl rfl ?_
  unfold F_Te_addNumber at hF
  refine gw_aload_n C d_Te_addNumber_0 rfl 0 rfl ?_
  refine gw_iconst (v := 0) C d_Te_addNumber_1 (by decide) ?_
  refine gw_iconst (v := (-1)) C d_Te_addNumber_2 (by decide) ?_
  refine gw_iconst (v := (-1)) C d_Te_addNumber_3 (by decide) ?_
  refine gw_iconst (v := (-1)) C d_Te_addNumber_4 (by decide) ?_
  refine gw_lload_n C d_Te_addNumber_5 rfl 1 rfl ?_
  refine gw_iconst (v := 0) C d_Te_addNumber_6 (by decide) ?_
  obtain ⟨r2, σ3, h1, hF⟩ := gw_bnd hF
  refine fc_Te_35 (As := [.int 0, .int (-1), .int (-1), .int (-1), .long x1, .int 0]) (st := []) (σ' := σ3) C (c_Te_add l D cI cL cZ ad h1) ⟨Nat.le_of_ble_eq_true rfl, Nat.le_of_ble_eq_true rfl⟩ ⟨Nat.le_of_ble_eq_true rfl, Nat.le_of_ble_eq_true rfl⟩ rfl (Nat.le_of_ble_eq_true rfl) d_Te_addNumber_7 ?_
  cases hF
  exact gw_iret C hr rfl d_Te_addNumber_10
set_option maxRecDepth 100000 in
set_option maxHeartbeats 4000000 in
theorem c_Te_addVariable (l : Launch) (D : va_G) (cI cL cZ : ClassId) (ad : Nat → Nat) {σ : St} {x1 : Int32} {r : Int32} {σ' : St} (hF : F_Te_addVariable σ x1 = some (r, σ')) : gw_M l y_Te_addVariable w_Te_addVariable rm_Te_addVariable D gw_cl (gw_ty cI cL cZ) [.ref (ad 2), .int x1] (wC ad cI cL cZ σ) (wC ad cI cL cZ σ') (some (.int r)) := by
  refine gw_start (cc := b_Te_addVariable) (nL := 2) (ret := (some .int)) (by decide) rfl (Nat.le_of_ble_eq_true rfl) (fun p e s m below meth c A C hr _ => ?_)
  refine gw_eq (lv' := [(0, .ref (ad 2)), (1, .int x1)]) rfl rfl ?_
  unfold F_Te_addVariable at hF
  refine gw_aload_n C d_Te_addVariable_0 rfl 0 rfl ?_
  refine gw_iconst (v := 1) C d_Te_addVariable_1 (by decide) ?_
  refine gw_iload_n C d_Te_addVariable_2 rfl 1 rfl ?_
  refine gw_iconst (v := (-1)) C d_Te_addVariable_3 (by decide) ?_
  refine gw_iconst (v := (-1)) C d_Te_addVariable_4 (by decide) ?_
  refine gw_lconst (v := 0) C d_Te_addVariable_5 rfl ?_
  refine gw_iload_n C d_Te_addVariable_6 rfl 1 rfl ?_
  refine gw_iconst (v := 1) C d_Te_addVariable_7 (by decide) ?_
  refine gw_iadd C d_Te_addVariable_8 ?_
  obtain ⟨r2, σ3, h1, hF⟩ := gw_bnd hF
  refine fc_Te_35 (As := [.int 1, .int x1, .int (-1), .int (-1), .long 0, .int (x1 + 1)]) (st := []) (σ' := σ3) C (c_Te_add l D cI cL cZ ad h1) ⟨Nat.le_of_ble_eq_true rfl, Nat.le_of_ble_eq_true rfl⟩ ⟨Nat.le_of_ble_eq_true rfl, Nat.le_of_ble_eq_true rfl⟩ rfl (Nat.le_of_ble_eq_true rfl) d_Te_addVariable_9 ?_
  cases hF
  exact gw_iret C hr rfl d_Te_addVariable_12
set_option maxRecDepth 100000 in
set_option maxHeartbeats 4000000 in
theorem c_Te_lackOf (l : Launch) (D : va_G) (cI cL cZ : ClassId) (ad : Nat → Nat) {σ : St} {x1 : Int32} {r : Int32} {σ' : St} (hF : F_Te_lackOf σ x1 = some (r, σ')) : gw_M l y_Te_lackOf w_Te_lackOf rm_Te_lackOf D gw_cl (gw_ty cI cL cZ) [.ref (ad 2), .int x1] (wC ad cI cL cZ σ) (wC ad cI cL cZ σ') (some (.int r)) := by
  refine gw_start (cc := b_Te_lackOf) (nL := 2) (ret := (some .int)) (by decide) rfl (Nat.le_of_ble_eq_true rfl) (fun p e s m below meth c A C hr _ => ?_)
  refine gw_eq (lv' := [(0, .ref (ad 2)), (1, .int x1)]) rfl rfl ?_
  unfold F_Te_lackOf at hF
  refine gw_aload_n C d_Te_lackOf_0 rfl 0 rfl ?_
  refine gw_iload_n C d_Te_lackOf_1 rfl 1 rfl ?_
  obtain ⟨r2, σ3, h1, hF⟩ := gw_bnd hF
  refine fc_Te_52 (As := [.int x1]) (st := []) (σ' := σ3) C (c_Te_has l D cI cL cZ ad h1) ⟨Nat.le_of_ble_eq_true rfl, Nat.le_of_ble_eq_true rfl⟩ ⟨Nat.le_of_ble_eq_true rfl, Nat.le_of_ble_eq_true rfl⟩ rfl (Nat.le_of_ble_eq_true rfl) d_Te_lackOf_2 ?_
  refine gw_if_eq (tgt := 17) C d_Te_lackOf_5 (by decide) (fun h4 => ?_) (fun h4 => ?_)
  · have hF := gw_pos h4 hF
    refine gw_iconst (v := 0) C d_Te_lackOf_17 (by decide) ?_
    cases hF
    exact gw_iret C hr rfl d_Te_lackOf_18
  · have hF := gw_neg h4 hF
    refine gw_aload_n C d_Te_lackOf_8 rfl 0 rfl ?_
    refine fg_Te_28 C d_Te_lackOf_9 ?_
    refine gw_iload_n C d_Te_lackOf_12 rfl 1 rfl ?_
    obtain ⟨h5, hF⟩ := gw_grd hF
    refine alwC_12 (v := σ3.2.1 4 x1.toNatClampNeg) C h5 rfl d_Te_lackOf_13 ?_
    refine gw_goto (tgt := 18) C d_Te_lackOf_14 (by decide) ?_
    cases hF
    exact gw_iret C hr rfl d_Te_lackOf_18
set_option maxRecDepth 100000 in
set_option maxHeartbeats 4000000 in
theorem c_Te_oneLess (l : Launch) (D : va_G) (cI cL cZ : ClassId) (ad : Nat → Nat) {σ : St} {x0 : Int32} {r : Int32} {σ' : St} (hF : F_Te_oneLess σ x0 = some (r, σ')) : gw_M l y_Te_oneLess w_Te_oneLess rm_Te_oneLess D gw_cl (gw_ty cI cL cZ) [.int x0] (wC ad cI cL cZ σ) (wC ad cI cL cZ σ') (some (.int r)) := by
  refine gw_start (cc := b_Te_oneLess) (nL := 1) (ret := (some .int)) (by decide) rfl (Nat.le_of_ble_eq_true rfl) (fun p e s m below meth c A C hr _ => ?_)
  refine gw_eq (lv' := [(0, .int x0)]) rfl rfl ?_
  unfold F_Te_oneLess at hF
  refine gw_iload_n C d_Te_oneLess_0 rfl 0 rfl ?_
  refine gw_iconst (v := 1) C d_Te_oneLess_1 (by decide) ?_
  refine gw_isub C d_Te_oneLess_2 ?_
  refine gw_iconst (v := 0) C d_Te_oneLess_3 (by decide) ?_
  refine fm_Te_46 C (Nat.le_of_ble_eq_true rfl) (Nat.le_of_ble_eq_true rfl) (Nat.le_of_ble_eq_true rfl) (Nat.le_of_ble_eq_true rfl) d_Te_oneLess_4 ?_
  cases hF
  exact gw_iret C hr rfl d_Te_oneLess_7
set_option maxRecDepth 100000 in
set_option maxHeartbeats 4000000 in
theorem c_Te_addOne (l : Launch) (D : va_G) (cI cL cZ : ClassId) (ad : Nat → Nat) {σ : St} {x1 : Int32} {x2 : Int32} {r : Int32} {σ' : St} (hF : F_Te_addOne σ x1 x2 = some (r, σ')) : gw_M l y_Te_addOne w_Te_addOne rm_Te_addOne D gw_cl (gw_ty cI cL cZ) [.ref (ad 2), .int x1, .int x2] (wC ad cI cL cZ σ) (wC ad cI cL cZ σ') (some (.int r)) := by
  refine gw_start (cc := b_Te_addOne) (nL := 3) (ret := (some .int)) (by decide) rfl (Nat.le_of_ble_eq_true rfl) (fun p e s m below meth c A C hr _ => ?_)
  refine gw_eq (lv' := [(0, .ref (ad 2)), (1, .int x1), (2, .int x2)]) rfl rfl ?_
  unfold F_Te_addOne at hF
  refine gw_iload_n C d_Te_addOne_0 rfl 1 rfl ?_
  refine gw_if_ne (tgt := 22) C d_Te_addOne_1 (by decide) (fun h1 => ?_) (fun h1 => ?_)
  · have hF := gw_neg h1 hF
    refine gw_aload_n C d_Te_addOne_22 rfl 0 rfl ?_
    refine gw_iload_n C d_Te_addOne_23 rfl 1 rfl ?_
    refine gw_iconst (v := 1) C d_Te_addOne_24 (by decide) ?_
    refine gw_icmp_ne (tgt := 32) C d_Te_addOne_25 (by decide) (fun h2 => ?_) (fun h2 => ?_)
    · have hF := gw_neg h2 hF
      refine gw_iconst (v := 4) C d_Te_addOne_32 (by decide) ?_
      refine gw_iload_n C d_Te_addOne_33 rfl 2 rfl ?_
      refine gw_iconst (v := (-1)) C d_Te_addOne_34 (by decide) ?_
      refine gw_iconst (v := (-1)) C d_Te_addOne_35 (by decide) ?_
      refine gw_lconst (v := 0) C d_Te_addOne_36 rfl ?_
      refine gw_aload_n C d_Te_addOne_37 rfl 0 rfl ?_
      refine gw_iload_n C d_Te_addOne_38 rfl 2 rfl ?_
      obtain ⟨r4, σ5, h3, hF⟩ := gw_bnd hF
      refine fc_Te_39 (As := [.int x2]) (st := [.long 0, .int (-1), .int (-1), .int x2, .int 4, .ref (ad 2)]) (σ' := σ5) C (c_Te_lackOf l D cI cL cZ ad h3) ⟨Nat.le_of_ble_eq_true rfl, Nat.le_of_ble_eq_true rfl⟩ ⟨Nat.le_of_ble_eq_true rfl, Nat.le_of_ble_eq_true rfl⟩ rfl (Nat.le_of_ble_eq_true rfl) d_Te_addOne_39 ?_
      obtain ⟨r7, σ8, h6, hF⟩ := gw_bnd hF
      refine fc_Te_35 (As := [.int 4, .int x2, .int (-1), .int (-1), .long 0, .int r4]) (st := []) (σ' := σ8) C (c_Te_add l D cI cL cZ ad h6) ⟨Nat.le_of_ble_eq_true rfl, Nat.le_of_ble_eq_true rfl⟩ ⟨Nat.le_of_ble_eq_true rfl, Nat.le_of_ble_eq_true rfl⟩ rfl (Nat.le_of_ble_eq_true rfl) d_Te_addOne_42 ?_
      cases hF
      exact gw_iret C hr rfl d_Te_addOne_45
    · have hF := gw_pos h2 hF
      refine gw_iconst (v := 3) C d_Te_addOne_28 (by decide) ?_
      refine gw_goto (tgt := 33) C d_Te_addOne_29 (by decide) ?_
      refine gw_iload_n C d_Te_addOne_33 rfl 2 rfl ?_
      refine gw_iconst (v := (-1)) C d_Te_addOne_34 (by decide) ?_
      refine gw_iconst (v := (-1)) C d_Te_addOne_35 (by decide) ?_
      refine gw_lconst (v := 0) C d_Te_addOne_36 rfl ?_
      refine gw_aload_n C d_Te_addOne_37 rfl 0 rfl ?_
      refine gw_iload_n C d_Te_addOne_38 rfl 2 rfl ?_
      obtain ⟨r10, σ11, h9, hF⟩ := gw_bnd hF
      refine fc_Te_39 (As := [.int x2]) (st := [.long 0, .int (-1), .int (-1), .int x2, .int 3, .ref (ad 2)]) (σ' := σ11) C (c_Te_lackOf l D cI cL cZ ad h9) ⟨Nat.le_of_ble_eq_true rfl, Nat.le_of_ble_eq_true rfl⟩ ⟨Nat.le_of_ble_eq_true rfl, Nat.le_of_ble_eq_true rfl⟩ rfl (Nat.le_of_ble_eq_true rfl) d_Te_addOne_39 ?_
      obtain ⟨r13, σ14, h12, hF⟩ := gw_bnd hF
      refine fc_Te_35 (As := [.int 3, .int x2, .int (-1), .int (-1), .long 0, .int r10]) (st := []) (σ' := σ14) C (c_Te_add l D cI cL cZ ad h12) ⟨Nat.le_of_ble_eq_true rfl, Nat.le_of_ble_eq_true rfl⟩ ⟨Nat.le_of_ble_eq_true rfl, Nat.le_of_ble_eq_true rfl⟩ rfl (Nat.le_of_ble_eq_true rfl) d_Te_addOne_42 ?_
      cases hF
      exact gw_iret C hr rfl d_Te_addOne_45
  · have hF := gw_pos h1 hF
    refine gw_aload_n C d_Te_addOne_4 rfl 0 rfl ?_
    refine gw_iconst (v := 2) C d_Te_addOne_5 (by decide) ?_
    refine gw_iload_n C d_Te_addOne_6 rfl 2 rfl ?_
    refine gw_iconst (v := (-1)) C d_Te_addOne_7 (by decide) ?_
    refine gw_iconst (v := (-1)) C d_Te_addOne_8 (by decide) ?_
    refine gw_lconst (v := 0) C d_Te_addOne_9 rfl ?_
    refine gw_aload_n C d_Te_addOne_10 rfl 0 rfl ?_
    refine gw_iload_n C d_Te_addOne_11 rfl 2 rfl ?_
    obtain ⟨r16, σ17, h15, hF⟩ := gw_bnd hF
    refine fc_Te_39 (As := [.int x2]) (st := [.long 0, .int (-1), .int (-1), .int x2, .int 2, .ref (ad 2)]) (σ' := σ17) C (c_Te_lackOf l D cI cL cZ ad h15) ⟨Nat.le_of_ble_eq_true rfl, Nat.le_of_ble_eq_true rfl⟩ ⟨Nat.le_of_ble_eq_true rfl, Nat.le_of_ble_eq_true rfl⟩ rfl (Nat.le_of_ble_eq_true rfl) d_Te_addOne_12 ?_
    obtain ⟨r19, σ20, h18, hF⟩ := gw_bnd hF
    refine fc_Te_43 (As := [.int r16]) (st := [.long 0, .int (-1), .int (-1), .int x2, .int 2, .ref (ad 2)]) (σ' := σ20) C (c_Te_oneLess l D cI cL cZ ad h18) ⟨Nat.le_of_ble_eq_true rfl, Nat.le_of_ble_eq_true rfl⟩ ⟨Nat.le_of_ble_eq_true rfl, Nat.le_of_ble_eq_true rfl⟩ rfl (Nat.le_of_ble_eq_true rfl) d_Te_addOne_15 ?_
    obtain ⟨r22, σ23, h21, hF⟩ := gw_bnd hF
    refine fc_Te_35 (As := [.int 2, .int x2, .int (-1), .int (-1), .long 0, .int r19]) (st := []) (σ' := σ23) C (c_Te_add l D cI cL cZ ad h21) ⟨Nat.le_of_ble_eq_true rfl, Nat.le_of_ble_eq_true rfl⟩ ⟨Nat.le_of_ble_eq_true rfl, Nat.le_of_ble_eq_true rfl⟩ rfl (Nat.le_of_ble_eq_true rfl) d_Te_addOne_18 ?_
    cases hF
    exact gw_iret C hr rfl d_Te_addOne_21
set_option maxRecDepth 100000 in
set_option maxHeartbeats 4000000 in
theorem c_Te_addTwo (l : Launch) (D : va_G) (cI cL cZ : ClassId) (ad : Nat → Nat) {σ : St} {x1 : Int32} {x2 : Int32} {x3 : Int32} {r : Int32} {σ' : St} (hF : F_Te_addTwo σ x1 x2 x3 = some (r, σ')) : gw_M l y_Te_addTwo w_Te_addTwo rm_Te_addTwo D gw_cl (gw_ty cI cL cZ) [.ref (ad 2), .int x1, .int x2, .int x3] (wC ad cI cL cZ σ) (wC ad cI cL cZ σ') (some (.int r)) := by
  refine gw_start (cc := b_Te_addTwo) (nL := 5) (ret := (some .int)) (by decide) rfl (Nat.le_of_ble_eq_true rfl) (fun p e s m below meth c A C hr _ => ?_)
  refine gw_eq (lv' := [(0, .ref (ad 2)), (1, .int x1), (2, .int x2), (3, .int x3)]) rfl rfl ?_
  unfold F_Te_addTwo at hF
  refine gw_aload_n C d_Te_addTwo_0 rfl 0 rfl ?_
  refine gw_iload_n C d_Te_addTwo_1 rfl 2 rfl ?_
  obtain ⟨r2, σ3, h1, hF⟩ := gw_bnd hF
  refine fc_Te_39 (As := [.int x2]) (st := []) (σ' := σ3) C (c_Te_lackOf l D cI cL cZ ad h1) ⟨Nat.le_of_ble_eq_true rfl, Nat.le_of_ble_eq_true rfl⟩ ⟨Nat.le_of_ble_eq_true rfl, Nat.le_of_ble_eq_true rfl⟩ rfl (Nat.le_of_ble_eq_true rfl) d_Te_addTwo_2 ?_
  refine gw_aload_n C d_Te_addTwo_5 rfl 0 rfl ?_
  refine gw_iload_n C d_Te_addTwo_6 rfl 3 rfl ?_
  obtain ⟨r5, σ6, h4, hF⟩ := gw_bnd hF
  refine fc_Te_39 (As := [.int x3]) (st := [.int r2]) (σ' := σ6) C (c_Te_lackOf l D cI cL cZ ad h4) ⟨Nat.le_of_ble_eq_true rfl, Nat.le_of_ble_eq_true rfl⟩ ⟨Nat.le_of_ble_eq_true rfl, Nat.le_of_ble_eq_true rfl⟩ rfl (Nat.le_of_ble_eq_true rfl) d_Te_addTwo_7 ?_
  refine fm_Te_46 C (Nat.le_of_ble_eq_true rfl) (Nat.le_of_ble_eq_true rfl) (Nat.le_of_ble_eq_true rfl) (Nat.le_of_ble_eq_true rfl) d_Te_addTwo_10 ?_
  refine gw_istore (lv' := [(4, .int (if r2 < r5 then r5 else r2)), (0, .ref (ad 2)), (1, .int x1), (2, .int x2), (3, .int x3)]) C d_Te_addTwo_13 (by decide) rfl ?_
  refine gw_iload_n C d_Te_addTwo_15 rfl 2 rfl ?_
  by_cases h7 : x1 = 0
  · have hF := gw_pos h7 hF
    refine gw_tableIn (tgt := 44) C d_Te_addTwo_16 (by rw [h7]; decide) (by rw [h7]; decide) (by rw [h7]; rfl) (by decide) ?_
    refine gw_aload_n C d_Te_addTwo_44 rfl 1 rfl ?_
    refine gw_iconst (v := 5) C d_Te_addTwo_45 (by decide) ?_
    refine gw_iload_n C d_Te_addTwo_46 rfl 3 rfl ?_
    refine gw_iload_n C d_Te_addTwo_47 rfl 4 rfl ?_
    refine gw_iconst (v := (-1)) C d_Te_addTwo_48 (by decide) ?_
    refine gw_lconst (v := 0) C d_Te_addTwo_49 rfl ?_
    refine gw_iload C d_Te_addTwo_50 0 rfl ?_
    obtain ⟨r9, σ10, h8, hF⟩ := gw_bnd hF
    refine fc_Te_35 (As := [.int 5, .int x2, .int x3, .int (-1), .long 0, .int (if r2 < r5 then r5 else r2)]) (st := []) (σ' := σ10) C (c_Te_add l D cI cL cZ ad h8) ⟨Nat.le_of_ble_eq_true rfl, Nat.le_of_ble_eq_true rfl⟩ ⟨Nat.le_of_ble_eq_true rfl, Nat.le_of_ble_eq_true rfl⟩ rfl (Nat.le_of_ble_eq_true rfl) d_Te_addTwo_52 ?_
    cases hF
    exact gw_iret C hr rfl d_Te_addTwo_55
  · have hF := gw_neg h7 hF
    by_cases h11 : x1 = 1
    · have hF := gw_pos h11 hF
      refine gw_tableIn (tgt := 56) C d_Te_addTwo_16 (by rw [h11]; decide) (by rw [h11]; decide) (by rw [h11]; rfl) (by decide) ?_
      refine gw_aload_n C d_Te_addTwo_56 rfl 1 rfl ?_
      refine gw_bipush (v := 6) C d_Te_addTwo_57 (by decide) ?_
      refine gw_iload_n C d_Te_addTwo_59 rfl 3 rfl ?_
      refine gw_iload_n C d_Te_addTwo_60 rfl 4 rfl ?_
      refine gw_iconst (v := (-1)) C d_Te_addTwo_61 (by decide) ?_
      refine gw_lconst (v := 0) C d_Te_addTwo_62 rfl ?_
      refine gw_iload C d_Te_addTwo_63 0 rfl ?_
      obtain ⟨r13, σ14, h12, hF⟩ := gw_bnd hF
      refine fc_Te_43 (As := [.int (if r2 < r5 then r5 else r2)]) (st := [.long 0, .int (-1), .int x3, .int x2, .int 6, .ref (ad 2)]) (σ' := σ14) C (c_Te_oneLess l D cI cL cZ ad h12) ⟨Nat.le_of_ble_eq_true rfl, Nat.le_of_ble_eq_true rfl⟩ ⟨Nat.le_of_ble_eq_true rfl, Nat.le_of_ble_eq_true rfl⟩ rfl (Nat.le_of_ble_eq_true rfl) d_Te_addTwo_65 ?_
      obtain ⟨r16, σ17, h15, hF⟩ := gw_bnd hF
      refine fc_Te_35 (As := [.int 6, .int x2, .int x3, .int (-1), .long 0, .int r13]) (st := []) (σ' := σ17) C (c_Te_add l D cI cL cZ ad h15) ⟨Nat.le_of_ble_eq_true rfl, Nat.le_of_ble_eq_true rfl⟩ ⟨Nat.le_of_ble_eq_true rfl, Nat.le_of_ble_eq_true rfl⟩ rfl (Nat.le_of_ble_eq_true rfl) d_Te_addTwo_68 ?_
      cases hF
      exact gw_iret C hr rfl d_Te_addTwo_71
    · have hF := gw_neg h11 hF
      by_cases h18 : x1 = 2
      · have hF := gw_pos h18 hF
        refine gw_tableIn (tgt := 72) C d_Te_addTwo_16 (by rw [h18]; decide) (by rw [h18]; decide) (by rw [h18]; rfl) (by decide) ?_
        refine gw_aload_n C d_Te_addTwo_72 rfl 1 rfl ?_
        refine gw_bipush (v := 7) C d_Te_addTwo_73 (by decide) ?_
        refine gw_iload_n C d_Te_addTwo_75 rfl 3 rfl ?_
        refine gw_iload_n C d_Te_addTwo_76 rfl 4 rfl ?_
        refine gw_iconst (v := (-1)) C d_Te_addTwo_77 (by decide) ?_
        refine gw_lconst (v := 0) C d_Te_addTwo_78 rfl ?_
        refine gw_iload C d_Te_addTwo_79 0 rfl ?_
        obtain ⟨r20, σ21, h19, hF⟩ := gw_bnd hF
        refine fc_Te_35 (As := [.int 7, .int x2, .int x3, .int (-1), .long 0, .int (if r2 < r5 then r5 else r2)]) (st := []) (σ' := σ21) C (c_Te_add l D cI cL cZ ad h19) ⟨Nat.le_of_ble_eq_true rfl, Nat.le_of_ble_eq_true rfl⟩ ⟨Nat.le_of_ble_eq_true rfl, Nat.le_of_ble_eq_true rfl⟩ rfl (Nat.le_of_ble_eq_true rfl) d_Te_addTwo_81 ?_
        cases hF
        exact gw_iret C hr rfl d_Te_addTwo_84
      · have hF := gw_neg h18 hF
        refine gw_tableOut (tgt := 85) C d_Te_addTwo_16 (gw_out3 h7 h11 h18) (by decide) ?_
        refine gw_aload_n C d_Te_addTwo_85 rfl 1 rfl ?_
        refine gw_bipush (v := 8) C d_Te_addTwo_86 (by decide) ?_
        refine gw_iload_n C d_Te_addTwo_88 rfl 3 rfl ?_
        refine gw_iload_n C d_Te_addTwo_89 rfl 4 rfl ?_
        refine gw_iload_n C d_Te_addTwo_90 rfl 2 rfl ?_
        refine gw_iconst (v := 3) C d_Te_addTwo_91 (by decide) ?_
        refine gw_isub C d_Te_addTwo_92 ?_
        refine gw_lconst (v := 0) C d_Te_addTwo_93 rfl ?_
        refine gw_iload C d_Te_addTwo_94 0 rfl ?_
        obtain ⟨r23, σ24, h22, hF⟩ := gw_bnd hF
        refine fc_Te_35 (As := [.int 8, .int x2, .int x3, .int (x1 - 3), .long 0, .int (if r2 < r5 then r5 else r2)]) (st := []) (σ' := σ24) C (c_Te_add l D cI cL cZ ad h22) ⟨Nat.le_of_ble_eq_true rfl, Nat.le_of_ble_eq_true rfl⟩ ⟨Nat.le_of_ble_eq_true rfl, Nat.le_of_ble_eq_true rfl⟩ rfl (Nat.le_of_ble_eq_true rfl) d_Te_addTwo_96 ?_
        cases hF
        exact gw_iret C hr rfl d_Te_addTwo_99
set_option maxRecDepth 100000 in
set_option maxHeartbeats 4000000 in
theorem c_Te_addChoose (l : Launch) (D : va_G) (cI cL cZ : ClassId) (ad : Nat → Nat) {σ : St} {x1 : Int32} {x2 : Int32} {x3 : Int32} {r : Int32} {σ' : St} (hF : F_Te_addChoose σ x1 x2 x3 = some (r, σ')) : gw_M l y_Te_addChoose w_Te_addChoose rm_Te_addChoose D gw_cl (gw_ty cI cL cZ) [.ref (ad 2), .int x1, .int x2, .int x3] (wC ad cI cL cZ σ) (wC ad cI cL cZ σ') (some (.int r)) := by
  refine gw_start (cc := b_Te_addChoose) (nL := 5) (ret := (some .int)) (by decide) rfl (Nat.le_of_ble_eq_true rfl) (fun p e s m below meth c A C hr _ => ?_)
  refine gw_eq (lv' := [(0, .ref (ad 2)), (1, .int x1), (2, .int x2), (3, .int x3)]) rfl rfl ?_
  unfold F_Te_addChoose at hF
  refine gw_aload_n C d_Te_addChoose_0 rfl 0 rfl ?_
  refine gw_iload_n C d_Te_addChoose_1 rfl 1 rfl ?_
  obtain ⟨r2, σ3, h1, hF⟩ := gw_bnd hF
  refine fc_Te_39 (As := [.int x1]) (st := []) (σ' := σ3) C (c_Te_lackOf l D cI cL cZ ad h1) ⟨Nat.le_of_ble_eq_true rfl, Nat.le_of_ble_eq_true rfl⟩ ⟨Nat.le_of_ble_eq_true rfl, Nat.le_of_ble_eq_true rfl⟩ rfl (Nat.le_of_ble_eq_true rfl) d_Te_addChoose_2 ?_
  refine gw_aload_n C d_Te_addChoose_5 rfl 0 rfl ?_
  refine gw_iload_n C d_Te_addChoose_6 rfl 2 rfl ?_
  obtain ⟨r5, σ6, h4, hF⟩ := gw_bnd hF
  refine fc_Te_39 (As := [.int x2]) (st := [.int r2]) (σ' := σ6) C (c_Te_lackOf l D cI cL cZ ad h4) ⟨Nat.le_of_ble_eq_true rfl, Nat.le_of_ble_eq_true rfl⟩ ⟨Nat.le_of_ble_eq_true rfl, Nat.le_of_ble_eq_true rfl⟩ rfl (Nat.le_of_ble_eq_true rfl) d_Te_addChoose_7 ?_
  refine gw_aload_n C d_Te_addChoose_10 rfl 0 rfl ?_
  refine gw_iload_n C d_Te_addChoose_11 rfl 3 rfl ?_
  obtain ⟨r8, σ9, h7, hF⟩ := gw_bnd hF
  refine fc_Te_39 (As := [.int x3]) (st := [.int r5, .int r2]) (σ' := σ9) C (c_Te_lackOf l D cI cL cZ ad h7) ⟨Nat.le_of_ble_eq_true rfl, Nat.le_of_ble_eq_true rfl⟩ ⟨Nat.le_of_ble_eq_true rfl, Nat.le_of_ble_eq_true rfl⟩ rfl (Nat.le_of_ble_eq_true rfl) d_Te_addChoose_12 ?_
  refine fm_Te_46 C (Nat.le_of_ble_eq_true rfl) (Nat.le_of_ble_eq_true rfl) (Nat.le_of_ble_eq_true rfl) (Nat.le_of_ble_eq_true rfl) d_Te_addChoose_15 ?_
  refine fm_Te_46 C (Nat.le_of_ble_eq_true rfl) (Nat.le_of_ble_eq_true rfl) (Nat.le_of_ble_eq_true rfl) (Nat.le_of_ble_eq_true rfl) d_Te_addChoose_18 ?_
  refine gw_istore (lv' := [(4, .int (if r2 < (if r5 < r8 then r8 else r5) then (if r5 < r8 then r8 else r5) else r2)), (0, .ref (ad 2)), (1, .int x1), (2, .int x2), (3, .int x3)]) C d_Te_addChoose_21 (by decide) rfl ?_
  refine gw_aload_n C d_Te_addChoose_23 rfl 1 rfl ?_
  refine gw_bipush (v := 9) C d_Te_addChoose_24 (by decide) ?_
  refine gw_iload_n C d_Te_addChoose_26 rfl 2 rfl ?_
  refine gw_iload_n C d_Te_addChoose_27 rfl 3 rfl ?_
  refine gw_iload_n C d_Te_addChoose_28 rfl 4 rfl ?_
  refine gw_lconst (v := 0) C d_Te_addChoose_29 rfl ?_
  refine gw_iload C d_Te_addChoose_30 0 rfl ?_
  obtain ⟨r11, σ12, h10, hF⟩ := gw_bnd hF
  refine fc_Te_35 (As := [.int 9, .int x1, .int x2, .int x3, .long 0, .int (if r2 < (if r5 < r8 then r8 else r5) then (if r5 < r8 then r8 else r5) else r2)]) (st := []) (σ' := σ12) C (c_Te_add l D cI cL cZ ad h10) ⟨Nat.le_of_ble_eq_true rfl, Nat.le_of_ble_eq_true rfl⟩ ⟨Nat.le_of_ble_eq_true rfl, Nat.le_of_ble_eq_true rfl⟩ rfl (Nat.le_of_ble_eq_true rfl) d_Te_addChoose_32 ?_
  cases hF
  exact gw_iret C hr rfl d_Te_addChoose_35
set_option maxRecDepth 100000 in
set_option maxHeartbeats 4000000 in
theorem c_Th_timesOf (l : Launch) (D : va_G) (cI cL cZ : ClassId) (ad : Nat → Nat) {σ : St} {x1 : Int32} {r : Int32} {σ' : St} (hF : F_Th_timesOf σ x1 = some (r, σ')) : gw_M l y_Th_timesOf w_Th_timesOf rm_Th_timesOf D gw_cl (gw_ty cI cL cZ) [.ref (ad 4), .int x1] (wC ad cI cL cZ σ) (wC ad cI cL cZ σ') (some (.int r)) := by
  refine gw_start (cc := b_Th_timesOf) (nL := 2) (ret := (some .int)) (by decide) rfl (Nat.le_of_ble_eq_true rfl) (fun p e s m below meth c A C hr _ => ?_)
  refine gw_eq (lv' := [(0, .ref (ad 4)), (1, .int x1)]) rfl rfl ?_
  unfold F_Th_timesOf at hF
  refine gw_aload_n C d_Th_timesOf_0 rfl 0 rfl ?_
  refine gw_iload_n C d_Th_timesOf_1 rfl 1 rfl ?_
  obtain ⟨r2, σ3, h1, hF⟩ := gw_bnd hF
  refine fc_Th_59 (As := [.int x1]) (st := []) (σ' := σ3) C (c_Th_has l D cI cL cZ ad h1) ⟨Nat.le_of_ble_eq_true rfl, Nat.le_of_ble_eq_true rfl⟩ ⟨Nat.le_of_ble_eq_true rfl, Nat.le_of_ble_eq_true rfl⟩ rfl (Nat.le_of_ble_eq_true rfl) d_Th_timesOf_2 ?_
  refine gw_if_eq (tgt := 17) C d_Th_timesOf_5 (by decide) (fun h4 => ?_) (fun h4 => ?_)
  · have hF := gw_pos h4 hF
    refine gw_iconst (v := 0) C d_Th_timesOf_17 (by decide) ?_
    cases hF
    exact gw_iret C hr rfl d_Th_timesOf_18
  · have hF := gw_neg h4 hF
    refine gw_aload_n C d_Th_timesOf_8 rfl 0 rfl ?_
    refine fg_Th_21 C d_Th_timesOf_9 ?_
    refine gw_iload_n C d_Th_timesOf_12 rfl 1 rfl ?_
    obtain ⟨h5, hF⟩ := gw_grd hF
    refine alwC_19 (v := σ3.2.1 11 x1.toNatClampNeg) C h5 rfl d_Th_timesOf_13 ?_
    refine gw_goto (tgt := 18) C d_Th_timesOf_14 (by decide) ?_
    cases hF
    exact gw_iret C hr rfl d_Th_timesOf_18
set_option maxRecDepth 100000 in
set_option maxHeartbeats 4000000 in
theorem c_Th_neederOf (l : Launch) (D : va_G) (cI cL cZ : ClassId) (ad : Nat → Nat) {σ : St} {x1 : Int32} {r : Int32} {σ' : St} (hF : F_Th_neederOf σ x1 = some (r, σ')) : gw_M l y_Th_neederOf w_Th_neederOf rm_Th_neederOf D gw_cl (gw_ty cI cL cZ) [.ref (ad 4), .int x1] (wC ad cI cL cZ σ) (wC ad cI cL cZ σ') (some (.int r)) := by
  refine gw_start (cc := b_Th_neederOf) (nL := 2) (ret := (some .int)) (by decide) rfl (Nat.le_of_ble_eq_true rfl) (fun p e s m below meth c A C hr _ => ?_)
  refine gw_eq (lv' := [(0, .ref (ad 4)), (1, .int x1)]) rfl rfl ?_
  unfold F_Th_neederOf at hF
  refine gw_aload_n C d_Th_neederOf_0 rfl 0 rfl ?_
  refine gw_iload_n C d_Th_neederOf_1 rfl 1 rfl ?_
  obtain ⟨r2, σ3, h1, hF⟩ := gw_bnd hF
  refine fc_Th_59 (As := [.int x1]) (st := []) (σ' := σ3) C (c_Th_has l D cI cL cZ ad h1) ⟨Nat.le_of_ble_eq_true rfl, Nat.le_of_ble_eq_true rfl⟩ ⟨Nat.le_of_ble_eq_true rfl, Nat.le_of_ble_eq_true rfl⟩ rfl (Nat.le_of_ble_eq_true rfl) d_Th_neederOf_2 ?_
  refine gw_if_eq (tgt := 17) C d_Th_neederOf_5 (by decide) (fun h4 => ?_) (fun h4 => ?_)
  · have hF := gw_pos h4 hF
    refine gw_iconst (v := (-1)) C d_Th_neederOf_17 (by decide) ?_
    cases hF
    exact gw_iret C hr rfl d_Th_neederOf_18
  · have hF := gw_neg h4 hF
    refine gw_aload_n C d_Th_neederOf_8 rfl 0 rfl ?_
    refine fg_Th_24 C d_Th_neederOf_9 ?_
    refine gw_iload_n C d_Th_neederOf_12 rfl 1 rfl ?_
    obtain ⟨h5, hF⟩ := gw_grd hF
    refine alwC_20 (v := σ3.2.1 12 x1.toNatClampNeg) C h5 rfl d_Th_neederOf_13 ?_
    refine gw_goto (tgt := 18) C d_Th_neederOf_14 (by decide) ?_
    cases hF
    exact gw_iret C hr rfl d_Th_neederOf_18
set_option maxRecDepth 100000 in
set_option maxHeartbeats 4000000 in
theorem c_Gw_outcome (l : Launch) (D : va_G) (cI cL cZ : ClassId) (ad : Nat → Nat) {σ : St} {r : Int32} {σ' : St} (hF : F_Gw_outcome σ = some (r, σ')) : gw_M l y_Gw_outcome w_Gw_outcome rm_Gw_outcome D gw_cl (gw_ty cI cL cZ) [.ref (ad 0)] (wC ad cI cL cZ σ) (wC ad cI cL cZ σ') (some (.int r)) := by
  refine gw_start (cc := b_Gw_outcome) (nL := 1) (ret := (some .int)) (by decide) rfl (Nat.le_of_ble_eq_true rfl) (fun p e s m below meth c A C hr _ => ?_)
  refine gw_eq (lv' := [(0, .ref (ad 0))]) rfl rfl ?_
  unfold F_Gw_outcome at hF
  refine gw_aload_n C d_Gw_outcome_0 rfl 0 rfl ?_
  refine fg_Gw_10 C d_Gw_outcome_1 ?_
  refine fg_Gw_76 (v := σ.1 0) C rfl d_Gw_outcome_4 ?_
  cases hF
  exact gw_iret C hr rfl d_Gw_outcome_7
set_option maxRecDepth 100000 in
set_option maxHeartbeats 4000000 in
theorem c_Gw_sort (l : Launch) (D : va_G) (cI cL cZ : ClassId) (ad : Nat → Nat) {σ : St} {r : Int32} {σ' : St} (hF : F_Gw_sort σ = some (r, σ')) : gw_M l y_Gw_sort w_Gw_sort rm_Gw_sort D gw_cl (gw_ty cI cL cZ) [.ref (ad 0)] (wC ad cI cL cZ σ) (wC ad cI cL cZ σ') (some (.int r)) := by
  refine gw_start (cc := b_Gw_sort) (nL := 1) (ret := (some .int)) (by decide) rfl (Nat.le_of_ble_eq_true rfl) (fun p e s m below meth c A C hr _ => ?_)
  refine gw_eq (lv' := [(0, .ref (ad 0))]) rfl rfl ?_
  unfold F_Gw_sort at hF
  refine gw_aload_n C d_Gw_sort_0 rfl 0 rfl ?_
  refine fg_Gw_10 C d_Gw_sort_1 ?_
  refine fg_Gw_76 (v := σ.1 0) C rfl d_Gw_sort_4 ?_
  refine gw_iconst (v := 2) C d_Gw_sort_7 (by decide) ?_
  refine gw_icmp_ne (tgt := 24) C d_Gw_sort_8 (by decide) (fun h1 => ?_) (fun h1 => ?_)
  · have hF := gw_neg h1 hF
    refine gw_iconst (v := (-1)) C d_Gw_sort_24 (by decide) ?_
    cases hF
    exact gw_iret C hr rfl d_Gw_sort_25
  · have hF := gw_pos h1 hF
    refine gw_aload_n C d_Gw_sort_11 rfl 0 rfl ?_
    refine fg_Gw_10 C d_Gw_sort_12 ?_
    refine fg_Gw_83 C d_Gw_sort_15 ?_
    refine fg_Gw_87 (v := σ.1 19) C rfl d_Gw_sort_18 ?_
    refine gw_goto (tgt := 25) C d_Gw_sort_21 (by decide) ?_
    cases hF
    exact gw_iret C hr rfl d_Gw_sort_25
set_option maxRecDepth 100000 in
set_option maxHeartbeats 4000000 in
theorem c_Gw_value (l : Launch) (D : va_G) (cI cL cZ : ClassId) (ad : Nat → Nat) {σ : St} {r : Int64} {σ' : St} (hF : F_Gw_value σ = some (r, σ')) : gw_M l y_Gw_value w_Gw_value rm_Gw_value D gw_cl (gw_ty cI cL cZ) [.ref (ad 0)] (wC ad cI cL cZ σ) (wC ad cI cL cZ σ') (some (.long r)) := by
  refine gw_start (cc := b_Gw_value) (nL := 1) (ret := (some .long)) (by decide) rfl (Nat.le_of_ble_eq_true rfl) (fun p e s m below meth c A C hr _ => ?_)
  refine gw_eq (lv' := [(0, .ref (ad 0))]) rfl rfl ?_
  unfold F_Gw_value at hF
  refine gw_aload_n C d_Gw_value_0 rfl 0 rfl ?_
  refine fg_Gw_10 C d_Gw_value_1 ?_
  refine fg_Gw_76 (v := σ.1 0) C rfl d_Gw_value_4 ?_
  refine gw_iconst (v := 2) C d_Gw_value_7 (by decide) ?_
  refine gw_icmp_ne (tgt := 37) C d_Gw_value_8 (by decide) (fun h1 => ?_) (fun h1 => ?_)
  · have hF := gw_neg h1 hF
    refine gw_lconst (v := 0) C d_Gw_value_37 rfl ?_
    cases hF
    exact gw_lret C hr rfl d_Gw_value_38
  · have hF := gw_pos h1 hF
    refine gw_aload_n C d_Gw_value_11 rfl 0 rfl ?_
    refine fg_Gw_10 C d_Gw_value_12 ?_
    refine fg_Gw_83 C d_Gw_value_15 ?_
    refine fg_Gw_87 (v := σ.1 19) C rfl d_Gw_value_18 ?_
    refine gw_if_ne (tgt := 37) C d_Gw_value_21 (by decide) (fun h2 => ?_) (fun h2 => ?_)
    · have hF := gw_neg h2 hF
      refine gw_lconst (v := 0) C d_Gw_value_37 rfl ?_
      cases hF
      exact gw_lret C hr rfl d_Gw_value_38
    · have hF := gw_pos h2 hF
      refine gw_aload_n C d_Gw_value_24 rfl 0 rfl ?_
      refine fg_Gw_10 C d_Gw_value_25 ?_
      refine fg_Gw_83 C d_Gw_value_28 ?_
      refine fg_Gw_105 (v := σ.2.2.1 0) C rfl d_Gw_value_31 ?_
      refine gw_goto (tgt := 38) C d_Gw_value_34 (by decide) ?_
      cases hF
      exact gw_lret C hr rfl d_Gw_value_38
