set_option maxRecDepth 100000 in
set_option maxHeartbeats 4000000 in
theorem c_Wa_enter (l : Launch) (D : va_G) (cI cL cZ : ClassId) (ad : Nat → Nat) {σ : St} {x1 : Int32} {σ' : St} (hF : F_Wa_enter σ x1 = some σ') : gw_M l y_Wa_enter w_Wa_enter rm_Wa_enter D gw_cl (gw_ty cI cL cZ) [.ref (ad 1), .int x1] (wC ad cI cL cZ σ) (wC ad cI cL cZ σ') none := by
  refine gw_start (cc := b_Wa_enter) (nL := 2) (ret := none) (by decide) rfl (Nat.le_of_ble_eq_true rfl) (fun p e s m below meth c A C hr _ => ?_)
  refine gw_eq (lv' := [(0, .ref (ad 1)), (1, .int x1)]) rfl rfl ?_
  unfold F_Wa_enter at hF
  refine gw_aload_n C d_Wa_enter_0 rfl 0 rfl ?_
  refine fg_Wa_35 C d_Wa_enter_1 ?_
  obtain ⟨r2, σ3, h1, hF⟩ := gw_bnd hF
  refine fc_Wa_178 (As := []) (st := []) (σ' := σ3) C (c_Ro_isFull l D cI cL cZ ad h1) ⟨Nat.le_of_ble_eq_true rfl, Nat.le_of_ble_eq_true rfl⟩ ⟨Nat.le_of_ble_eq_true rfl, Nat.le_of_ble_eq_true rfl⟩ rfl (Nat.le_of_ble_eq_true rfl) d_Wa_enter_4 ?_
  refine gw_if_eq (tgt := 16) C d_Wa_enter_7 (by decide) (fun h4 => ?_) (fun h4 => ?_)
  · have hF := gw_pos h4 hF
    refine gw_aload_n C d_Wa_enter_16 rfl 0 rfl ?_
    refine fg_Wa_35 C d_Wa_enter_17 ?_
    refine gw_iload_n C d_Wa_enter_20 rfl 1 rfl ?_
    refine gw_aload_n C d_Wa_enter_21 rfl 0 rfl ?_
    refine fg_Wa_57 (v := σ3.1 3) C rfl d_Wa_enter_22 ?_
    refine gw_aload_n C d_Wa_enter_25 rfl 0 rfl ?_
    refine fg_Wa_60 (v := σ3.1 4) C rfl d_Wa_enter_26 ?_
    refine gw_lconst (v := 0) C d_Wa_enter_29 rfl ?_
    obtain ⟨σ6, h5, hF⟩ := gw_bndv hF
    refine fc_Wa_182 (As := [.int x1, .int (σ3.1 3), .int (σ3.1 4), .long 0]) (st := []) (σ' := σ6) C (c_Ro_add l D cI cL cZ ad h5) ⟨Nat.le_of_ble_eq_true rfl, Nat.le_of_ble_eq_true rfl⟩ ⟨Nat.le_of_ble_eq_true rfl, Nat.le_of_ble_eq_true rfl⟩ rfl (Nat.le_of_ble_eq_true rfl) d_Wa_enter_30 ?_
    refine gw_aload_n C d_Wa_enter_33 rfl 0 rfl ?_
    refine gw_aload_n C d_Wa_enter_34 rfl 0 rfl ?_
    refine fg_Wa_12 C d_Wa_enter_35 ?_
    refine gw_aload_n C d_Wa_enter_38 rfl 0 rfl ?_
    refine fg_Wa_57 (v := σ6.1 3) C rfl d_Wa_enter_39 ?_
    obtain ⟨r8, σ9, h7, hF⟩ := gw_bnd hF
    refine fc_Wa_141 (As := [.int (σ6.1 3)]) (st := [.ref (ad 1)]) (σ' := σ9) C (c_Te_firstOf l D cI cL cZ ad h7) ⟨Nat.le_of_ble_eq_true rfl, Nat.le_of_ble_eq_true rfl⟩ ⟨Nat.le_of_ble_eq_true rfl, Nat.le_of_ble_eq_true rfl⟩ rfl (Nat.le_of_ble_eq_true rfl) d_Wa_enter_42 ?_
    refine fp_Wa_57 C d_Wa_enter_45 ?_
    cases hF
    exact gw_vret C hr rfl d_Wa_enter_48
  · have hF := gw_neg h4 hF
    refine gw_aload_n C d_Wa_enter_10 rfl 0 rfl ?_
    refine gw_iconst (v := 5) C d_Wa_enter_11 (by decide) ?_
    refine fp_Wa_46 C d_Wa_enter_12 ?_
    cases hF
    exact gw_vret C hr rfl d_Wa_enter_15
set_option maxRecDepth 100000 in
set_option maxHeartbeats 4000000 in
theorem c_Wa_stepWithTerm (l : Launch) (D : va_G) (cI cL cZ : ClassId) (ad : Nat → Nat) {σ : St} {σ' : St} (hF : F_Wa_stepWithTerm σ = some σ') : gw_M l y_Wa_stepWithTerm w_Wa_stepWithTerm rm_Wa_stepWithTerm D gw_cl (gw_ty cI cL cZ) [.ref (ad 1)] (wC ad cI cL cZ σ) (wC ad cI cL cZ σ') none := by
  refine gw_start (cc := b_Wa_stepWithTerm) (nL := 1) (ret := none) (by decide) rfl (Nat.le_of_ble_eq_true rfl) (fun p e s m below meth c A C hr _ => ?_)
  refine gw_eq (lv' := [(0, .ref (ad 1))]) rfl rfl ?_
  unfold F_Wa_stepWithTerm at hF
  refine gw_aload_n C d_Wa_stepWithTerm_0 rfl 0 rfl ?_
  refine fg_Wa_12 C d_Wa_stepWithTerm_1 ?_
  refine gw_aload_n C d_Wa_stepWithTerm_4 rfl 0 rfl ?_
  refine fg_Wa_57 (v := σ.1 3) C rfl d_Wa_stepWithTerm_5 ?_
  obtain ⟨r2, σ3, h1, hF⟩ := gw_bnd hF
  refine fc_Wa_131 (As := [.int (σ.1 3)]) (st := []) (σ' := σ3) C (c_Te_sortOf l D cI cL cZ ad h1) ⟨Nat.le_of_ble_eq_true rfl, Nat.le_of_ble_eq_true rfl⟩ ⟨Nat.le_of_ble_eq_true rfl, Nat.le_of_ble_eq_true rfl⟩ rfl (Nat.le_of_ble_eq_true rfl) d_Wa_stepWithTerm_8 ?_
  by_cases h4 : r2 = 0
  · have hF := gw_pos h4 hF
    refine gw_tableIn (tgt := 64) C d_Wa_stepWithTerm_11 (by rw [h4]; decide) (by rw [h4]; decide) (by rw [h4]; rfl) (by decide) ?_
    refine gw_aload_n C d_Wa_stepWithTerm_64 rfl 0 rfl ?_
    refine fg_Wa_42 C d_Wa_stepWithTerm_65 ?_
    refine gw_aload_n C d_Wa_stepWithTerm_68 rfl 0 rfl ?_
    refine fg_Wa_12 C d_Wa_stepWithTerm_69 ?_
    refine gw_aload_n C d_Wa_stepWithTerm_72 rfl 0 rfl ?_
    refine fg_Wa_57 (v := σ3.1 3) C rfl d_Wa_stepWithTerm_73 ?_
    obtain ⟨r6, σ7, h5, hF⟩ := gw_bnd hF
    refine fc_Wa_134 (As := [.int (σ3.1 3)]) (st := [.ref (ad 6)]) (σ' := σ7) C (c_Te_numberOf l D cI cL cZ ad h5) ⟨Nat.le_of_ble_eq_true rfl, Nat.le_of_ble_eq_true rfl⟩ ⟨Nat.le_of_ble_eq_true rfl, Nat.le_of_ble_eq_true rfl⟩ rfl (Nat.le_of_ble_eq_true rfl) d_Wa_stepWithTerm_76 ?_
    obtain ⟨σ9, h8, hF⟩ := gw_bndv hF
    refine fc_Wa_89 (As := [.long r6]) (st := []) (σ' := σ9) C (c_Va_beNumber l D cI cL cZ ad h8) ⟨Nat.le_of_ble_eq_true rfl, Nat.le_of_ble_eq_true rfl⟩ ⟨Nat.le_of_ble_eq_true rfl, Nat.le_of_ble_eq_true rfl⟩ rfl (Nat.le_of_ble_eq_true rfl) d_Wa_stepWithTerm_79 ?_
    refine gw_aload_n C d_Wa_stepWithTerm_82 rfl 0 rfl ?_
    refine gw_iconst (v := 1) C d_Wa_stepWithTerm_83 (by decide) ?_
    refine fp_Wa_54 C d_Wa_stepWithTerm_84 ?_
    refine gw_goto (tgt := 257) C d_Wa_stepWithTerm_87 (by decide) ?_
    cases hF
    exact gw_vret C hr rfl d_Wa_stepWithTerm_257
  · have hF := gw_neg h4 hF
    by_cases h10 : r2 = 1
    · have hF := gw_pos h10 hF
      refine gw_tableIn (tgt := 113) C d_Wa_stepWithTerm_11 (by rw [h10]; decide) (by rw [h10]; decide) (by rw [h10]; rfl) (by decide) ?_
      refine gw_aload_n C d_Wa_stepWithTerm_113 rfl 0 rfl ?_
      refine gw_aload_n C d_Wa_stepWithTerm_114 rfl 0 rfl ?_
      refine fg_Wa_21 C d_Wa_stepWithTerm_115 ?_
      refine gw_aload_n C d_Wa_stepWithTerm_118 rfl 0 rfl ?_
      refine fg_Wa_60 (v := σ3.1 4) C rfl d_Wa_stepWithTerm_119 ?_
      refine gw_aload_n C d_Wa_stepWithTerm_122 rfl 0 rfl ?_
      refine fg_Wa_12 C d_Wa_stepWithTerm_123 ?_
      refine gw_aload_n C d_Wa_stepWithTerm_126 rfl 0 rfl ?_
      refine fg_Wa_57 (v := σ3.1 3) C rfl d_Wa_stepWithTerm_127 ?_
      obtain ⟨r12, σ13, h11, hF⟩ := gw_bnd hF
      refine fc_Wa_141 (As := [.int (σ3.1 3)]) (st := [.int (σ3.1 4), .ref (ad 3), .ref (ad 1)]) (σ' := σ13) C (c_Te_firstOf l D cI cL cZ ad h11) ⟨Nat.le_of_ble_eq_true rfl, Nat.le_of_ble_eq_true rfl⟩ ⟨Nat.le_of_ble_eq_true rfl, Nat.le_of_ble_eq_true rfl⟩ rfl (Nat.le_of_ble_eq_true rfl) d_Wa_stepWithTerm_130 ?_
      obtain ⟨r15, σ16, h14, hF⟩ := gw_bnd hF
      refine fc_Wa_142 (As := [.int (σ3.1 4), .int r12]) (st := [.ref (ad 1)]) (σ' := σ16) C (c_Pl_thingAt l D cI cL cZ ad h14) ⟨Nat.le_of_ble_eq_true rfl, Nat.le_of_ble_eq_true rfl⟩ ⟨Nat.le_of_ble_eq_true rfl, Nat.le_of_ble_eq_true rfl⟩ rfl (Nat.le_of_ble_eq_true rfl) d_Wa_stepWithTerm_133 ?_
      refine gw_iconst (v := 0) C d_Wa_stepWithTerm_136 (by decide) ?_
      obtain ⟨σ18, h17, hF⟩ := gw_bndv hF
      refine fc_Wa_107 (As := [.int r15, .int 0]) (st := []) (σ' := σ18) C (c_Wa_need l D cI cL cZ ad h17) ⟨Nat.le_of_ble_eq_true rfl, Nat.le_of_ble_eq_true rfl⟩ ⟨Nat.le_of_ble_eq_true rfl, Nat.le_of_ble_eq_true rfl⟩ rfl (Nat.le_of_ble_eq_true rfl) d_Wa_stepWithTerm_137 ?_
      refine gw_goto (tgt := 257) C d_Wa_stepWithTerm_140 (by decide) ?_
      cases hF
      exact gw_vret C hr rfl d_Wa_stepWithTerm_257
    · have hF := gw_neg h10 hF
      by_cases h19 : r2 = 2
      · have hF := gw_pos h19 hF
        refine gw_tableIn (tgt := 90) C d_Wa_stepWithTerm_11 (by rw [h19]; decide) (by rw [h19]; decide) (by rw [h19]; rfl) (by decide) ?_
        refine gw_aload_n C d_Wa_stepWithTerm_90 rfl 0 rfl ?_
        refine fg_Wa_42 C d_Wa_stepWithTerm_91 ?_
        refine gw_aload_n C d_Wa_stepWithTerm_94 rfl 0 rfl ?_
        refine fg_Wa_57 (v := σ3.1 3) C rfl d_Wa_stepWithTerm_95 ?_
        refine gw_aload_n C d_Wa_stepWithTerm_98 rfl 0 rfl ?_
        refine fg_Wa_60 (v := σ3.1 4) C rfl d_Wa_stepWithTerm_99 ?_
        obtain ⟨σ21, h20, hF⟩ := gw_bndv hF
        refine fc_Wa_138 (As := [.int (σ3.1 3), .int (σ3.1 4)]) (st := []) (σ' := σ21) C (c_Va_beLambda l D cI cL cZ ad h20) ⟨Nat.le_of_ble_eq_true rfl, Nat.le_of_ble_eq_true rfl⟩ ⟨Nat.le_of_ble_eq_true rfl, Nat.le_of_ble_eq_true rfl⟩ rfl (Nat.le_of_ble_eq_true rfl) d_Wa_stepWithTerm_102 ?_
        refine gw_aload_n C d_Wa_stepWithTerm_105 rfl 0 rfl ?_
        refine gw_iconst (v := 1) C d_Wa_stepWithTerm_106 (by decide) ?_
        refine fp_Wa_54 C d_Wa_stepWithTerm_107 ?_
        refine gw_goto (tgt := 257) C d_Wa_stepWithTerm_110 (by decide) ?_
        cases hF
        exact gw_vret C hr rfl d_Wa_stepWithTerm_257
      · have hF := gw_neg h19 hF
        by_cases h22 : r2 = 3
        · have hF := gw_pos h22 hF
          refine gw_tableIn (tgt := 235) C d_Wa_stepWithTerm_11 (by rw [h22]; decide) (by rw [h22]; decide) (by rw [h22]; rfl) (by decide) ?_
          refine gw_aload_n C d_Wa_stepWithTerm_235 rfl 0 rfl ?_
          refine gw_iconst (v := 5) C d_Wa_stepWithTerm_236 (by decide) ?_
          obtain ⟨σ24, h23, hF⟩ := gw_bndv hF
          refine fc_Wa_159 (As := [.int 5]) (st := []) (σ' := σ24) C (c_Wa_enter l D cI cL cZ ad h23) ⟨Nat.le_of_ble_eq_true rfl, Nat.le_of_ble_eq_true rfl⟩ ⟨Nat.le_of_ble_eq_true rfl, Nat.le_of_ble_eq_true rfl⟩ rfl (Nat.le_of_ble_eq_true rfl) d_Wa_stepWithTerm_237 ?_
          refine gw_goto (tgt := 257) C d_Wa_stepWithTerm_240 (by decide) ?_
          cases hF
          exact gw_vret C hr rfl d_Wa_stepWithTerm_257
        · have hF := gw_neg h22 hF
          by_cases h25 : r2 = 4
          · have hF := gw_pos h25 hF
            refine gw_tableIn (tgt := 243) C d_Wa_stepWithTerm_11 (by rw [h25]; decide) (by rw [h25]; decide) (by rw [h25]; rfl) (by decide) ?_
            refine gw_aload_n C d_Wa_stepWithTerm_243 rfl 0 rfl ?_
            refine gw_bipush (v := 6) C d_Wa_stepWithTerm_244 (by decide) ?_
            obtain ⟨σ27, h26, hF⟩ := gw_bndv hF
            refine fc_Wa_159 (As := [.int 6]) (st := []) (σ' := σ27) C (c_Wa_enter l D cI cL cZ ad h26) ⟨Nat.le_of_ble_eq_true rfl, Nat.le_of_ble_eq_true rfl⟩ ⟨Nat.le_of_ble_eq_true rfl, Nat.le_of_ble_eq_true rfl⟩ rfl (Nat.le_of_ble_eq_true rfl) d_Wa_stepWithTerm_246 ?_
            refine gw_goto (tgt := 257) C d_Wa_stepWithTerm_249 (by decide) ?_
            cases hF
            exact gw_vret C hr rfl d_Wa_stepWithTerm_257
          · have hF := gw_neg h25 hF
            by_cases h28 : r2 = 5
            · have hF := gw_pos h28 hF
              refine gw_tableIn (tgt := 172) C d_Wa_stepWithTerm_11 (by rw [h28]; decide) (by rw [h28]; decide) (by rw [h28]; rfl) (by decide) ?_
              refine gw_aload_n C d_Wa_stepWithTerm_172 rfl 0 rfl ?_
              refine gw_aload_n C d_Wa_stepWithTerm_173 rfl 0 rfl ?_
              refine fg_Wa_12 C d_Wa_stepWithTerm_174 ?_
              refine gw_aload_n C d_Wa_stepWithTerm_177 rfl 0 rfl ?_
              refine fg_Wa_57 (v := σ3.1 3) C rfl d_Wa_stepWithTerm_178 ?_
              obtain ⟨r30, σ31, h29, hF⟩ := gw_bnd hF
              refine fc_Wa_146 (As := [.int (σ3.1 3)]) (st := [.ref (ad 1)]) (σ' := σ31) C (c_Te_secondOf l D cI cL cZ ad h29) ⟨Nat.le_of_ble_eq_true rfl, Nat.le_of_ble_eq_true rfl⟩ ⟨Nat.le_of_ble_eq_true rfl, Nat.le_of_ble_eq_true rfl⟩ rfl (Nat.le_of_ble_eq_true rfl) d_Wa_stepWithTerm_181 ?_
              obtain ⟨σ33, h32, hF⟩ := gw_bndv hF
              refine fc_Wa_152 (As := [.int r30]) (st := []) (σ' := σ33) C (c_Wa_enterApply l D cI cL cZ ad h32) ⟨Nat.le_of_ble_eq_true rfl, Nat.le_of_ble_eq_true rfl⟩ ⟨Nat.le_of_ble_eq_true rfl, Nat.le_of_ble_eq_true rfl⟩ rfl (Nat.le_of_ble_eq_true rfl) d_Wa_stepWithTerm_184 ?_
              refine gw_goto (tgt := 257) C d_Wa_stepWithTerm_187 (by decide) ?_
              cases hF
              exact gw_vret C hr rfl d_Wa_stepWithTerm_257
            · have hF := gw_neg h28 hF
              by_cases h34 : r2 = 6
              · have hF := gw_pos h34 hF
                refine gw_tableIn (tgt := 190) C d_Wa_stepWithTerm_11 (by rw [h34]; decide) (by rw [h34]; decide) (by rw [h34]; rfl) (by decide) ?_
                refine gw_aload_n C d_Wa_stepWithTerm_190 rfl 0 rfl ?_
                refine gw_aload_n C d_Wa_stepWithTerm_191 rfl 0 rfl ?_
                refine fg_Wa_12 C d_Wa_stepWithTerm_192 ?_
                refine gw_aload_n C d_Wa_stepWithTerm_195 rfl 0 rfl ?_
                refine fg_Wa_57 (v := σ3.1 3) C rfl d_Wa_stepWithTerm_196 ?_
                obtain ⟨r36, σ37, h35, hF⟩ := gw_bnd hF
                refine fc_Wa_141 (As := [.int (σ3.1 3)]) (st := [.ref (ad 1)]) (σ' := σ37) C (c_Te_firstOf l D cI cL cZ ad h35) ⟨Nat.le_of_ble_eq_true rfl, Nat.le_of_ble_eq_true rfl⟩ ⟨Nat.le_of_ble_eq_true rfl, Nat.le_of_ble_eq_true rfl⟩ rfl (Nat.le_of_ble_eq_true rfl) d_Wa_stepWithTerm_199 ?_
                refine gw_aload_n C d_Wa_stepWithTerm_202 rfl 0 rfl ?_
                refine fg_Wa_12 C d_Wa_stepWithTerm_203 ?_
                refine gw_aload_n C d_Wa_stepWithTerm_206 rfl 0 rfl ?_
                refine fg_Wa_57 (v := σ37.1 3) C rfl d_Wa_stepWithTerm_207 ?_
                obtain ⟨r39, σ40, h38, hF⟩ := gw_bnd hF
                refine fc_Wa_146 (As := [.int (σ37.1 3)]) (st := [.int r36, .ref (ad 1)]) (σ' := σ40) C (c_Te_secondOf l D cI cL cZ ad h38) ⟨Nat.le_of_ble_eq_true rfl, Nat.le_of_ble_eq_true rfl⟩ ⟨Nat.le_of_ble_eq_true rfl, Nat.le_of_ble_eq_true rfl⟩ rfl (Nat.le_of_ble_eq_true rfl) d_Wa_stepWithTerm_210 ?_
                obtain ⟨σ42, h41, hF⟩ := gw_bndv hF
                refine fc_Wa_156 (As := [.int r36, .int r39]) (st := []) (σ' := σ42) C (c_Wa_enterLet l D cI cL cZ ad h41) ⟨Nat.le_of_ble_eq_true rfl, Nat.le_of_ble_eq_true rfl⟩ ⟨Nat.le_of_ble_eq_true rfl, Nat.le_of_ble_eq_true rfl⟩ rfl (Nat.le_of_ble_eq_true rfl) d_Wa_stepWithTerm_213 ?_
                refine gw_goto (tgt := 257) C d_Wa_stepWithTerm_216 (by decide) ?_
                cases hF
                exact gw_vret C hr rfl d_Wa_stepWithTerm_257
              · have hF := gw_neg h34 hF
                by_cases h43 : r2 = 7
                · have hF := gw_pos h43 hF
                  refine gw_tableIn (tgt := 143) C d_Wa_stepWithTerm_11 (by rw [h43]; decide) (by rw [h43]; decide) (by rw [h43]; rfl) (by decide) ?_
                  refine gw_aload_n C d_Wa_stepWithTerm_143 rfl 0 rfl ?_
                  refine gw_aload_n C d_Wa_stepWithTerm_144 rfl 0 rfl ?_
                  refine fg_Wa_12 C d_Wa_stepWithTerm_145 ?_
                  refine gw_aload_n C d_Wa_stepWithTerm_148 rfl 0 rfl ?_
                  refine fg_Wa_57 (v := σ3.1 3) C rfl d_Wa_stepWithTerm_149 ?_
                  obtain ⟨r45, σ46, h44, hF⟩ := gw_bnd hF
                  refine fc_Wa_141 (As := [.int (σ3.1 3)]) (st := [.ref (ad 1)]) (σ' := σ46) C (c_Te_firstOf l D cI cL cZ ad h44) ⟨Nat.le_of_ble_eq_true rfl, Nat.le_of_ble_eq_true rfl⟩ ⟨Nat.le_of_ble_eq_true rfl, Nat.le_of_ble_eq_true rfl⟩ rfl (Nat.le_of_ble_eq_true rfl) d_Wa_stepWithTerm_152 ?_
                  refine gw_aload_n C d_Wa_stepWithTerm_155 rfl 0 rfl ?_
                  refine fg_Wa_12 C d_Wa_stepWithTerm_156 ?_
                  refine gw_aload_n C d_Wa_stepWithTerm_159 rfl 0 rfl ?_
                  refine fg_Wa_57 (v := σ46.1 3) C rfl d_Wa_stepWithTerm_160 ?_
                  obtain ⟨r48, σ49, h47, hF⟩ := gw_bnd hF
                  refine fc_Wa_146 (As := [.int (σ46.1 3)]) (st := [.int r45, .ref (ad 1)]) (σ' := σ49) C (c_Te_secondOf l D cI cL cZ ad h47) ⟨Nat.le_of_ble_eq_true rfl, Nat.le_of_ble_eq_true rfl⟩ ⟨Nat.le_of_ble_eq_true rfl, Nat.le_of_ble_eq_true rfl⟩ rfl (Nat.le_of_ble_eq_true rfl) d_Wa_stepWithTerm_163 ?_
                  obtain ⟨σ51, h50, hF⟩ := gw_bndv hF
                  refine fc_Wa_149 (As := [.int r45, .int r48]) (st := []) (σ' := σ51) C (c_Wa_makePair l D cI cL cZ ad h50) ⟨Nat.le_of_ble_eq_true rfl, Nat.le_of_ble_eq_true rfl⟩ ⟨Nat.le_of_ble_eq_true rfl, Nat.le_of_ble_eq_true rfl⟩ rfl (Nat.le_of_ble_eq_true rfl) d_Wa_stepWithTerm_166 ?_
                  refine gw_goto (tgt := 257) C d_Wa_stepWithTerm_169 (by decide) ?_
                  cases hF
                  exact gw_vret C hr rfl d_Wa_stepWithTerm_257
                · have hF := gw_neg h43 hF
                  by_cases h52 : r2 = 8
                  · have hF := gw_pos h52 hF
                    refine gw_tableIn (tgt := 219) C d_Wa_stepWithTerm_11 (by rw [h52]; decide) (by rw [h52]; decide) (by rw [h52]; rfl) (by decide) ?_
                    refine gw_aload_n C d_Wa_stepWithTerm_219 rfl 0 rfl ?_
                    refine gw_iconst (v := 2) C d_Wa_stepWithTerm_220 (by decide) ?_
                    obtain ⟨σ54, h53, hF⟩ := gw_bndv hF
                    refine fc_Wa_159 (As := [.int 2]) (st := []) (σ' := σ54) C (c_Wa_enter l D cI cL cZ ad h53) ⟨Nat.le_of_ble_eq_true rfl, Nat.le_of_ble_eq_true rfl⟩ ⟨Nat.le_of_ble_eq_true rfl, Nat.le_of_ble_eq_true rfl⟩ rfl (Nat.le_of_ble_eq_true rfl) d_Wa_stepWithTerm_221 ?_
                    refine gw_goto (tgt := 257) C d_Wa_stepWithTerm_224 (by decide) ?_
                    cases hF
                    exact gw_vret C hr rfl d_Wa_stepWithTerm_257
                  · have hF := gw_neg h52 hF
                    by_cases h55 : r2 = 9
                    · have hF := gw_pos h55 hF
                      refine gw_tableIn (tgt := 227) C d_Wa_stepWithTerm_11 (by rw [h55]; decide) (by rw [h55]; decide) (by rw [h55]; rfl) (by decide) ?_
                      refine gw_aload_n C d_Wa_stepWithTerm_227 rfl 0 rfl ?_
                      refine gw_iconst (v := 4) C d_Wa_stepWithTerm_228 (by decide) ?_
                      obtain ⟨σ57, h56, hF⟩ := gw_bndv hF
                      refine fc_Wa_159 (As := [.int 4]) (st := []) (σ' := σ57) C (c_Wa_enter l D cI cL cZ ad h56) ⟨Nat.le_of_ble_eq_true rfl, Nat.le_of_ble_eq_true rfl⟩ ⟨Nat.le_of_ble_eq_true rfl, Nat.le_of_ble_eq_true rfl⟩ rfl (Nat.le_of_ble_eq_true rfl) d_Wa_stepWithTerm_229 ?_
                      refine gw_goto (tgt := 257) C d_Wa_stepWithTerm_232 (by decide) ?_
                      cases hF
                      exact gw_vret C hr rfl d_Wa_stepWithTerm_257
                    · have hF := gw_neg h55 hF
                      refine gw_tableOut (tgt := 252) C d_Wa_stepWithTerm_11 (gw_out10 h4 h10 h19 h22 h25 h28 h34 h43 h52 h55) (by decide) ?_
                      refine gw_aload_n C d_Wa_stepWithTerm_252 rfl 0 rfl ?_
                      refine gw_iconst (v := 4) C d_Wa_stepWithTerm_253 (by decide) ?_
                      refine fp_Wa_46 C d_Wa_stepWithTerm_254 ?_
                      cases hF
                      exact gw_vret C hr rfl d_Wa_stepWithTerm_257
set_option maxRecDepth 100000 in
set_option maxHeartbeats 4000000 in
theorem c_Ro_newest (l : Launch) (D : va_G) (cI cL cZ : ClassId) (ad : Nat → Nat) {σ : St} {r : Int32} {σ' : St} (hF : F_Ro_newest σ = some (r, σ')) : gw_M l y_Ro_newest w_Ro_newest rm_Ro_newest D gw_cl (gw_ty cI cL cZ) [.ref (ad 5)] (wC ad cI cL cZ σ) (wC ad cI cL cZ σ') (some (.int r)) := by
  refine gw_start (cc := b_Ro_newest) (nL := 1) (ret := (some .int)) (by decide) rfl (Nat.le_of_ble_eq_true rfl) (fun p e s m below meth c A C hr _ => ?_)
  refine gw_eq (lv' := [(0, .ref (ad 5))]) rfl rfl ?_
  unfold F_Ro_newest at hF
  refine gw_aload_n C d_Ro_newest_0 rfl 0 rfl ?_
  refine fg_Ro_25 (v := σ.1 17) C rfl d_Ro_newest_1 ?_
  refine gw_iconst (v := 1) C d_Ro_newest_4 (by decide) ?_
  refine gw_isub C d_Ro_newest_5 ?_
  cases hF
  exact gw_iret C hr rfl d_Ro_newest_6
set_option maxRecDepth 100000 in
set_option maxHeartbeats 4000000 in
theorem c_Th_finish (l : Launch) (D : va_G) (cI cL cZ : ClassId) (ad : Nat → Nat) {σ : St} {x1 : Int32} {σ' : St} (hF : F_Th_finish σ x1 = some σ') : gw_M l y_Th_finish w_Th_finish rm_Th_finish D gw_cl (gw_ty cI cL cZ) [.ref (ad 4), .int x1, .ref (ad 6)] (wC ad cI cL cZ σ) (wC ad cI cL cZ σ') none := by
  refine gw_start (cc := b_Th_finish) (nL := 3) (ret := none) (by decide) rfl (Nat.le_of_ble_eq_true rfl) (fun p e s m below meth c A C hr _ => ?_)
  refine gw_eq (lv' := [(0, .ref (ad 4)), (1, .int x1), (2, .ref (ad 6))]) rfl rfl ?_
  unfold F_Th_finish at hF
  refine gw_aload_n C d_Th_finish_0 rfl 0 rfl ?_
  refine gw_iload_n C d_Th_finish_1 rfl 1 rfl ?_
  obtain ⟨r2, σ3, h1, hF⟩ := gw_bnd hF
  refine fc_Th_59 (As := [.int x1]) (st := []) (σ' := σ3) C (c_Th_has l D cI cL cZ ad h1) ⟨Nat.le_of_ble_eq_true rfl, Nat.le_of_ble_eq_true rfl⟩ ⟨Nat.le_of_ble_eq_true rfl, Nat.le_of_ble_eq_true rfl⟩ rfl (Nat.le_of_ble_eq_true rfl) d_Th_finish_2 ?_
  refine gw_if_eq (tgt := 59) C d_Th_finish_5 (by decide) (fun h4 => ?_) (fun h4 => ?_)
  · have hF := gw_pos h4 hF
    cases hF
    exact gw_vret C hr rfl d_Th_finish_59
  · have hF := gw_neg h4 hF
    refine gw_aload_n C d_Th_finish_8 rfl 2 rfl ?_
    refine gw_ifnull C d_Th_finish_9 ?_
    refine gw_aload_n C d_Th_finish_12 rfl 0 rfl ?_
    refine fg_Th_9 C d_Th_finish_13 ?_
    refine gw_iload_n C d_Th_finish_16 rfl 1 rfl ?_
    refine gw_iconst (v := 2) C d_Th_finish_17 (by decide) ?_
    obtain ⟨h5, hF⟩ := gw_grd hF
    refine aswC_16 C h5 d_Th_finish_18 ?_
    refine gw_aload_n C d_Th_finish_19 rfl 0 rfl ?_
    refine fg_Th_27 C d_Th_finish_20 ?_
    refine gw_iload_n C d_Th_finish_23 rfl 1 rfl ?_
    refine gw_aload_n C d_Th_finish_24 rfl 2 rfl ?_
    refine fg_Th_63 (v := σ3.1 19) C rfl d_Th_finish_25 ?_
    obtain ⟨h6, hF⟩ := gw_grd hF
    refine aswC_21 C h6 d_Th_finish_28 ?_
    refine gw_aload_n C d_Th_finish_29 rfl 0 rfl ?_
    refine fg_Th_30 C d_Th_finish_30 ?_
    refine gw_iload_n C d_Th_finish_33 rfl 1 rfl ?_
    refine gw_aload_n C d_Th_finish_34 rfl 2 rfl ?_
    refine fg_Th_68 (v := σ3.2.2.1 0) C rfl d_Th_finish_35 ?_
    obtain ⟨h7, hF⟩ := gw_grd hF
    refine aswC_22 C h7 d_Th_finish_38 ?_
    refine gw_aload_n C d_Th_finish_39 rfl 0 rfl ?_
    refine fg_Th_34 C d_Th_finish_40 ?_
    refine gw_iload_n C d_Th_finish_43 rfl 1 rfl ?_
    refine gw_aload_n C d_Th_finish_44 rfl 2 rfl ?_
    refine fg_Th_72 (v := σ3.1 20) C rfl d_Th_finish_45 ?_
    obtain ⟨h8, hF⟩ := gw_grd hF
    refine aswC_23 C h8 d_Th_finish_48 ?_
    refine gw_aload_n C d_Th_finish_49 rfl 0 rfl ?_
    refine fg_Th_37 C d_Th_finish_50 ?_
    refine gw_iload_n C d_Th_finish_53 rfl 1 rfl ?_
    refine gw_aload_n C d_Th_finish_54 rfl 2 rfl ?_
    refine fg_Th_75 (v := σ3.1 21) C rfl d_Th_finish_55 ?_
    obtain ⟨h9, hF⟩ := gw_grd hF
    refine aswC_24 C h9 d_Th_finish_58 ?_
    cases hF
    exact gw_vret C hr rfl d_Th_finish_59
set_option maxRecDepth 100000 in
set_option maxHeartbeats 4000000 in
theorem c_Wa_giveThing (l : Launch) (D : va_G) (cI cL cZ : ClassId) (ad : Nat → Nat) {σ : St} {x1 : Int32} {σ' : St} (hF : F_Wa_giveThing σ x1 = some σ') : gw_M l y_Wa_giveThing w_Wa_giveThing rm_Wa_giveThing D gw_cl (gw_ty cI cL cZ) [.ref (ad 1), .int x1] (wC ad cI cL cZ σ) (wC ad cI cL cZ σ') none := by
  refine gw_start (cc := b_Wa_giveThing) (nL := 2) (ret := none) (by decide) rfl (Nat.le_of_ble_eq_true rfl) (fun p e s m below meth c A C hr _ => ?_)
  refine gw_eq (lv' := [(0, .ref (ad 1)), (1, .int x1)]) rfl rfl ?_
  unfold F_Wa_giveThing at hF
  refine gw_aload_n C d_Wa_giveThing_0 rfl 0 rfl ?_
  refine fg_Wa_42 C d_Wa_giveThing_1 ?_
  refine fg_Wa_248 (v := σ.1 19) C rfl d_Wa_giveThing_4 ?_
  refine gw_iconst (v := 1) C d_Wa_giveThing_7 (by decide) ?_
  refine gw_icmp_eq (tgt := 17) C d_Wa_giveThing_8 (by decide) (fun h1 => ?_) (fun h1 => ?_)
  · have hF := gw_pos h1 hF
    refine gw_aload_n C d_Wa_giveThing_17 rfl 0 rfl ?_
    refine fg_Wa_21 C d_Wa_giveThing_18 ?_
    obtain ⟨r3, σ4, h2, hF⟩ := gw_bnd hF
    refine fc_Wa_185 (As := []) (st := []) (σ' := σ4) C (c_Pl_isFull l D cI cL cZ ad h2) ⟨Nat.le_of_ble_eq_true rfl, Nat.le_of_ble_eq_true rfl⟩ ⟨Nat.le_of_ble_eq_true rfl, Nat.le_of_ble_eq_true rfl⟩ rfl (Nat.le_of_ble_eq_true rfl) d_Wa_giveThing_21 ?_
    refine gw_if_eq (tgt := 33) C d_Wa_giveThing_24 (by decide) (fun h5 => ?_) (fun h5 => ?_)
    · have hF := gw_pos h5 hF
      refine gw_aload_n C d_Wa_giveThing_33 rfl 0 rfl ?_
      refine fg_Wa_35 C d_Wa_giveThing_34 ?_
      obtain ⟨σ7, h6, hF⟩ := gw_bndv hF
      refine fc_Wa_190 (As := []) (st := []) (σ' := σ7) C (c_Ro_drop l D cI cL cZ ad h6) ⟨Nat.le_of_ble_eq_true rfl, Nat.le_of_ble_eq_true rfl⟩ ⟨Nat.le_of_ble_eq_true rfl, Nat.le_of_ble_eq_true rfl⟩ rfl (Nat.le_of_ble_eq_true rfl) d_Wa_giveThing_37 ?_
      refine gw_aload_n C d_Wa_giveThing_40 rfl 0 rfl ?_
      refine gw_aload_n C d_Wa_giveThing_41 rfl 0 rfl ?_
      refine fg_Wa_12 C d_Wa_giveThing_42 ?_
      refine gw_aload_n C d_Wa_giveThing_45 rfl 0 rfl ?_
      refine fg_Wa_42 C d_Wa_giveThing_46 ?_
      refine fg_Wa_239 (v := σ7.1 20) C rfl d_Wa_giveThing_49 ?_
      obtain ⟨r9, σ10, h8, hF⟩ := gw_bnd hF
      refine fc_Wa_141 (As := [.int (σ7.1 20)]) (st := [.ref (ad 1)]) (σ' := σ10) C (c_Te_firstOf l D cI cL cZ ad h8) ⟨Nat.le_of_ble_eq_true rfl, Nat.le_of_ble_eq_true rfl⟩ ⟨Nat.le_of_ble_eq_true rfl, Nat.le_of_ble_eq_true rfl⟩ rfl (Nat.le_of_ble_eq_true rfl) d_Wa_giveThing_52 ?_
      refine gw_aload_n C d_Wa_giveThing_55 rfl 0 rfl ?_
      refine fg_Wa_21 C d_Wa_giveThing_56 ?_
      refine gw_iload_n C d_Wa_giveThing_59 rfl 1 rfl ?_
      refine gw_aload_n C d_Wa_giveThing_60 rfl 0 rfl ?_
      refine fg_Wa_42 C d_Wa_giveThing_61 ?_
      refine fg_Wa_245 (v := σ10.1 21) C rfl d_Wa_giveThing_64 ?_
      obtain ⟨r12, σ13, h11, hF⟩ := gw_bnd hF
      refine fc_Wa_186 (As := [.int x1, .int (σ10.1 21)]) (st := [.int r9, .ref (ad 1)]) (σ' := σ13) C (c_Pl_add l D cI cL cZ ad h11) ⟨Nat.le_of_ble_eq_true rfl, Nat.le_of_ble_eq_true rfl⟩ ⟨Nat.le_of_ble_eq_true rfl, Nat.le_of_ble_eq_true rfl⟩ rfl (Nat.le_of_ble_eq_true rfl) d_Wa_giveThing_67 ?_
      obtain ⟨σ15, h14, hF⟩ := gw_bndv hF
      refine fc_Wa_93 (As := [.int r9, .int r12]) (st := []) (σ' := σ15) C (c_Wa_takeTerm l D cI cL cZ ad h14) ⟨Nat.le_of_ble_eq_true rfl, Nat.le_of_ble_eq_true rfl⟩ ⟨Nat.le_of_ble_eq_true rfl, Nat.le_of_ble_eq_true rfl⟩ rfl (Nat.le_of_ble_eq_true rfl) d_Wa_giveThing_70 ?_
      cases hF
      exact gw_vret C hr rfl d_Wa_giveThing_73
    · have hF := gw_neg h5 hF
      refine gw_aload_n C d_Wa_giveThing_27 rfl 0 rfl ?_
      refine gw_iconst (v := 5) C d_Wa_giveThing_28 (by decide) ?_
      refine fp_Wa_46 C d_Wa_giveThing_29 ?_
      cases hF
      exact gw_vret C hr rfl d_Wa_giveThing_32
  · have hF := gw_neg h1 hF
    refine gw_aload_n C d_Wa_giveThing_11 rfl 0 rfl ?_
    refine gw_iconst (v := 4) C d_Wa_giveThing_12 (by decide) ?_
    refine fp_Wa_46 C d_Wa_giveThing_13 ?_
    cases hF
    exact gw_vret C hr rfl d_Wa_giveThing_16
set_option maxRecDepth 100000 in
set_option maxHeartbeats 4000000 in
theorem c_Wa_thenSecond (l : Launch) (D : va_G) (cI cL cZ : ClassId) (ad : Nat → Nat) {σ : St} {x1 : Int32} {x2 : Int32} {σ' : St} (hF : F_Wa_thenSecond σ x1 x2 = some σ') : gw_M l y_Wa_thenSecond w_Wa_thenSecond rm_Wa_thenSecond D gw_cl (gw_ty cI cL cZ) [.ref (ad 1), .int x1, .int x2] (wC ad cI cL cZ σ) (wC ad cI cL cZ σ') none := by
  refine gw_start (cc := b_Wa_thenSecond) (nL := 3) (ret := none) (by decide) rfl (Nat.le_of_ble_eq_true rfl) (fun p e s m below meth c A C hr _ => ?_)
  refine gw_eq (lv' := [(0, .ref (ad 1)), (1, .int x1), (2, .int x2)]) rfl rfl ?_
  unfold F_Wa_thenSecond at hF
  refine gw_aload_n C d_Wa_thenSecond_0 rfl 0 rfl ?_
  refine fg_Wa_42 C d_Wa_thenSecond_1 ?_
  refine fg_Wa_248 (v := σ.1 19) C rfl d_Wa_thenSecond_4 ?_
  refine gw_if_eq (tgt := 16) C d_Wa_thenSecond_7 (by decide) (fun h1 => ?_) (fun h1 => ?_)
  · have hF := gw_pos h1 hF
    refine gw_aload_n C d_Wa_thenSecond_16 rfl 0 rfl ?_
    refine fg_Wa_35 C d_Wa_thenSecond_17 ?_
    obtain ⟨σ3, h2, hF⟩ := gw_bndv hF
    refine fc_Wa_190 (As := []) (st := []) (σ' := σ3) C (c_Ro_drop l D cI cL cZ ad h2) ⟨Nat.le_of_ble_eq_true rfl, Nat.le_of_ble_eq_true rfl⟩ ⟨Nat.le_of_ble_eq_true rfl, Nat.le_of_ble_eq_true rfl⟩ rfl (Nat.le_of_ble_eq_true rfl) d_Wa_thenSecond_20 ?_
    refine gw_aload_n C d_Wa_thenSecond_23 rfl 0 rfl ?_
    refine fg_Wa_35 C d_Wa_thenSecond_24 ?_
    refine gw_iconst (v := 3) C d_Wa_thenSecond_27 (by decide) ?_
    refine gw_iload_n C d_Wa_thenSecond_28 rfl 1 rfl ?_
    refine gw_iconst (v := (-1)) C d_Wa_thenSecond_29 (by decide) ?_
    refine gw_aload_n C d_Wa_thenSecond_30 rfl 0 rfl ?_
    refine fg_Wa_42 C d_Wa_thenSecond_31 ?_
    refine fg_Wa_251 (v := σ3.2.2.1 0) C rfl d_Wa_thenSecond_34 ?_
    obtain ⟨σ5, h4, hF⟩ := gw_bndv hF
    refine fc_Wa_182 (As := [.int 3, .int x1, .int (-1), .long (σ3.2.2.1 0)]) (st := []) (σ' := σ5) C (c_Ro_add l D cI cL cZ ad h4) ⟨Nat.le_of_ble_eq_true rfl, Nat.le_of_ble_eq_true rfl⟩ ⟨Nat.le_of_ble_eq_true rfl, Nat.le_of_ble_eq_true rfl⟩ rfl (Nat.le_of_ble_eq_true rfl) d_Wa_thenSecond_37 ?_
    refine gw_aload_n C d_Wa_thenSecond_40 rfl 0 rfl ?_
    refine gw_aload_n C d_Wa_thenSecond_41 rfl 0 rfl ?_
    refine fg_Wa_12 C d_Wa_thenSecond_42 ?_
    refine gw_iload_n C d_Wa_thenSecond_45 rfl 1 rfl ?_
    obtain ⟨r7, σ8, h6, hF⟩ := gw_bnd hF
    refine fc_Wa_146 (As := [.int x1]) (st := [.ref (ad 1)]) (σ' := σ8) C (c_Te_secondOf l D cI cL cZ ad h6) ⟨Nat.le_of_ble_eq_true rfl, Nat.le_of_ble_eq_true rfl⟩ ⟨Nat.le_of_ble_eq_true rfl, Nat.le_of_ble_eq_true rfl⟩ rfl (Nat.le_of_ble_eq_true rfl) d_Wa_thenSecond_46 ?_
    refine gw_iload_n C d_Wa_thenSecond_49 rfl 2 rfl ?_
    obtain ⟨σ10, h9, hF⟩ := gw_bndv hF
    refine fc_Wa_93 (As := [.int r7, .int x2]) (st := []) (σ' := σ10) C (c_Wa_takeTerm l D cI cL cZ ad h9) ⟨Nat.le_of_ble_eq_true rfl, Nat.le_of_ble_eq_true rfl⟩ ⟨Nat.le_of_ble_eq_true rfl, Nat.le_of_ble_eq_true rfl⟩ rfl (Nat.le_of_ble_eq_true rfl) d_Wa_thenSecond_50 ?_
    cases hF
    exact gw_vret C hr rfl d_Wa_thenSecond_53
  · have hF := gw_neg h1 hF
    refine gw_aload_n C d_Wa_thenSecond_10 rfl 0 rfl ?_
    refine gw_iconst (v := 4) C d_Wa_thenSecond_11 (by decide) ?_
    refine fp_Wa_46 C d_Wa_thenSecond_12 ?_
    cases hF
    exact gw_vret C hr rfl d_Wa_thenSecond_15
set_option maxRecDepth 100000 in
set_option maxHeartbeats 4000000 in
theorem c_Te_thirdOf (l : Launch) (D : va_G) (cI cL cZ : ClassId) (ad : Nat → Nat) {σ : St} {x1 : Int32} {r : Int32} {σ' : St} (hF : F_Te_thirdOf σ x1 = some (r, σ')) : gw_M l y_Te_thirdOf w_Te_thirdOf rm_Te_thirdOf D gw_cl (gw_ty cI cL cZ) [.ref (ad 2), .int x1] (wC ad cI cL cZ σ) (wC ad cI cL cZ σ') (some (.int r)) := by
  refine gw_start (cc := b_Te_thirdOf) (nL := 2) (ret := (some .int)) (by decide) rfl (Nat.le_of_ble_eq_true rfl) (fun p e s m below meth c A C hr _ => ?_)
  refine gw_eq (lv' := [(0, .ref (ad 2)), (1, .int x1)]) rfl rfl ?_
  unfold F_Te_thirdOf at hF
  refine gw_aload_n C d_Te_thirdOf_0 rfl 0 rfl ?_
  refine gw_iload_n C d_Te_thirdOf_1 rfl 1 rfl ?_
  obtain ⟨r2, σ3, h1, hF⟩ := gw_bnd hF
  refine fc_Te_52 (As := [.int x1]) (st := []) (σ' := σ3) C (c_Te_has l D cI cL cZ ad h1) ⟨Nat.le_of_ble_eq_true rfl, Nat.le_of_ble_eq_true rfl⟩ ⟨Nat.le_of_ble_eq_true rfl, Nat.le_of_ble_eq_true rfl⟩ rfl (Nat.le_of_ble_eq_true rfl) d_Te_thirdOf_2 ?_
  refine gw_if_eq (tgt := 17) C d_Te_thirdOf_5 (by decide) (fun h4 => ?_) (fun h4 => ?_)
  · have hF := gw_pos h4 hF
    refine gw_iconst (v := (-1)) C d_Te_thirdOf_17 (by decide) ?_
    cases hF
    exact gw_iret C hr rfl d_Te_thirdOf_18
  · have hF := gw_neg h4 hF
    refine gw_aload_n C d_Te_thirdOf_8 rfl 0 rfl ?_
    refine fg_Te_21 C d_Te_thirdOf_9 ?_
    refine gw_iload_n C d_Te_thirdOf_12 rfl 1 rfl ?_
    obtain ⟨h5, hF⟩ := gw_grd hF
    refine alwC_10 (v := σ3.2.1 3 x1.toNatClampNeg) C h5 rfl d_Te_thirdOf_13 ?_
    refine gw_goto (tgt := 18) C d_Te_thirdOf_14 (by decide) ?_
    cases hF
    exact gw_iret C hr rfl d_Te_thirdOf_18
set_option maxRecDepth 100000 in
set_option maxHeartbeats 4000000 in
theorem c_Ro_numberOf (l : Launch) (D : va_G) (cI cL cZ : ClassId) (ad : Nat → Nat) {σ : St} {x1 : Int32} {r : Int64} {σ' : St} (hF : F_Ro_numberOf σ x1 = some (r, σ')) : gw_M l y_Ro_numberOf w_Ro_numberOf rm_Ro_numberOf D gw_cl (gw_ty cI cL cZ) [.ref (ad 5), .int x1] (wC ad cI cL cZ σ) (wC ad cI cL cZ σ') (some (.long r)) := by
  refine gw_start (cc := b_Ro_numberOf) (nL := 2) (ret := (some .long)) (by decide) rfl (Nat.le_of_ble_eq_true rfl) (fun p e s m below meth c A C hr _ => ?_)
  refine gw_eq (lv' := [(0, .ref (ad 5)), (1, .int x1)]) rfl rfl ?_
  unfold F_Ro_numberOf at hF
  refine gw_aload_n C d_Ro_numberOf_0 rfl 0 rfl ?_
  refine gw_iload_n C d_Ro_numberOf_1 rfl 1 rfl ?_
  obtain ⟨r2, σ3, h1, hF⟩ := gw_bnd hF
  refine fc_Ro_32 (As := [.int x1]) (st := []) (σ' := σ3) C (c_Ro_has l D cI cL cZ ad h1) ⟨Nat.le_of_ble_eq_true rfl, Nat.le_of_ble_eq_true rfl⟩ ⟨Nat.le_of_ble_eq_true rfl, Nat.le_of_ble_eq_true rfl⟩ rfl (Nat.le_of_ble_eq_true rfl) d_Ro_numberOf_2 ?_
  refine gw_if_eq (tgt := 17) C d_Ro_numberOf_5 (by decide) (fun h4 => ?_) (fun h4 => ?_)
  · have hF := gw_pos h4 hF
    refine gw_lconst (v := 0) C d_Ro_numberOf_17 rfl ?_
    cases hF
    exact gw_lret C hr rfl d_Ro_numberOf_18
  · have hF := gw_neg h4 hF
    refine gw_aload_n C d_Ro_numberOf_8 rfl 0 rfl ?_
    refine fg_Ro_21 C d_Ro_numberOf_9 ?_
    refine gw_iload_n C d_Ro_numberOf_12 rfl 1 rfl ?_
    obtain ⟨h5, hF⟩ := gw_grd hF
    refine alwC_31 (v := σ3.2.2.2 2 x1.toNatClampNeg) C h5 rfl d_Ro_numberOf_13 ?_
    refine gw_goto (tgt := 18) C d_Ro_numberOf_14 (by decide) ?_
    cases hF
    exact gw_lret C hr rfl d_Ro_numberOf_18
set_option maxRecDepth 100000 in
set_option maxHeartbeats 4000000 in
theorem c_Wa_resultOf (l : Launch) (D : va_G) (cI cL cZ : ClassId) (ad : Nat → Nat) {σ : St} {x0 : Int32} {x1 : Int64} {x3 : Int64} {r : Int64} {σ' : St} (hF : F_Wa_resultOf σ x0 x1 x3 = some (r, σ')) : gw_M l y_Wa_resultOf w_Wa_resultOf rm_Wa_resultOf D gw_cl (gw_ty cI cL cZ) [.int x0, .long x1, .long x3] (wC ad cI cL cZ σ) (wC ad cI cL cZ σ') (some (.long r)) := by
  refine gw_start (cc := b_Wa_resultOf) (nL := 5) (ret := (some .long)) (by decide) rfl (Nat.le_of_ble_eq_true rfl) (fun p e s m below meth c A C hr _ => ?_)
  refine gw_eq (lv' := [(0, .int x0), (1, .long x1), (3, .long x3)]) rfl rfl ?_
  unfold F_Wa_resultOf at hF
  refine gw_iload_n C d_Wa_resultOf_0 rfl 0 rfl ?_
  by_cases h1 : x0 = 0
  · have hF := gw_pos h1 hF
    refine gw_tableIn (tgt := 36) C d_Wa_resultOf_1 (by rw [h1]; decide) (by rw [h1]; decide) (by rw [h1]; rfl) (by decide) ?_
    refine gw_lload_n C d_Wa_resultOf_36 rfl 1 rfl ?_
    refine gw_lload_n C d_Wa_resultOf_37 rfl 2 rfl ?_
    refine gw_ladd C d_Wa_resultOf_38 ?_
    cases hF
    exact gw_lret C hr rfl d_Wa_resultOf_39
  · have hF := gw_neg h1 hF
    by_cases h2 : x0 = 1
    · have hF := gw_pos h2 hF
      refine gw_tableIn (tgt := 40) C d_Wa_resultOf_1 (by rw [h2]; decide) (by rw [h2]; decide) (by rw [h2]; rfl) (by decide) ?_
      refine gw_lload_n C d_Wa_resultOf_40 rfl 1 rfl ?_
      refine gw_lload_n C d_Wa_resultOf_41 rfl 2 rfl ?_
      refine gw_lsub C d_Wa_resultOf_42 ?_
      cases hF
      exact gw_lret C hr rfl d_Wa_resultOf_43
    · have hF := gw_neg h2 hF
      by_cases h3 : x0 = 2
      · have hF := gw_pos h3 hF
        refine gw_tableIn (tgt := 44) C d_Wa_resultOf_1 (by rw [h3]; decide) (by rw [h3]; decide) (by rw [h3]; rfl) (by decide) ?_
        refine gw_lload_n C d_Wa_resultOf_44 rfl 1 rfl ?_
        refine gw_lload_n C d_Wa_resultOf_45 rfl 2 rfl ?_
        refine gw_lmul C d_Wa_resultOf_46 ?_
        cases hF
        exact gw_lret C hr rfl d_Wa_resultOf_47
      · have hF := gw_neg h3 hF
        by_cases h4 : x0 = 3
        · have hF := gw_pos h4 hF
          refine gw_tableIn (tgt := 48) C d_Wa_resultOf_1 (by rw [h4]; decide) (by rw [h4]; decide) (by rw [h4]; rfl) (by decide) ?_
          refine gw_lload_n C d_Wa_resultOf_48 rfl 2 rfl ?_
          refine gw_lconst (v := 0) C d_Wa_resultOf_49 rfl ?_
          refine gw_lcmp C d_Wa_resultOf_50 ?_
          refine gw_if_ne (tgt := 58) C d_Wa_resultOf_51 (by decide) (fun h5 => ?_) (fun h5 => ?_)
          · have hF := gw_neg h5 hF
            refine gw_lload_n C d_Wa_resultOf_58 rfl 1 rfl ?_
            refine gw_lload_n C d_Wa_resultOf_59 rfl 2 rfl ?_
            obtain ⟨h6, hF⟩ := gw_grd hF
            refine gw_ldiv C d_Wa_resultOf_60 h6 ?_
            cases hF
            exact gw_lret C hr rfl d_Wa_resultOf_61
          · have hF := gw_pos h5 hF
            refine gw_lconst (v := 0) C d_Wa_resultOf_54 rfl ?_
            refine gw_goto (tgt := 61) C d_Wa_resultOf_55 (by decide) ?_
            cases hF
            exact gw_lret C hr rfl d_Wa_resultOf_61
        · have hF := gw_neg h4 hF
          by_cases h7 : x0 = 4
          · have hF := gw_pos h7 hF
            refine gw_tableIn (tgt := 62) C d_Wa_resultOf_1 (by rw [h7]; decide) (by rw [h7]; decide) (by rw [h7]; rfl) (by decide) ?_
            refine gw_lload_n C d_Wa_resultOf_62 rfl 1 rfl ?_
            refine gw_lload_n C d_Wa_resultOf_63 rfl 2 rfl ?_
            refine gw_lcmp C d_Wa_resultOf_64 ?_
            refine gw_if_ne (tgt := 72) C d_Wa_resultOf_65 (by decide) (fun h8 => ?_) (fun h8 => ?_)
            · have hF := gw_neg h8 hF
              refine gw_lconst (v := 0) C d_Wa_resultOf_72 rfl ?_
              cases hF
              exact gw_lret C hr rfl d_Wa_resultOf_73
            · have hF := gw_pos h8 hF
              refine gw_lconst (v := 1) C d_Wa_resultOf_68 rfl ?_
              refine gw_goto (tgt := 73) C d_Wa_resultOf_69 (by decide) ?_
              cases hF
              exact gw_lret C hr rfl d_Wa_resultOf_73
          · have hF := gw_neg h7 hF
            refine gw_tableOut (tgt := 74) C d_Wa_resultOf_1 (gw_out5 h1 h2 h3 h4 h7) (by decide) ?_
            refine gw_lload_n C d_Wa_resultOf_74 rfl 1 rfl ?_
            refine gw_lload_n C d_Wa_resultOf_75 rfl 2 rfl ?_
            refine gw_lcmp C d_Wa_resultOf_76 ?_
            refine gw_if_ge (tgt := 84) C d_Wa_resultOf_77 (by decide) (fun h9 => ?_) (fun h9 => ?_)
            · have hF := gw_pos h9 hF
              refine gw_lconst (v := 0) C d_Wa_resultOf_84 rfl ?_
              cases hF
              exact gw_lret C hr rfl d_Wa_resultOf_85
            · have hF := gw_neg h9 hF
              refine gw_lconst (v := 1) C d_Wa_resultOf_80 rfl ?_
              refine gw_goto (tgt := 85) C d_Wa_resultOf_81 (by decide) ?_
              cases hF
              exact gw_lret C hr rfl d_Wa_resultOf_85
set_option maxRecDepth 100000 in
set_option maxHeartbeats 4000000 in
theorem k_Wa_actWith_33 {p : Program} (l : Launch) {e : Env} {s : State} {m : MethodId} {args : Array Value} {below : List Frame} {meth : Method} {c : Code} {D : va_G} {A : Nat → Prop} {cI cL cZ : ClassId} {ad : Nat → Nat} (C : gw_C p s m args meth c b_Wa_actWith 4 R_Wa D gw_cl (gw_ty cI cL cZ) A) (hr : meth.sig.returnType = none) {σ : St} {x1 : Int32} {x2 : Int64} {σ' : St} (hF : K_Wa_actWith_33 σ x1 x2 = some σ') : gw_W p l e rm_Wa_actWith s m args below meth c D gw_cl A (MQ below (gw_Qc D gw_cl (wC ad cI cL cZ σ') none A) args s 0 0 A) 0 0 4 (wC ad cI cL cZ σ) [(0, .ref (ad 1)), (1, .int x1), (2, .long x2)] 33 [] := by
  unfold K_Wa_actWith_33 at hF
  refine gw_aload_n C d_Wa_actWith_33 rfl 0 rfl ?_
  refine fg_Wa_35 C d_Wa_actWith_34 ?_
  obtain ⟨σ4, h3, hF⟩ := gw_bndv hF
  refine fc_Wa_190 (As := []) (st := []) (σ' := σ4) C (c_Ro_drop l D cI cL cZ ad h3) ⟨Nat.le_of_ble_eq_true rfl, Nat.le_of_ble_eq_true rfl⟩ ⟨Nat.le_of_ble_eq_true rfl, Nat.le_of_ble_eq_true rfl⟩ rfl (Nat.le_of_ble_eq_true rfl) d_Wa_actWith_37 ?_
  refine gw_aload_n C d_Wa_actWith_40 rfl 0 rfl ?_
  refine fg_Wa_42 C d_Wa_actWith_41 ?_
  refine gw_iload_n C d_Wa_actWith_44 rfl 1 rfl ?_
  refine gw_lload_n C d_Wa_actWith_45 rfl 2 rfl ?_
  refine gw_aload_n C d_Wa_actWith_46 rfl 0 rfl ?_
  refine fg_Wa_42 C d_Wa_actWith_47 ?_
  refine fg_Wa_251 (v := σ4.2.2.1 0) C rfl d_Wa_actWith_50 ?_
  obtain ⟨r6, σ7, h5, hF⟩ := gw_bnd hF
  refine fc_Wa_255 (As := [.int x1, .long x2, .long (σ4.2.2.1 0)]) (st := [.ref (ad 6)]) (σ' := σ7) C (c_Wa_resultOf l D cI cL cZ ad h5) ⟨Nat.le_of_ble_eq_true rfl, Nat.le_of_ble_eq_true rfl⟩ ⟨Nat.le_of_ble_eq_true rfl, Nat.le_of_ble_eq_true rfl⟩ rfl (Nat.le_of_ble_eq_true rfl) d_Wa_actWith_53 ?_
  obtain ⟨σ9, h8, hF⟩ := gw_bndv hF
  refine fc_Wa_89 (As := [.long r6]) (st := []) (σ' := σ9) C (c_Va_beNumber l D cI cL cZ ad h8) ⟨Nat.le_of_ble_eq_true rfl, Nat.le_of_ble_eq_true rfl⟩ ⟨Nat.le_of_ble_eq_true rfl, Nat.le_of_ble_eq_true rfl⟩ rfl (Nat.le_of_ble_eq_true rfl) d_Wa_actWith_56 ?_
  cases hF
  exact gw_vret C hr rfl d_Wa_actWith_59
set_option maxRecDepth 100000 in
set_option maxHeartbeats 4000000 in
theorem c_Wa_actWith (l : Launch) (D : va_G) (cI cL cZ : ClassId) (ad : Nat → Nat) {σ : St} {x1 : Int32} {x2 : Int64} {σ' : St} (hF : F_Wa_actWith σ x1 x2 = some σ') : gw_M l y_Wa_actWith w_Wa_actWith rm_Wa_actWith D gw_cl (gw_ty cI cL cZ) [.ref (ad 1), .int x1, .long x2] (wC ad cI cL cZ σ) (wC ad cI cL cZ σ') none := by
  refine gw_start (cc := b_Wa_actWith) (nL := 4) (ret := none) (by decide) rfl (Nat.le_of_ble_eq_true rfl) (fun p e s m below meth c A C hr _ => ?_)
  refine gw_eq (lv' := [(0, .ref (ad 1)), (1, .int x1), (2, .long x2)]) rfl rfl ?_
  unfold F_Wa_actWith at hF
  refine gw_aload_n C d_Wa_actWith_0 rfl 0 rfl ?_
  refine fg_Wa_42 C d_Wa_actWith_1 ?_
  refine fg_Wa_248 (v := σ.1 19) C rfl d_Wa_actWith_4 ?_
  refine gw_if_ne (tgt := 27) C d_Wa_actWith_7 (by decide) (fun h1 => ?_) (fun h1 => ?_)
  · have hF := gw_neg h1 hF
    refine gw_aload_n C d_Wa_actWith_27 rfl 0 rfl ?_
    refine gw_iconst (v := 4) C d_Wa_actWith_28 (by decide) ?_
    refine fp_Wa_46 C d_Wa_actWith_29 ?_
    cases hF
    exact gw_vret C hr rfl d_Wa_actWith_32
  · have hF := gw_pos h1 hF
    refine gw_iload_n C d_Wa_actWith_10 rfl 1 rfl ?_
    refine gw_iconst (v := 3) C d_Wa_actWith_11 (by decide) ?_
    refine gw_icmp_ne (tgt := 33) C d_Wa_actWith_12 (by decide) (fun h2 => ?_) (fun h2 => ?_)
    · have hF := gw_neg h2 hF
      exact k_Wa_actWith_33 l C hr hF
    · have hF := gw_pos h2 hF
      refine gw_aload_n C d_Wa_actWith_15 rfl 0 rfl ?_
      refine fg_Wa_42 C d_Wa_actWith_16 ?_
      refine fg_Wa_251 (v := σ.2.2.1 0) C rfl d_Wa_actWith_19 ?_
      refine gw_lconst (v := 0) C d_Wa_actWith_22 rfl ?_
      refine gw_lcmp C d_Wa_actWith_23 ?_
      refine gw_if_ne (tgt := 33) C d_Wa_actWith_24 (by decide) (fun h10 => ?_) (fun h10 => ?_)
      · have hF := gw_neg h10 hF
        exact k_Wa_actWith_33 l C hr hF
      · have hF := gw_pos h10 hF
        refine gw_aload_n C d_Wa_actWith_27 rfl 0 rfl ?_
        refine gw_iconst (v := 4) C d_Wa_actWith_28 (by decide) ?_
        refine fp_Wa_46 C d_Wa_actWith_29 ?_
        cases hF
        exact gw_vret C hr rfl d_Wa_actWith_32
set_option maxRecDepth 100000 in
set_option maxHeartbeats 4000000 in
theorem c_Wa_chooseBranch (l : Launch) (D : va_G) (cI cL cZ : ClassId) (ad : Nat → Nat) {σ : St} {x1 : Int32} {x2 : Int32} {σ' : St} (hF : F_Wa_chooseBranch σ x1 x2 = some σ') : gw_M l y_Wa_chooseBranch w_Wa_chooseBranch rm_Wa_chooseBranch D gw_cl (gw_ty cI cL cZ) [.ref (ad 1), .int x1, .int x2] (wC ad cI cL cZ σ) (wC ad cI cL cZ σ') none := by
  refine gw_start (cc := b_Wa_chooseBranch) (nL := 4) (ret := none) (by decide) rfl (Nat.le_of_ble_eq_true rfl) (fun p e s m below meth c A C hr _ => ?_)
  refine gw_eq (lv' := [(0, .ref (ad 1)), (1, .int x1), (2, .int x2)]) rfl rfl ?_
  unfold F_Wa_chooseBranch at hF
  refine gw_aload_n C d_Wa_chooseBranch_0 rfl 0 rfl ?_
  refine fg_Wa_42 C d_Wa_chooseBranch_1 ?_
  refine fg_Wa_248 (v := σ.1 19) C rfl d_Wa_chooseBranch_4 ?_
  refine gw_if_eq (tgt := 16) C d_Wa_chooseBranch_7 (by decide) (fun h1 => ?_) (fun h1 => ?_)
  · have hF := gw_pos h1 hF
    refine gw_aload_n C d_Wa_chooseBranch_16 rfl 0 rfl ?_
    refine fg_Wa_35 C d_Wa_chooseBranch_17 ?_
    obtain ⟨σ3, h2, hF⟩ := gw_bndv hF
    refine fc_Wa_190 (As := []) (st := []) (σ' := σ3) C (c_Ro_drop l D cI cL cZ ad h2) ⟨Nat.le_of_ble_eq_true rfl, Nat.le_of_ble_eq_true rfl⟩ ⟨Nat.le_of_ble_eq_true rfl, Nat.le_of_ble_eq_true rfl⟩ rfl (Nat.le_of_ble_eq_true rfl) d_Wa_chooseBranch_20 ?_
    refine gw_aload_n C d_Wa_chooseBranch_23 rfl 0 rfl ?_
    refine fg_Wa_42 C d_Wa_chooseBranch_24 ?_
    refine fg_Wa_251 (v := σ3.2.2.1 0) C rfl d_Wa_chooseBranch_27 ?_
    refine gw_lconst (v := 0) C d_Wa_chooseBranch_30 rfl ?_
    refine gw_lcmp C d_Wa_chooseBranch_31 ?_
    refine gw_if_ne (tgt := 46) C d_Wa_chooseBranch_32 (by decide) (fun h4 => ?_) (fun h4 => ?_)
    · have hF := gw_neg h4 hF
      refine gw_aload_n C d_Wa_chooseBranch_46 rfl 0 rfl ?_
      refine fg_Wa_12 C d_Wa_chooseBranch_47 ?_
      refine gw_iload_n C d_Wa_chooseBranch_50 rfl 1 rfl ?_
      obtain ⟨r6, σ7, h5, hF⟩ := gw_bnd hF
      refine fc_Wa_146 (As := [.int x1]) (st := []) (σ' := σ7) C (c_Te_secondOf l D cI cL cZ ad h5) ⟨Nat.le_of_ble_eq_true rfl, Nat.le_of_ble_eq_true rfl⟩ ⟨Nat.le_of_ble_eq_true rfl, Nat.le_of_ble_eq_true rfl⟩ rfl (Nat.le_of_ble_eq_true rfl) d_Wa_chooseBranch_51 ?_
      refine gw_istore_n (lv' := [(3, .int r6), (0, .ref (ad 1)), (1, .int x1), (2, .int x2)]) C d_Wa_chooseBranch_54 rfl (by decide) rfl ?_
      refine gw_aload_n C d_Wa_chooseBranch_55 rfl 1 rfl ?_
      refine gw_iload_n C d_Wa_chooseBranch_56 rfl 0 rfl ?_
      refine gw_iload_n C d_Wa_chooseBranch_57 rfl 3 rfl ?_
      obtain ⟨σ9, h8, hF⟩ := gw_bndv hF
      refine fc_Wa_93 (As := [.int r6, .int x2]) (st := []) (σ' := σ9) C (c_Wa_takeTerm l D cI cL cZ ad h8) ⟨Nat.le_of_ble_eq_true rfl, Nat.le_of_ble_eq_true rfl⟩ ⟨Nat.le_of_ble_eq_true rfl, Nat.le_of_ble_eq_true rfl⟩ rfl (Nat.le_of_ble_eq_true rfl) d_Wa_chooseBranch_58 ?_
      cases hF
      exact gw_vret C hr rfl d_Wa_chooseBranch_61
    · have hF := gw_pos h4 hF
      refine gw_aload_n C d_Wa_chooseBranch_35 rfl 0 rfl ?_
      refine fg_Wa_12 C d_Wa_chooseBranch_36 ?_
      refine gw_iload_n C d_Wa_chooseBranch_39 rfl 1 rfl ?_
      obtain ⟨r11, σ12, h10, hF⟩ := gw_bnd hF
      refine fc_Wa_228 (As := [.int x1]) (st := []) (σ' := σ12) C (c_Te_thirdOf l D cI cL cZ ad h10) ⟨Nat.le_of_ble_eq_true rfl, Nat.le_of_ble_eq_true rfl⟩ ⟨Nat.le_of_ble_eq_true rfl, Nat.le_of_ble_eq_true rfl⟩ rfl (Nat.le_of_ble_eq_true rfl) d_Wa_chooseBranch_40 ?_
      refine gw_goto (tgt := 54) C d_Wa_chooseBranch_43 (by decide) ?_
      refine gw_istore_n (lv' := [(3, .int r11), (0, .ref (ad 1)), (1, .int x1), (2, .int x2)]) C d_Wa_chooseBranch_54 rfl (by decide) rfl ?_
      refine gw_aload_n C d_Wa_chooseBranch_55 rfl 1 rfl ?_
      refine gw_iload_n C d_Wa_chooseBranch_56 rfl 0 rfl ?_
      refine gw_iload_n C d_Wa_chooseBranch_57 rfl 3 rfl ?_
      obtain ⟨σ14, h13, hF⟩ := gw_bndv hF
      refine fc_Wa_93 (As := [.int r11, .int x2]) (st := []) (σ' := σ14) C (c_Wa_takeTerm l D cI cL cZ ad h13) ⟨Nat.le_of_ble_eq_true rfl, Nat.le_of_ble_eq_true rfl⟩ ⟨Nat.le_of_ble_eq_true rfl, Nat.le_of_ble_eq_true rfl⟩ rfl (Nat.le_of_ble_eq_true rfl) d_Wa_chooseBranch_58 ?_
      cases hF
      exact gw_vret C hr rfl d_Wa_chooseBranch_61
  · have hF := gw_neg h1 hF
    refine gw_aload_n C d_Wa_chooseBranch_10 rfl 0 rfl ?_
    refine gw_iconst (v := 4) C d_Wa_chooseBranch_11 (by decide) ?_
    refine fp_Wa_46 C d_Wa_chooseBranch_12 ?_
    cases hF
    exact gw_vret C hr rfl d_Wa_chooseBranch_15
set_option maxRecDepth 100000 in
set_option maxHeartbeats 4000000 in
theorem c_Wa_takeOfPair (l : Launch) (D : va_G) (cI cL cZ : ClassId) (ad : Nat → Nat) {σ : St} {x1 : Int32} {σ' : St} (hF : F_Wa_takeOfPair σ x1 = some σ') : gw_M l y_Wa_takeOfPair w_Wa_takeOfPair rm_Wa_takeOfPair D gw_cl (gw_ty cI cL cZ) [.ref (ad 1), .int x1] (wC ad cI cL cZ σ) (wC ad cI cL cZ σ') none := by
  refine gw_start (cc := b_Wa_takeOfPair) (nL := 2) (ret := none) (by decide) rfl (Nat.le_of_ble_eq_true rfl) (fun p e s m below meth c A C hr _ => ?_)
  refine gw_eq (lv' := [(0, .ref (ad 1)), (1, .int x1)]) rfl rfl ?_
  unfold F_Wa_takeOfPair at hF
  refine gw_aload_n C d_Wa_takeOfPair_0 rfl 0 rfl ?_
  refine fg_Wa_42 C d_Wa_takeOfPair_1 ?_
  refine fg_Wa_248 (v := σ.1 19) C rfl d_Wa_takeOfPair_4 ?_
  refine gw_iconst (v := 2) C d_Wa_takeOfPair_7 (by decide) ?_
  refine gw_icmp_eq (tgt := 17) C d_Wa_takeOfPair_8 (by decide) (fun h1 => ?_) (fun h1 => ?_)
  · have hF := gw_pos h1 hF
    refine gw_aload_n C d_Wa_takeOfPair_17 rfl 0 rfl ?_
    refine gw_iload_n C d_Wa_takeOfPair_18 rfl 1 rfl ?_
    refine gw_iconst (v := 1) C d_Wa_takeOfPair_19 (by decide) ?_
    obtain ⟨σ3, h2, hF⟩ := gw_bndv hF
    refine fc_Wa_107 (As := [.int x1, .int 1]) (st := []) (σ' := σ3) C (c_Wa_need l D cI cL cZ ad h2) ⟨Nat.le_of_ble_eq_true rfl, Nat.le_of_ble_eq_true rfl⟩ ⟨Nat.le_of_ble_eq_true rfl, Nat.le_of_ble_eq_true rfl⟩ rfl (Nat.le_of_ble_eq_true rfl) d_Wa_takeOfPair_20 ?_
    cases hF
    exact gw_vret C hr rfl d_Wa_takeOfPair_23
  · have hF := gw_neg h1 hF
    refine gw_aload_n C d_Wa_takeOfPair_11 rfl 0 rfl ?_
    refine gw_iconst (v := 4) C d_Wa_takeOfPair_12 (by decide) ?_
    refine fp_Wa_46 C d_Wa_takeOfPair_13 ?_
    cases hF
    exact gw_vret C hr rfl d_Wa_takeOfPair_16
set_option maxRecDepth 100000 in
set_option maxHeartbeats 4000000 in
theorem c_Wa_stepWithValue (l : Launch) (D : va_G) (cI cL cZ : ClassId) (ad : Nat → Nat) {σ : St} {σ' : St} (hF : F_Wa_stepWithValue σ = some σ') : gw_M l y_Wa_stepWithValue w_Wa_stepWithValue rm_Wa_stepWithValue D gw_cl (gw_ty cI cL cZ) [.ref (ad 1)] (wC ad cI cL cZ σ) (wC ad cI cL cZ σ') none := by
  refine gw_start (cc := b_Wa_stepWithValue) (nL := 2) (ret := none) (by decide) rfl (Nat.le_of_ble_eq_true rfl) (fun p e s m below meth c A C hr _ => ?_)
  refine gw_eq (lv' := [(0, .ref (ad 1))]) rfl rfl ?_
  unfold F_Wa_stepWithValue at hF
  refine gw_aload_n C d_Wa_stepWithValue_0 rfl 0 rfl ?_
  refine fg_Wa_35 C d_Wa_stepWithValue_1 ?_
  obtain ⟨r2, σ3, h1, hF⟩ := gw_bnd hF
  refine fc_Wa_215 (As := []) (st := []) (σ' := σ3) C (c_Ro_newest l D cI cL cZ ad h1) ⟨Nat.le_of_ble_eq_true rfl, Nat.le_of_ble_eq_true rfl⟩ ⟨Nat.le_of_ble_eq_true rfl, Nat.le_of_ble_eq_true rfl⟩ rfl (Nat.le_of_ble_eq_true rfl) d_Wa_stepWithValue_4 ?_
  refine gw_istore_n (lv' := [(1, .int r2), (0, .ref (ad 1))]) C d_Wa_stepWithValue_7 rfl (by decide) rfl ?_
  refine gw_aload_n C d_Wa_stepWithValue_8 rfl 1 rfl ?_
  refine fg_Wa_35 C d_Wa_stepWithValue_9 ?_
  refine gw_iload_n C d_Wa_stepWithValue_12 rfl 0 rfl ?_
  obtain ⟨r5, σ6, h4, hF⟩ := gw_bnd hF
  refine fc_Wa_124 (As := [.int r2]) (st := []) (σ' := σ6) C (c_Ro_kindOf l D cI cL cZ ad h4) ⟨Nat.le_of_ble_eq_true rfl, Nat.le_of_ble_eq_true rfl⟩ ⟨Nat.le_of_ble_eq_true rfl, Nat.le_of_ble_eq_true rfl⟩ rfl (Nat.le_of_ble_eq_true rfl) d_Wa_stepWithValue_13 ?_
  by_cases h7 : r5 = 0
  · have hF := gw_pos h7 hF
    refine gw_tableIn (tgt := 60) C d_Wa_stepWithValue_16 (by rw [h7]; decide) (by rw [h7]; decide) (by rw [h7]; rfl) (by decide) ?_
    refine gw_aload_n C d_Wa_stepWithValue_60 rfl 1 rfl ?_
    refine fg_Wa_28 C d_Wa_stepWithValue_61 ?_
    refine gw_aload_n C d_Wa_stepWithValue_64 rfl 1 rfl ?_
    refine fg_Wa_35 C d_Wa_stepWithValue_65 ?_
    refine gw_iload_n C d_Wa_stepWithValue_68 rfl 0 rfl ?_
    obtain ⟨r9, σ10, h8, hF⟩ := gw_bnd hF
    refine fc_Wa_128 (As := [.int r2]) (st := [.ref (ad 4)]) (σ' := σ10) C (c_Ro_firstOf l D cI cL cZ ad h8) ⟨Nat.le_of_ble_eq_true rfl, Nat.le_of_ble_eq_true rfl⟩ ⟨Nat.le_of_ble_eq_true rfl, Nat.le_of_ble_eq_true rfl⟩ rfl (Nat.le_of_ble_eq_true rfl) d_Wa_stepWithValue_69 ?_
    refine gw_aload_n C d_Wa_stepWithValue_72 rfl 1 rfl ?_
    refine fg_Wa_42 C d_Wa_stepWithValue_73 ?_
    obtain ⟨σ12, h11, hF⟩ := gw_bndv hF
    refine fc_Wa_218 (As := [.int r9, .ref (ad 6)]) (st := []) (σ' := σ12) C (c_Th_finish l D cI cL cZ ad h11) ⟨Nat.le_of_ble_eq_true rfl, Nat.le_of_ble_eq_true rfl⟩ ⟨Nat.le_of_ble_eq_true rfl, Nat.le_of_ble_eq_true rfl⟩ rfl (Nat.le_of_ble_eq_true rfl) d_Wa_stepWithValue_76 ?_
    refine gw_aload_n C d_Wa_stepWithValue_79 rfl 1 rfl ?_
    refine fg_Wa_35 C d_Wa_stepWithValue_80 ?_
    obtain ⟨σ14, h13, hF⟩ := gw_bndv hF
    refine fc_Wa_190 (As := []) (st := []) (σ' := σ14) C (c_Ro_drop l D cI cL cZ ad h13) ⟨Nat.le_of_ble_eq_true rfl, Nat.le_of_ble_eq_true rfl⟩ ⟨Nat.le_of_ble_eq_true rfl, Nat.le_of_ble_eq_true rfl⟩ rfl (Nat.le_of_ble_eq_true rfl) d_Wa_stepWithValue_83 ?_
    refine gw_goto (tgt := 213) C d_Wa_stepWithValue_86 (by decide) ?_
    cases hF
    exact gw_vret C hr rfl d_Wa_stepWithValue_213
  · have hF := gw_neg h7 hF
    by_cases h15 : r5 = 1
    · have hF := gw_pos h15 hF
      refine gw_tableIn (tgt := 89) C d_Wa_stepWithValue_16 (by rw [h15]; decide) (by rw [h15]; decide) (by rw [h15]; rfl) (by decide) ?_
      refine gw_aload_n C d_Wa_stepWithValue_89 rfl 1 rfl ?_
      refine gw_aload_n C d_Wa_stepWithValue_90 rfl 1 rfl ?_
      refine fg_Wa_35 C d_Wa_stepWithValue_91 ?_
      refine gw_iload_n C d_Wa_stepWithValue_94 rfl 0 rfl ?_
      obtain ⟨r17, σ18, h16, hF⟩ := gw_bnd hF
      refine fc_Wa_128 (As := [.int r2]) (st := [.ref (ad 1)]) (σ' := σ18) C (c_Ro_firstOf l D cI cL cZ ad h16) ⟨Nat.le_of_ble_eq_true rfl, Nat.le_of_ble_eq_true rfl⟩ ⟨Nat.le_of_ble_eq_true rfl, Nat.le_of_ble_eq_true rfl⟩ rfl (Nat.le_of_ble_eq_true rfl) d_Wa_stepWithValue_95 ?_
      obtain ⟨σ20, h19, hF⟩ := gw_bndv hF
      refine fc_Wa_221 (As := [.int r17]) (st := []) (σ' := σ20) C (c_Wa_giveThing l D cI cL cZ ad h19) ⟨Nat.le_of_ble_eq_true rfl, Nat.le_of_ble_eq_true rfl⟩ ⟨Nat.le_of_ble_eq_true rfl, Nat.le_of_ble_eq_true rfl⟩ rfl (Nat.le_of_ble_eq_true rfl) d_Wa_stepWithValue_98 ?_
      refine gw_goto (tgt := 213) C d_Wa_stepWithValue_101 (by decide) ?_
      cases hF
      exact gw_vret C hr rfl d_Wa_stepWithValue_213
    · have hF := gw_neg h15 hF
      by_cases h21 : r5 = 2
      · have hF := gw_pos h21 hF
        refine gw_tableIn (tgt := 104) C d_Wa_stepWithValue_16 (by rw [h21]; decide) (by rw [h21]; decide) (by rw [h21]; rfl) (by decide) ?_
        refine gw_aload_n C d_Wa_stepWithValue_104 rfl 1 rfl ?_
        refine gw_aload_n C d_Wa_stepWithValue_105 rfl 1 rfl ?_
        refine fg_Wa_35 C d_Wa_stepWithValue_106 ?_
        refine gw_iload_n C d_Wa_stepWithValue_109 rfl 0 rfl ?_
        obtain ⟨r23, σ24, h22, hF⟩ := gw_bnd hF
        refine fc_Wa_128 (As := [.int r2]) (st := [.ref (ad 1)]) (σ' := σ24) C (c_Ro_firstOf l D cI cL cZ ad h22) ⟨Nat.le_of_ble_eq_true rfl, Nat.le_of_ble_eq_true rfl⟩ ⟨Nat.le_of_ble_eq_true rfl, Nat.le_of_ble_eq_true rfl⟩ rfl (Nat.le_of_ble_eq_true rfl) d_Wa_stepWithValue_110 ?_
        refine gw_aload_n C d_Wa_stepWithValue_113 rfl 1 rfl ?_
        refine fg_Wa_35 C d_Wa_stepWithValue_114 ?_
        refine gw_iload_n C d_Wa_stepWithValue_117 rfl 0 rfl ?_
        obtain ⟨r26, σ27, h25, hF⟩ := gw_bnd hF
        refine fc_Wa_224 (As := [.int r2]) (st := [.int r23, .ref (ad 1)]) (σ' := σ27) C (c_Ro_secondOf l D cI cL cZ ad h25) ⟨Nat.le_of_ble_eq_true rfl, Nat.le_of_ble_eq_true rfl⟩ ⟨Nat.le_of_ble_eq_true rfl, Nat.le_of_ble_eq_true rfl⟩ rfl (Nat.le_of_ble_eq_true rfl) d_Wa_stepWithValue_118 ?_
        obtain ⟨σ29, h28, hF⟩ := gw_bndv hF
        refine fc_Wa_225 (As := [.int r23, .int r26]) (st := []) (σ' := σ29) C (c_Wa_thenSecond l D cI cL cZ ad h28) ⟨Nat.le_of_ble_eq_true rfl, Nat.le_of_ble_eq_true rfl⟩ ⟨Nat.le_of_ble_eq_true rfl, Nat.le_of_ble_eq_true rfl⟩ rfl (Nat.le_of_ble_eq_true rfl) d_Wa_stepWithValue_121 ?_
        refine gw_goto (tgt := 213) C d_Wa_stepWithValue_124 (by decide) ?_
        cases hF
        exact gw_vret C hr rfl d_Wa_stepWithValue_213
      · have hF := gw_neg h21 hF
        by_cases h30 : r5 = 3
        · have hF := gw_pos h30 hF
          refine gw_tableIn (tgt := 127) C d_Wa_stepWithValue_16 (by rw [h30]; decide) (by rw [h30]; decide) (by rw [h30]; rfl) (by decide) ?_
          refine gw_aload_n C d_Wa_stepWithValue_127 rfl 1 rfl ?_
          refine gw_aload_n C d_Wa_stepWithValue_128 rfl 1 rfl ?_
          refine fg_Wa_12 C d_Wa_stepWithValue_129 ?_
          refine gw_aload_n C d_Wa_stepWithValue_132 rfl 1 rfl ?_
          refine fg_Wa_35 C d_Wa_stepWithValue_133 ?_
          refine gw_iload_n C d_Wa_stepWithValue_136 rfl 0 rfl ?_
          obtain ⟨r32, σ33, h31, hF⟩ := gw_bnd hF
          refine fc_Wa_128 (As := [.int r2]) (st := [.ref (ad 2), .ref (ad 1)]) (σ' := σ33) C (c_Ro_firstOf l D cI cL cZ ad h31) ⟨Nat.le_of_ble_eq_true rfl, Nat.le_of_ble_eq_true rfl⟩ ⟨Nat.le_of_ble_eq_true rfl, Nat.le_of_ble_eq_true rfl⟩ rfl (Nat.le_of_ble_eq_true rfl) d_Wa_stepWithValue_137 ?_
          obtain ⟨r35, σ36, h34, hF⟩ := gw_bnd hF
          refine fc_Wa_228 (As := [.int r32]) (st := [.ref (ad 1)]) (σ' := σ36) C (c_Te_thirdOf l D cI cL cZ ad h34) ⟨Nat.le_of_ble_eq_true rfl, Nat.le_of_ble_eq_true rfl⟩ ⟨Nat.le_of_ble_eq_true rfl, Nat.le_of_ble_eq_true rfl⟩ rfl (Nat.le_of_ble_eq_true rfl) d_Wa_stepWithValue_140 ?_
          refine gw_aload_n C d_Wa_stepWithValue_143 rfl 1 rfl ?_
          refine fg_Wa_35 C d_Wa_stepWithValue_144 ?_
          refine gw_iload_n C d_Wa_stepWithValue_147 rfl 0 rfl ?_
          obtain ⟨r38, σ39, h37, hF⟩ := gw_bnd hF
          refine fc_Wa_231 (As := [.int r2]) (st := [.int r35, .ref (ad 1)]) (σ' := σ39) C (c_Ro_numberOf l D cI cL cZ ad h37) ⟨Nat.le_of_ble_eq_true rfl, Nat.le_of_ble_eq_true rfl⟩ ⟨Nat.le_of_ble_eq_true rfl, Nat.le_of_ble_eq_true rfl⟩ rfl (Nat.le_of_ble_eq_true rfl) d_Wa_stepWithValue_148 ?_
          obtain ⟨σ41, h40, hF⟩ := gw_bndv hF
          refine fc_Wa_232 (As := [.int r35, .long r38]) (st := []) (σ' := σ41) C (c_Wa_actWith l D cI cL cZ ad h40) ⟨Nat.le_of_ble_eq_true rfl, Nat.le_of_ble_eq_true rfl⟩ ⟨Nat.le_of_ble_eq_true rfl, Nat.le_of_ble_eq_true rfl⟩ rfl (Nat.le_of_ble_eq_true rfl) d_Wa_stepWithValue_151 ?_
          refine gw_goto (tgt := 213) C d_Wa_stepWithValue_154 (by decide) ?_
          cases hF
          exact gw_vret C hr rfl d_Wa_stepWithValue_213
        · have hF := gw_neg h30 hF
          by_cases h42 : r5 = 4
          · have hF := gw_pos h42 hF
            refine gw_tableIn (tgt := 157) C d_Wa_stepWithValue_16 (by rw [h42]; decide) (by rw [h42]; decide) (by rw [h42]; rfl) (by decide) ?_
            refine gw_aload_n C d_Wa_stepWithValue_157 rfl 1 rfl ?_
            refine gw_aload_n C d_Wa_stepWithValue_158 rfl 1 rfl ?_
            refine fg_Wa_35 C d_Wa_stepWithValue_159 ?_
            refine gw_iload_n C d_Wa_stepWithValue_162 rfl 0 rfl ?_
            obtain ⟨r44, σ45, h43, hF⟩ := gw_bnd hF
            refine fc_Wa_128 (As := [.int r2]) (st := [.ref (ad 1)]) (σ' := σ45) C (c_Ro_firstOf l D cI cL cZ ad h43) ⟨Nat.le_of_ble_eq_true rfl, Nat.le_of_ble_eq_true rfl⟩ ⟨Nat.le_of_ble_eq_true rfl, Nat.le_of_ble_eq_true rfl⟩ rfl (Nat.le_of_ble_eq_true rfl) d_Wa_stepWithValue_163 ?_
            refine gw_aload_n C d_Wa_stepWithValue_166 rfl 1 rfl ?_
            refine fg_Wa_35 C d_Wa_stepWithValue_167 ?_
            refine gw_iload_n C d_Wa_stepWithValue_170 rfl 0 rfl ?_
            obtain ⟨r47, σ48, h46, hF⟩ := gw_bnd hF
            refine fc_Wa_224 (As := [.int r2]) (st := [.int r44, .ref (ad 1)]) (σ' := σ48) C (c_Ro_secondOf l D cI cL cZ ad h46) ⟨Nat.le_of_ble_eq_true rfl, Nat.le_of_ble_eq_true rfl⟩ ⟨Nat.le_of_ble_eq_true rfl, Nat.le_of_ble_eq_true rfl⟩ rfl (Nat.le_of_ble_eq_true rfl) d_Wa_stepWithValue_171 ?_
            obtain ⟨σ50, h49, hF⟩ := gw_bndv hF
            refine fc_Wa_236 (As := [.int r44, .int r47]) (st := []) (σ' := σ50) C (c_Wa_chooseBranch l D cI cL cZ ad h49) ⟨Nat.le_of_ble_eq_true rfl, Nat.le_of_ble_eq_true rfl⟩ ⟨Nat.le_of_ble_eq_true rfl, Nat.le_of_ble_eq_true rfl⟩ rfl (Nat.le_of_ble_eq_true rfl) d_Wa_stepWithValue_174 ?_
            refine gw_goto (tgt := 213) C d_Wa_stepWithValue_177 (by decide) ?_
            cases hF
            exact gw_vret C hr rfl d_Wa_stepWithValue_213
          · have hF := gw_neg h42 hF
            by_cases h51 : r5 = 5
            · have hF := gw_pos h51 hF
              refine gw_tableIn (tgt := 180) C d_Wa_stepWithValue_16 (by rw [h51]; decide) (by rw [h51]; decide) (by rw [h51]; rfl) (by decide) ?_
              refine gw_aload_n C d_Wa_stepWithValue_180 rfl 1 rfl ?_
              refine gw_aload_n C d_Wa_stepWithValue_181 rfl 1 rfl ?_
              refine fg_Wa_42 C d_Wa_stepWithValue_182 ?_
              refine fg_Wa_239 (v := σ6.1 20) C rfl d_Wa_stepWithValue_185 ?_
              obtain ⟨σ53, h52, hF⟩ := gw_bndv hF
              refine fc_Wa_242 (As := [.int (σ6.1 20)]) (st := []) (σ' := σ53) C (c_Wa_takeOfPair l D cI cL cZ ad h52) ⟨Nat.le_of_ble_eq_true rfl, Nat.le_of_ble_eq_true rfl⟩ ⟨Nat.le_of_ble_eq_true rfl, Nat.le_of_ble_eq_true rfl⟩ rfl (Nat.le_of_ble_eq_true rfl) d_Wa_stepWithValue_188 ?_
              refine gw_goto (tgt := 213) C d_Wa_stepWithValue_191 (by decide) ?_
              cases hF
              exact gw_vret C hr rfl d_Wa_stepWithValue_213
            · have hF := gw_neg h51 hF
              by_cases h54 : r5 = 6
              · have hF := gw_pos h54 hF
                refine gw_tableIn (tgt := 194) C d_Wa_stepWithValue_16 (by rw [h54]; decide) (by rw [h54]; decide) (by rw [h54]; rfl) (by decide) ?_
                refine gw_aload_n C d_Wa_stepWithValue_194 rfl 1 rfl ?_
                refine gw_aload_n C d_Wa_stepWithValue_195 rfl 1 rfl ?_
                refine fg_Wa_42 C d_Wa_stepWithValue_196 ?_
                refine fg_Wa_245 (v := σ6.1 21) C rfl d_Wa_stepWithValue_199 ?_
                obtain ⟨σ56, h55, hF⟩ := gw_bndv hF
                refine fc_Wa_242 (As := [.int (σ6.1 21)]) (st := []) (σ' := σ56) C (c_Wa_takeOfPair l D cI cL cZ ad h55) ⟨Nat.le_of_ble_eq_true rfl, Nat.le_of_ble_eq_true rfl⟩ ⟨Nat.le_of_ble_eq_true rfl, Nat.le_of_ble_eq_true rfl⟩ rfl (Nat.le_of_ble_eq_true rfl) d_Wa_stepWithValue_202 ?_
                refine gw_goto (tgt := 213) C d_Wa_stepWithValue_205 (by decide) ?_
                cases hF
                exact gw_vret C hr rfl d_Wa_stepWithValue_213
              · have hF := gw_neg h54 hF
                refine gw_tableOut (tgt := 208) C d_Wa_stepWithValue_16 (gw_out7 h7 h15 h21 h30 h42 h51 h54) (by decide) ?_
                refine gw_aload_n C d_Wa_stepWithValue_208 rfl 1 rfl ?_
                refine gw_iconst (v := 4) C d_Wa_stepWithValue_209 (by decide) ?_
                refine fp_Wa_46 C d_Wa_stepWithValue_210 ?_
                cases hF
                exact gw_vret C hr rfl d_Wa_stepWithValue_213
