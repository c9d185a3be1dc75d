set_option maxRecDepth 100000 in
set_option maxHeartbeats 4000000 in
theorem k_Mo_goOnWithValue_97 {p : Program} (l : Launch) {e : Env} {s : State} {m : MethodId} {args : Array Value} {below : List Frame} {meth : Method} {c : Code} {D : va_G} {A : Nat → Prop} {cI cL cZ : ClassId} {ad : Nat → Nat} (C : gw_C p s m args meth c b_Mo_goOnWithValue 4 R_Mo D gw_cl (gw_ty cI cL cZ) A) (hr : meth.sig.returnType = none) {σ : St} {x1 : Int32} {x2 : Int32} {y0 : Int32} {σ' : St} (hF : K_Mo_goOnWithValue_97 σ x1 x2 y0 = some σ') : gw_W p l e rm_Mo_goOnWithValue s m args below meth c D gw_cl A (MQ below (gw_Qc D gw_cl (wM ad cI cL cZ σ') none A) args s 0 0 A) 0 0 4 (wM ad cI cL cZ σ) [(0, .ref (ad 0)), (1, .int x1), (2, .int x2)] 97 [.int y0] := by
  unfold K_Mo_goOnWithValue_97 at hF
  refine gw_istore_n (lv' := [(3, .int y0), (0, .ref (ad 0)), (1, .int x1), (2, .int x2)]) C d_Mo_goOnWithValue_97 rfl (by decide) rfl ?_
  refine gw_aload_n C d_Mo_goOnWithValue_98 rfl 1 rfl ?_
  refine fg_Mo_157 (v := σ.1 10) C rfl d_Mo_goOnWithValue_99 ?_
  refine gw_iload_n C d_Mo_goOnWithValue_102 rfl 0 rfl ?_
  refine gw_icmp_eq (tgt := 114) C d_Mo_goOnWithValue_103 (by decide) (fun h5 => ?_) (fun h5 => ?_)
  · have hF := gw_pos h5 hF
    refine gw_iload_n C d_Mo_goOnWithValue_114 rfl 3 rfl ?_
    refine gw_iconst (v := 1) C d_Mo_goOnWithValue_115 (by decide) ?_
    refine gw_icmp_ne (tgt := 159) C d_Mo_goOnWithValue_116 (by decide) (fun h6 => ?_) (fun h6 => ?_)
    · have hF := gw_neg h6 hF
      refine gw_iload_n C d_Mo_goOnWithValue_159 rfl 3 rfl ?_
      refine gw_iconst (v := 2) C d_Mo_goOnWithValue_160 (by decide) ?_
      refine gw_icmp_ne (tgt := 205) C d_Mo_goOnWithValue_161 (by decide) (fun h7 => ?_) (fun h7 => ?_)
      · have hF := gw_neg h7 hF
        refine gw_iload_n C d_Mo_goOnWithValue_205 rfl 3 rfl ?_
        refine gw_iconst (v := 3) C d_Mo_goOnWithValue_206 (by decide) ?_
        refine gw_icmp_ne (tgt := 241) C d_Mo_goOnWithValue_207 (by decide) (fun h8 => ?_) (fun h8 => ?_)
        · have hF := gw_neg h8 hF
          refine gw_iload_n C d_Mo_goOnWithValue_241 rfl 3 rfl ?_
          refine gw_iconst (v := 4) C d_Mo_goOnWithValue_242 (by decide) ?_
          refine gw_icmp_ne (tgt := 298) C d_Mo_goOnWithValue_243 (by decide) (fun h9 => ?_) (fun h9 => ?_)
          · have hF := gw_neg h9 hF
            refine gw_aload_n C d_Mo_goOnWithValue_298 rfl 1 rfl ?_
            refine gw_iload_n C d_Mo_goOnWithValue_299 rfl 3 rfl ?_
            refine gw_iconst (v := 5) C d_Mo_goOnWithValue_300 (by decide) ?_
            refine gw_icmp_ne (tgt := 311) C d_Mo_goOnWithValue_301 (by decide) (fun h10 => ?_) (fun h10 => ?_)
            · have hF := gw_neg h10 hF
              refine gw_aload_n C d_Mo_goOnWithValue_311 rfl 1 rfl ?_
              refine fg_Mo_167 (v := σ.1 12) C rfl d_Mo_goOnWithValue_312 ?_
              refine gw_iconst (v := 1) C d_Mo_goOnWithValue_315 (by decide) ?_
              obtain ⟨σ12, h11, hF⟩ := gw_bndv hF
              refine fc_Mo_183 (As := [.int (σ.1 12), .int 1]) (st := []) (σ' := σ12) C (c_Mo_need l D cI cL cZ ad h11) ⟨Nat.le_of_ble_eq_true rfl, Nat.le_of_ble_eq_true rfl⟩ ⟨Nat.le_of_ble_eq_true rfl, Nat.le_of_ble_eq_true rfl⟩ rfl (Nat.le_of_ble_eq_true rfl) d_Mo_goOnWithValue_316 ?_
              cases hF
              exact gw_vret C hr rfl d_Mo_goOnWithValue_319
            · have hF := gw_pos h10 hF
              refine gw_aload_n C d_Mo_goOnWithValue_304 rfl 1 rfl ?_
              refine fg_Mo_164 (v := σ.1 11) C rfl d_Mo_goOnWithValue_305 ?_
              refine gw_goto (tgt := 315) C d_Mo_goOnWithValue_308 (by decide) ?_
              refine gw_iconst (v := 1) C d_Mo_goOnWithValue_315 (by decide) ?_
              obtain ⟨σ14, h13, hF⟩ := gw_bndv hF
              refine fc_Mo_183 (As := [.int (σ.1 11), .int 1]) (st := []) (σ' := σ14) C (c_Mo_need l D cI cL cZ ad h13) ⟨Nat.le_of_ble_eq_true rfl, Nat.le_of_ble_eq_true rfl⟩ ⟨Nat.le_of_ble_eq_true rfl, Nat.le_of_ble_eq_true rfl⟩ rfl (Nat.le_of_ble_eq_true rfl) d_Mo_goOnWithValue_316 ?_
              cases hF
              exact gw_vret C hr rfl d_Mo_goOnWithValue_319
          · have hF := gw_pos h9 hF
            refine gw_aload_n C d_Mo_goOnWithValue_246 rfl 1 rfl ?_
            refine gw_iload_n C d_Mo_goOnWithValue_247 rfl 2 rfl ?_
            refine fp_Mo_122 C d_Mo_goOnWithValue_248 ?_
            refine gw_aload_n C d_Mo_goOnWithValue_251 rfl 1 rfl ?_
            refine gw_aload_n C d_Mo_goOnWithValue_252 rfl 1 rfl ?_
            refine fg_Mo_160 (v := σ.2.2.1 0) C rfl d_Mo_goOnWithValue_253 ?_
            refine gw_lconst (v := 0) C d_Mo_goOnWithValue_256 rfl ?_
            refine gw_lcmp C d_Mo_goOnWithValue_257 ?_
            refine gw_if_ne (tgt := 275) C d_Mo_goOnWithValue_258 (by decide) (fun h15 => ?_) (fun h15 => ?_)
            · have hF := gw_neg h15 hF
              refine gw_aload_n C d_Mo_goOnWithValue_275 rfl 1 rfl ?_
              refine fg_Mo_13 C d_Mo_goOnWithValue_276 ?_
              refine gw_aload_n C d_Mo_goOnWithValue_279 rfl 1 rfl ?_
              refine fg_Mo_69 C d_Mo_goOnWithValue_280 ?_
              refine gw_iload_n C d_Mo_goOnWithValue_283 rfl 2 rfl ?_
              obtain ⟨h16, hF⟩ := gw_grd hF
              refine alwM_20 (v := σ.2.1 17 x1.toNatClampNeg) C h16 rfl d_Mo_goOnWithValue_284 ?_
              obtain ⟨h17, hF⟩ := gw_grd hF
              refine alwM_2 (v := σ.2.1 1 ((σ.2.1 17 x1.toNatClampNeg).toNatClampNeg)) C h17 rfl d_Mo_goOnWithValue_285 ?_
              refine gw_aload_n C d_Mo_goOnWithValue_286 rfl 1 rfl ?_
              refine fg_Mo_72 C d_Mo_goOnWithValue_287 ?_
              refine gw_iload_n C d_Mo_goOnWithValue_290 rfl 2 rfl ?_
              obtain ⟨h18, hF⟩ := gw_grd hF
              refine alwM_21 (v := σ.2.1 18 x1.toNatClampNeg) C h18 rfl d_Mo_goOnWithValue_291 ?_
              obtain ⟨σ20, h19, hF⟩ := gw_bndv hF
              refine fc_Mo_144 (As := [.int (σ.2.1 1 ((σ.2.1 17 x1.toNatClampNeg).toNatClampNeg)), .int (σ.2.1 18 x1.toNatClampNeg)]) (st := []) (σ' := σ20) C (c_Mo_atHand l D cI cL cZ ad h19) ⟨Nat.le_of_ble_eq_true rfl, Nat.le_of_ble_eq_true rfl⟩ ⟨Nat.le_of_ble_eq_true rfl, Nat.le_of_ble_eq_true rfl⟩ rfl (Nat.le_of_ble_eq_true rfl) d_Mo_goOnWithValue_292 ?_
              refine gw_goto (tgt := 319) C d_Mo_goOnWithValue_295 (by decide) ?_
              cases hF
              exact gw_vret C hr rfl d_Mo_goOnWithValue_319
            · have hF := gw_pos h15 hF
              refine gw_aload_n C d_Mo_goOnWithValue_261 rfl 1 rfl ?_
              refine fg_Mo_16 C d_Mo_goOnWithValue_262 ?_
              refine gw_aload_n C d_Mo_goOnWithValue_265 rfl 1 rfl ?_
              refine fg_Mo_69 C d_Mo_goOnWithValue_266 ?_
              refine gw_iload_n C d_Mo_goOnWithValue_269 rfl 2 rfl ?_
              obtain ⟨h21, hF⟩ := gw_grd hF
              refine alwM_20 (v := σ.2.1 17 x1.toNatClampNeg) C h21 rfl d_Mo_goOnWithValue_270 ?_
              obtain ⟨h22, hF⟩ := gw_grd hF
              refine alwM_3 (v := σ.2.1 2 ((σ.2.1 17 x1.toNatClampNeg).toNatClampNeg)) C h22 rfl d_Mo_goOnWithValue_271 ?_
              refine gw_goto (tgt := 286) C d_Mo_goOnWithValue_272 (by decide) ?_
              refine gw_aload_n C d_Mo_goOnWithValue_286 rfl 1 rfl ?_
              refine fg_Mo_72 C d_Mo_goOnWithValue_287 ?_
              refine gw_iload_n C d_Mo_goOnWithValue_290 rfl 2 rfl ?_
              obtain ⟨h23, hF⟩ := gw_grd hF
              refine alwM_21 (v := σ.2.1 18 x1.toNatClampNeg) C h23 rfl d_Mo_goOnWithValue_291 ?_
              obtain ⟨σ25, h24, hF⟩ := gw_bndv hF
              refine fc_Mo_144 (As := [.int (σ.2.1 2 ((σ.2.1 17 x1.toNatClampNeg).toNatClampNeg)), .int (σ.2.1 18 x1.toNatClampNeg)]) (st := []) (σ' := σ25) C (c_Mo_atHand l D cI cL cZ ad h24) ⟨Nat.le_of_ble_eq_true rfl, Nat.le_of_ble_eq_true rfl⟩ ⟨Nat.le_of_ble_eq_true rfl, Nat.le_of_ble_eq_true rfl⟩ rfl (Nat.le_of_ble_eq_true rfl) d_Mo_goOnWithValue_292 ?_
              refine gw_goto (tgt := 319) C d_Mo_goOnWithValue_295 (by decide) ?_
              cases hF
              exact gw_vret C hr rfl d_Mo_goOnWithValue_319
        · have hF := gw_pos h8 hF
          refine gw_aload_n C d_Mo_goOnWithValue_210 rfl 1 rfl ?_
          refine gw_aload_n C d_Mo_goOnWithValue_211 rfl 1 rfl ?_
          refine fg_Mo_7 C d_Mo_goOnWithValue_212 ?_
          refine gw_aload_n C d_Mo_goOnWithValue_215 rfl 1 rfl ?_
          refine fg_Mo_69 C d_Mo_goOnWithValue_216 ?_
          refine gw_iload_n C d_Mo_goOnWithValue_219 rfl 2 rfl ?_
          obtain ⟨h26, hF⟩ := gw_grd hF
          refine alwM_20 (v := σ.2.1 17 x1.toNatClampNeg) C h26 rfl d_Mo_goOnWithValue_220 ?_
          obtain ⟨h27, hF⟩ := gw_grd hF
          refine alwM_1 (v := σ.2.1 0 ((σ.2.1 17 x1.toNatClampNeg).toNatClampNeg)) C h27 rfl d_Mo_goOnWithValue_221 ?_
          refine gw_bipush (v := 8) C d_Mo_goOnWithValue_222 (by decide) ?_
          refine gw_isub C d_Mo_goOnWithValue_224 ?_
          refine gw_aload_n C d_Mo_goOnWithValue_225 rfl 1 rfl ?_
          refine fg_Mo_75 C d_Mo_goOnWithValue_226 ?_
          refine gw_iload_n C d_Mo_goOnWithValue_229 rfl 2 rfl ?_
          obtain ⟨h28, hF⟩ := gw_grd hF
          refine alwM_22 (v := σ.2.2.2 2 x1.toNatClampNeg) C h28 rfl d_Mo_goOnWithValue_230 ?_
          refine gw_aload_n C d_Mo_goOnWithValue_231 rfl 1 rfl ?_
          refine fg_Mo_160 (v := σ.2.2.1 0) C rfl d_Mo_goOnWithValue_232 ?_
          obtain ⟨σ30, h29, hF⟩ := gw_bndv hF
          refine fc_Mo_226 (As := [.int ((σ.2.1 0 ((σ.2.1 17 x1.toNatClampNeg).toNatClampNeg)) - 8), .long (σ.2.2.2 2 x1.toNatClampNeg), .long (σ.2.2.1 0)]) (st := []) (σ' := σ30) C (c_Mo_act l D cI cL cZ ad h29) ⟨Nat.le_of_ble_eq_true rfl, Nat.le_of_ble_eq_true rfl⟩ ⟨Nat.le_of_ble_eq_true rfl, Nat.le_of_ble_eq_true rfl⟩ rfl (Nat.le_of_ble_eq_true rfl) d_Mo_goOnWithValue_235 ?_
          refine gw_goto (tgt := 319) C d_Mo_goOnWithValue_238 (by decide) ?_
          cases hF
          exact gw_vret C hr rfl d_Mo_goOnWithValue_319
      · have hF := gw_pos h7 hF
        refine gw_aload_n C d_Mo_goOnWithValue_164 rfl 1 rfl ?_
        refine fg_Mo_66 C d_Mo_goOnWithValue_165 ?_
        refine gw_iload_n C d_Mo_goOnWithValue_168 rfl 2 rfl ?_
        refine gw_iconst (v := 3) C d_Mo_goOnWithValue_169 (by decide) ?_
        obtain ⟨h31, hF⟩ := gw_grd hF
        refine aswM_19 C h31 d_Mo_goOnWithValue_170 ?_
        refine gw_aload_n C d_Mo_goOnWithValue_171 rfl 1 rfl ?_
        refine fg_Mo_75 C d_Mo_goOnWithValue_172 ?_
        refine gw_iload_n C d_Mo_goOnWithValue_175 rfl 2 rfl ?_
        refine gw_aload_n C d_Mo_goOnWithValue_176 rfl 1 rfl ?_
        refine fg_Mo_160 (v := σ.2.2.1 0) C rfl d_Mo_goOnWithValue_177 ?_
        obtain ⟨h32, hF⟩ := gw_grd hF
        refine aswM_22 C h32 d_Mo_goOnWithValue_180 ?_
        refine gw_aload_n C d_Mo_goOnWithValue_181 rfl 1 rfl ?_
        refine gw_aload_n C d_Mo_goOnWithValue_182 rfl 1 rfl ?_
        refine fg_Mo_16 C d_Mo_goOnWithValue_183 ?_
        refine gw_aload_n C d_Mo_goOnWithValue_186 rfl 1 rfl ?_
        refine fg_Mo_69 C d_Mo_goOnWithValue_187 ?_
        refine gw_iload_n C d_Mo_goOnWithValue_190 rfl 2 rfl ?_
        obtain ⟨h33, hF⟩ := gw_grd hF
        refine alwM_20 (v := σ.2.1 17 x1.toNatClampNeg) C h33 rfl d_Mo_goOnWithValue_191 ?_
        obtain ⟨h34, hF⟩ := gw_grd hF
        refine alwM_3 (v := σ.2.1 2 ((σ.2.1 17 x1.toNatClampNeg).toNatClampNeg)) C h34 rfl d_Mo_goOnWithValue_192 ?_
        refine gw_aload_n C d_Mo_goOnWithValue_193 rfl 1 rfl ?_
        refine fg_Mo_72 C d_Mo_goOnWithValue_194 ?_
        refine gw_iload_n C d_Mo_goOnWithValue_197 rfl 2 rfl ?_
        obtain ⟨h35, hF⟩ := gw_grd hF
        refine alwM_21 (v := σ.2.1 18 x1.toNatClampNeg) C h35 rfl d_Mo_goOnWithValue_198 ?_
        obtain ⟨σ37, h36, hF⟩ := gw_bndv hF
        refine fc_Mo_144 (As := [.int (σ.2.1 2 ((σ.2.1 17 x1.toNatClampNeg).toNatClampNeg)), .int (σ.2.1 18 x1.toNatClampNeg)]) (st := []) (σ' := σ37) C (c_Mo_atHand l D cI cL cZ ad h36) ⟨Nat.le_of_ble_eq_true rfl, Nat.le_of_ble_eq_true rfl⟩ ⟨Nat.le_of_ble_eq_true rfl, Nat.le_of_ble_eq_true rfl⟩ rfl (Nat.le_of_ble_eq_true rfl) d_Mo_goOnWithValue_199 ?_
        refine gw_goto (tgt := 319) C d_Mo_goOnWithValue_202 (by decide) ?_
        cases hF
        exact gw_vret C hr rfl d_Mo_goOnWithValue_319
    · have hF := gw_pos h6 hF
      refine gw_aload_n C d_Mo_goOnWithValue_119 rfl 1 rfl ?_
      refine gw_iconst (v := 0) C d_Mo_goOnWithValue_120 (by decide) ?_
      refine gw_iconst (v := 1) C d_Mo_goOnWithValue_121 (by decide) ?_
      refine gw_iconst (v := (-1)) C d_Mo_goOnWithValue_122 (by decide) ?_
      obtain ⟨r39, σ40, h38, hF⟩ := gw_bnd hF
      refine fc_Mo_216 (As := [.int 0, .int 1, .int (-1)]) (st := []) (σ' := σ40) C (c_Mo_hasRoom l D cI cL cZ ad h38) ⟨Nat.le_of_ble_eq_true rfl, Nat.le_of_ble_eq_true rfl⟩ ⟨Nat.le_of_ble_eq_true rfl, Nat.le_of_ble_eq_true rfl⟩ rfl (Nat.le_of_ble_eq_true rfl) d_Mo_goOnWithValue_123 ?_
      refine gw_if_eq (tgt := 319) C d_Mo_goOnWithValue_126 (by decide) (fun h41 => ?_) (fun h41 => ?_)
      · have hF := gw_pos h41 hF
        cases hF
        exact gw_vret C hr rfl d_Mo_goOnWithValue_319
      · have hF := gw_neg h41 hF
        refine gw_aload_n C d_Mo_goOnWithValue_129 rfl 1 rfl ?_
        refine gw_iload_n C d_Mo_goOnWithValue_130 rfl 2 rfl ?_
        refine fp_Mo_122 C d_Mo_goOnWithValue_131 ?_
        refine gw_aload_n C d_Mo_goOnWithValue_134 rfl 1 rfl ?_
        refine gw_aload_n C d_Mo_goOnWithValue_135 rfl 1 rfl ?_
        refine fg_Mo_164 (v := σ40.1 11) C rfl d_Mo_goOnWithValue_136 ?_
        refine gw_aload_n C d_Mo_goOnWithValue_139 rfl 1 rfl ?_
        refine gw_aload_n C d_Mo_goOnWithValue_140 rfl 1 rfl ?_
        refine fg_Mo_69 C d_Mo_goOnWithValue_141 ?_
        refine gw_iload_n C d_Mo_goOnWithValue_144 rfl 2 rfl ?_
        obtain ⟨h42, hF⟩ := gw_grd hF
        refine alwM_20 (v := σ40.2.1 17 x1.toNatClampNeg) C h42 rfl d_Mo_goOnWithValue_145 ?_
        refine gw_aload_n C d_Mo_goOnWithValue_146 rfl 1 rfl ?_
        refine fg_Mo_167 (v := σ40.1 12) C rfl d_Mo_goOnWithValue_147 ?_
        obtain ⟨r44, σ45, h43, hF⟩ := gw_bnd hF
        refine fc_Mo_223 (As := [.int (σ40.2.1 17 x1.toNatClampNeg), .int (σ40.1 12)]) (st := [.int (σ40.1 11), .ref (ad 0)]) (σ' := σ45) C (c_Mo_newPlace l D cI cL cZ ad h43) ⟨Nat.le_of_ble_eq_true rfl, Nat.le_of_ble_eq_true rfl⟩ ⟨Nat.le_of_ble_eq_true rfl, Nat.le_of_ble_eq_true rfl⟩ rfl (Nat.le_of_ble_eq_true rfl) d_Mo_goOnWithValue_150 ?_
        obtain ⟨σ47, h46, hF⟩ := gw_bndv hF
        refine fc_Mo_144 (As := [.int (σ40.1 11), .int r44]) (st := []) (σ' := σ47) C (c_Mo_atHand l D cI cL cZ ad h46) ⟨Nat.le_of_ble_eq_true rfl, Nat.le_of_ble_eq_true rfl⟩ ⟨Nat.le_of_ble_eq_true rfl, Nat.le_of_ble_eq_true rfl⟩ rfl (Nat.le_of_ble_eq_true rfl) d_Mo_goOnWithValue_153 ?_
        refine gw_goto (tgt := 319) C d_Mo_goOnWithValue_156 (by decide) ?_
        cases hF
        exact gw_vret C hr rfl d_Mo_goOnWithValue_319
  · have hF := gw_neg h5 hF
    refine gw_aload_n C d_Mo_goOnWithValue_106 rfl 1 rfl ?_
    refine gw_iconst (v := 4) C d_Mo_goOnWithValue_107 (by decide) ?_
    refine fp_Mo_141 C d_Mo_goOnWithValue_108 ?_
    refine gw_goto (tgt := 319) C d_Mo_goOnWithValue_111 (by decide) ?_
    cases hF
    exact gw_vret C hr rfl d_Mo_goOnWithValue_319
set_option maxRecDepth 100000 in
set_option maxHeartbeats 4000000 in
theorem c_Mo_goOnWithValue (l : Launch) (D : va_G) (cI cL cZ : ClassId) (ad : Nat → Nat) {σ : St} {σ' : St} (hF : F_Mo_goOnWithValue σ = some σ') : gw_M l y_Mo_goOnWithValue w_Mo_goOnWithValue rm_Mo_goOnWithValue D gw_cl (gw_ty cI cL cZ) [.ref (ad 0)] (wM ad cI cL cZ σ) (wM ad cI cL cZ σ') none := by
  refine gw_start (cc := b_Mo_goOnWithValue) (nL := 4) (ret := none) (by decide) rfl (Nat.le_of_ble_eq_true rfl) (fun p e s m below meth c A C hr _ => ?_)
  refine gw_eq (lv' := [(0, .ref (ad 0))]) rfl rfl ?_
  unfold F_Mo_goOnWithValue at hF
  refine gw_aload_n C d_Mo_goOnWithValue_0 rfl 0 rfl ?_
  refine fg_Mo_122 (v := σ.1 4) C rfl d_Mo_goOnWithValue_1 ?_
  refine gw_iconst (v := 1) C d_Mo_goOnWithValue_4 (by decide) ?_
  refine gw_isub C d_Mo_goOnWithValue_5 ?_
  refine gw_istore_n (lv' := [(1, .int ((σ.1 4) - 1)), (0, .ref (ad 0))]) C d_Mo_goOnWithValue_6 rfl (by decide) rfl ?_
  refine gw_aload_n C d_Mo_goOnWithValue_7 rfl 1 rfl ?_
  refine fg_Mo_66 C d_Mo_goOnWithValue_8 ?_
  refine gw_iload_n C d_Mo_goOnWithValue_11 rfl 0 rfl ?_
  obtain ⟨h1, hF⟩ := gw_grd hF
  refine alwM_19 (v := σ.2.1 16 (((σ.1 4) - 1).toNatClampNeg)) C h1 rfl d_Mo_goOnWithValue_12 ?_
  refine gw_istore_n (lv' := [(2, .int (σ.2.1 16 (((σ.1 4) - 1).toNatClampNeg))), (1, .int ((σ.1 4) - 1)), (0, .ref (ad 0))]) C d_Mo_goOnWithValue_13 rfl (by decide) rfl ?_
  refine gw_iload_n C d_Mo_goOnWithValue_14 rfl 0 rfl ?_
  refine gw_if_ne (tgt := 78) C d_Mo_goOnWithValue_15 (by decide) (fun h2 => ?_) (fun h2 => ?_)
  · have hF := gw_neg h2 hF
    refine gw_iload_n C d_Mo_goOnWithValue_78 rfl 0 rfl ?_
    refine gw_iconst (v := 1) C d_Mo_goOnWithValue_79 (by decide) ?_
    refine gw_icmp_ne (tgt := 87) C d_Mo_goOnWithValue_80 (by decide) (fun h3 => ?_) (fun h3 => ?_)
    · have hF := gw_neg h3 hF
      refine gw_iload_n C d_Mo_goOnWithValue_87 rfl 0 rfl ?_
      refine gw_iconst (v := 5) C d_Mo_goOnWithValue_88 (by decide) ?_
      refine gw_icmp_ge (tgt := 96) C d_Mo_goOnWithValue_89 (by decide) (fun h4 => ?_) (fun h4 => ?_)
      · have hF := gw_pos h4 hF
        refine gw_iconst (v := 2) C d_Mo_goOnWithValue_96 (by decide) ?_
        refine gw_less [2, 1, 0] rfl ?_
        exact k_Mo_goOnWithValue_97 l C hr hF
      · have hF := gw_neg h4 hF
        refine gw_iconst (v := 0) C d_Mo_goOnWithValue_92 (by decide) ?_
        refine gw_goto (tgt := 97) C d_Mo_goOnWithValue_93 (by decide) ?_
        refine gw_less [2, 1, 0] rfl ?_
        exact k_Mo_goOnWithValue_97 l C hr hF
    · have hF := gw_pos h3 hF
      refine gw_iconst (v := 1) C d_Mo_goOnWithValue_83 (by decide) ?_
      refine gw_goto (tgt := 97) C d_Mo_goOnWithValue_84 (by decide) ?_
      refine gw_less [2, 1, 0] rfl ?_
      exact k_Mo_goOnWithValue_97 l C hr hF
  · have hF := gw_pos h2 hF
    refine gw_aload_n C d_Mo_goOnWithValue_18 rfl 2 rfl ?_
    refine fg_Mo_69 C d_Mo_goOnWithValue_19 ?_
    refine gw_iload_n C d_Mo_goOnWithValue_22 rfl 1 rfl ?_
    obtain ⟨h48, hF⟩ := gw_grd hF
    refine alwM_20 (v := σ.2.1 17 (((σ.1 4) - 1).toNatClampNeg)) C h48 rfl d_Mo_goOnWithValue_23 ?_
    refine gw_istore_n (lv' := [(3, .int (σ.2.1 17 (((σ.1 4) - 1).toNatClampNeg))), (2, .int (σ.2.1 16 (((σ.1 4) - 1).toNatClampNeg))), (1, .int ((σ.1 4) - 1)), (0, .ref (ad 0))]) C d_Mo_goOnWithValue_24 rfl (by decide) rfl ?_
    refine gw_aload_n C d_Mo_goOnWithValue_25 rfl 3 rfl ?_
    refine fg_Mo_29 C d_Mo_goOnWithValue_26 ?_
    refine gw_iload_n C d_Mo_goOnWithValue_29 rfl 0 rfl ?_
    refine gw_iconst (v := 2) C d_Mo_goOnWithValue_30 (by decide) ?_
    obtain ⟨h49, hF⟩ := gw_grd hF
    refine aswM_7 C h49 d_Mo_goOnWithValue_31 ?_
    refine gw_aload_n C d_Mo_goOnWithValue_32 rfl 3 rfl ?_
    refine fg_Mo_38 C d_Mo_goOnWithValue_33 ?_
    refine gw_iload_n C d_Mo_goOnWithValue_36 rfl 0 rfl ?_
    refine gw_aload_n C d_Mo_goOnWithValue_37 rfl 3 rfl ?_
    refine fg_Mo_157 (v := σ.1 10) C rfl d_Mo_goOnWithValue_38 ?_
    obtain ⟨h50, hF⟩ := gw_grd hF
    refine aswM_10 C h50 d_Mo_goOnWithValue_41 ?_
    refine gw_aload_n C d_Mo_goOnWithValue_42 rfl 3 rfl ?_
    refine fg_Mo_41 C d_Mo_goOnWithValue_43 ?_
    refine gw_iload_n C d_Mo_goOnWithValue_46 rfl 0 rfl ?_
    refine gw_aload_n C d_Mo_goOnWithValue_47 rfl 3 rfl ?_
    refine fg_Mo_160 (v := σ.2.2.1 0) C rfl d_Mo_goOnWithValue_48 ?_
    obtain ⟨h51, hF⟩ := gw_grd hF
    refine aswM_11 C h51 d_Mo_goOnWithValue_51 ?_
    refine gw_aload_n C d_Mo_goOnWithValue_52 rfl 3 rfl ?_
    refine fg_Mo_44 C d_Mo_goOnWithValue_53 ?_
    refine gw_iload_n C d_Mo_goOnWithValue_56 rfl 0 rfl ?_
    refine gw_aload_n C d_Mo_goOnWithValue_57 rfl 3 rfl ?_
    refine fg_Mo_164 (v := σ.1 11) C rfl d_Mo_goOnWithValue_58 ?_
    obtain ⟨h52, hF⟩ := gw_grd hF
    refine aswM_12 C h52 d_Mo_goOnWithValue_61 ?_
    refine gw_aload_n C d_Mo_goOnWithValue_62 rfl 3 rfl ?_
    refine fg_Mo_47 C d_Mo_goOnWithValue_63 ?_
    refine gw_iload_n C d_Mo_goOnWithValue_66 rfl 0 rfl ?_
    refine gw_aload_n C d_Mo_goOnWithValue_67 rfl 3 rfl ?_
    refine fg_Mo_167 (v := σ.1 12) C rfl d_Mo_goOnWithValue_68 ?_
    obtain ⟨h53, hF⟩ := gw_grd hF
    refine aswM_13 C h53 d_Mo_goOnWithValue_71 ?_
    refine gw_aload_n C d_Mo_goOnWithValue_72 rfl 3 rfl ?_
    refine gw_iload_n C d_Mo_goOnWithValue_73 rfl 2 rfl ?_
    refine fp_Mo_122 C d_Mo_goOnWithValue_74 ?_
    cases hF
    exact gw_vret C hr rfl d_Mo_goOnWithValue_77
set_option maxRecDepth 100000 in
set_option maxHeartbeats 4000000 in
theorem k_Mo_step_48 {p : Program} (l : Launch) {e : Env} {s : State} {m : MethodId} {args : Array Value} {below : List Frame} {meth : Method} {c : Code} {D : va_G} {A : Nat → Prop} {cI cL cZ : ClassId} {ad : Nat → Nat} (C : gw_C p s m args meth c b_Mo_step 1 R_Mo D gw_cl (gw_ty cI cL cZ) A) (hr : meth.sig.returnType = none) {σ : St} {σ' : St} (hF : K_Mo_step_48 σ = some σ') : gw_W p l e rm_Mo_step s m args below meth c D gw_cl A (MQ below (gw_Qc D gw_cl (wM ad cI cL cZ σ') none A) args s 0 0 A) 0 0 1 (wM ad cI cL cZ σ) [(0, .ref (ad 0))] 48 [] := by
  unfold K_Mo_step_48 at hF
  refine gw_aload_n C d_Mo_step_48 rfl 0 rfl ?_
  refine gw_aload_n C d_Mo_step_49 rfl 0 rfl ?_
  refine fg_Mo_125 (v := σ.1 5) C rfl d_Mo_step_50 ?_
  refine gw_aload_n C d_Mo_step_53 rfl 0 rfl ?_
  refine fg_Mo_122 (v := σ.1 4) C rfl d_Mo_step_54 ?_
  obtain ⟨r6, σ7, h5, hF⟩ := gw_bnd hF
  refine fc_Mo_109 (As := [.int (σ.1 5), .int (σ.1 4)]) (st := [.ref (ad 0)]) (σ' := σ7) C (c_Mo_more l D cI cL cZ ad h5) ⟨Nat.le_of_ble_eq_true rfl, Nat.le_of_ble_eq_true rfl⟩ ⟨Nat.le_of_ble_eq_true rfl, Nat.le_of_ble_eq_true rfl⟩ rfl (Nat.le_of_ble_eq_true rfl) d_Mo_step_57 ?_
  refine fp_Mo_125 C d_Mo_step_60 ?_
  refine gw_aload_n C d_Mo_step_63 rfl 0 rfl ?_
  refine fg_Mo_141 (v := σ7.1 13) C rfl d_Mo_step_64 ?_
  refine gw_iconst (v := 1) C d_Mo_step_67 (by decide) ?_
  refine gw_icmp_ne (tgt := 91) C d_Mo_step_68 (by decide) (fun h8 => ?_) (fun h8 => ?_)
  · have hF := gw_neg h8 hF
    cases hF
    exact gw_vret C hr rfl d_Mo_step_91
  · have hF := gw_pos h8 hF
    refine gw_aload_n C d_Mo_step_71 rfl 0 rfl ?_
    refine fg_Mo_148 (v := σ7.1 6) C rfl d_Mo_step_72 ?_
    refine gw_iconst (v := 1) C d_Mo_step_75 (by decide) ?_
    refine gw_icmp_ne (tgt := 91) C d_Mo_step_76 (by decide) (fun h9 => ?_) (fun h9 => ?_)
    · have hF := gw_neg h9 hF
      cases hF
      exact gw_vret C hr rfl d_Mo_step_91
    · have hF := gw_pos h9 hF
      refine gw_aload_n C d_Mo_step_79 rfl 0 rfl ?_
      refine fg_Mo_122 (v := σ7.1 4) C rfl d_Mo_step_80 ?_
      refine gw_if_ne (tgt := 91) C d_Mo_step_83 (by decide) (fun h10 => ?_) (fun h10 => ?_)
      · have hF := gw_neg h10 hF
        cases hF
        exact gw_vret C hr rfl d_Mo_step_91
      · have hF := gw_pos h10 hF
        refine gw_aload_n C d_Mo_step_86 rfl 0 rfl ?_
        refine gw_iconst (v := 2) C d_Mo_step_87 (by decide) ?_
        refine fp_Mo_141 C d_Mo_step_88 ?_
        cases hF
        exact gw_vret C hr rfl d_Mo_step_91
set_option maxRecDepth 100000 in
set_option maxHeartbeats 4000000 in
theorem c_Mo_step (l : Launch) (D : va_G) (cI cL cZ : ClassId) (ad : Nat → Nat) {σ : St} {σ' : St} (hF : F_Mo_step σ = some σ') : gw_M l y_Mo_step w_Mo_step rm_Mo_step D gw_cl (gw_ty cI cL cZ) [.ref (ad 0)] (wM ad cI cL cZ σ) (wM ad cI cL cZ σ') none := by
  refine gw_start (cc := b_Mo_step) (nL := 1) (ret := none) (by decide) rfl (Nat.le_of_ble_eq_true rfl) (fun p e s m below meth c A C hr _ => ?_)
  refine gw_eq (lv' := [(0, .ref (ad 0))]) rfl rfl ?_
  unfold F_Mo_step at hF
  refine gw_aload_n C d_Mo_step_0 rfl 0 rfl ?_
  refine gw_dup C d_Mo_step_1 rfl ?_
  refine fg_Mo_128 (v := σ.1 15) C rfl d_Mo_step_2 ?_
  refine gw_iconst (v := 1) C d_Mo_step_5 (by decide) ?_
  refine gw_iadd C d_Mo_step_6 ?_
  refine fp_Mo_128 C d_Mo_step_7 ?_
  refine gw_aload_n C d_Mo_step_10 rfl 0 rfl ?_
  refine fg_Mo_148 (v := σ.1 6) C rfl d_Mo_step_11 ?_
  refine gw_iconst (v := 2) C d_Mo_step_14 (by decide) ?_
  refine gw_icmp_ne (tgt := 30) C d_Mo_step_15 (by decide) (fun h1 => ?_) (fun h1 => ?_)
  · have hF := gw_neg h1 hF
    refine gw_aload_n C d_Mo_step_30 rfl 0 rfl ?_
    refine fg_Mo_148 (v := σ.1 6) C rfl d_Mo_step_31 ?_
    refine gw_if_ne (tgt := 44) C d_Mo_step_34 (by decide) (fun h2 => ?_) (fun h2 => ?_)
    · have hF := gw_neg h2 hF
      refine gw_aload_n C d_Mo_step_44 rfl 0 rfl ?_
      obtain ⟨σ4, h3, hF⟩ := gw_bndv hF
      refine fc_Mo_190 (As := []) (st := []) (σ' := σ4) C (c_Mo_goOnWithValue l D cI cL cZ ad h3) ⟨Nat.le_of_ble_eq_true rfl, Nat.le_of_ble_eq_true rfl⟩ ⟨Nat.le_of_ble_eq_true rfl, Nat.le_of_ble_eq_true rfl⟩ rfl (Nat.le_of_ble_eq_true rfl) d_Mo_step_45 ?_
      exact k_Mo_step_48 l C hr hF
    · have hF := gw_pos h2 hF
      refine gw_aload_n C d_Mo_step_37 rfl 0 rfl ?_
      obtain ⟨σ12, h11, hF⟩ := gw_bndv hF
      refine fc_Mo_187 (As := []) (st := []) (σ' := σ12) C (c_Mo_goOnWithTerm l D cI cL cZ ad h11) ⟨Nat.le_of_ble_eq_true rfl, Nat.le_of_ble_eq_true rfl⟩ ⟨Nat.le_of_ble_eq_true rfl, Nat.le_of_ble_eq_true rfl⟩ rfl (Nat.le_of_ble_eq_true rfl) d_Mo_step_38 ?_
      refine gw_goto (tgt := 48) C d_Mo_step_41 (by decide) ?_
      exact k_Mo_step_48 l C hr hF
  · have hF := gw_pos h1 hF
    refine gw_aload_n C d_Mo_step_18 rfl 0 rfl ?_
    refine gw_aload_n C d_Mo_step_19 rfl 0 rfl ?_
    refine fg_Mo_180 (v := σ.1 9) C rfl d_Mo_step_20 ?_
    refine gw_iconst (v := 0) C d_Mo_step_23 (by decide) ?_
    obtain ⟨σ14, h13, hF⟩ := gw_bndv hF
    refine fc_Mo_183 (As := [.int (σ.1 9), .int 0]) (st := []) (σ' := σ14) C (c_Mo_need l D cI cL cZ ad h13) ⟨Nat.le_of_ble_eq_true rfl, Nat.le_of_ble_eq_true rfl⟩ ⟨Nat.le_of_ble_eq_true rfl, Nat.le_of_ble_eq_true rfl⟩ rfl (Nat.le_of_ble_eq_true rfl) d_Mo_step_24 ?_
    refine gw_goto (tgt := 48) C d_Mo_step_27 (by decide) ?_
    exact k_Mo_step_48 l C hr hF
set_option maxRecDepth 100000 in
set_option maxHeartbeats 4000000 in
theorem k_Mo_run_37 {p : Program} (l : Launch) {e : Env} {s : State} {m : MethodId} {args : Array Value} {below : List Frame} {meth : Method} {c : Code} {D : va_G} {A : Nat → Prop} {cI cL cZ : ClassId} {ad : Nat → Nat} (C : gw_C p s m args meth c b_Mo_run 4 R_Mo D gw_cl (gw_ty cI cL cZ) A) (hr : meth.sig.returnType = (some .int)) {r : Int32} {σ' : St} : ∀ (n : Nat) (σ : St) (x1 : Int32) (x2 : Int32) (hF : K_Mo_run_37 n σ x1 x2 = some (r, σ')), gw_W p l e rm_Mo_run s m args below meth c D gw_cl A (MQ below (gw_Qc D gw_cl (wM ad cI cL cZ σ') (some (.int r)) A) args s 0 0 A) 0 0 4 (wM ad cI cL cZ σ) [(0, .ref (ad 0)), (1, .int x1), (2, .int x2)] 37 []
  | 0, σ, x1, x2, hF => by cases hF
  | n + 1, σ, x1, x2, hF => by
    unfold K_Mo_run_37 at hF
    refine gw_iload_n C d_Mo_run_37 rfl 2 rfl ?_
    refine gw_iload_n C d_Mo_run_38 rfl 1 rfl ?_
    refine gw_icmp_ge (tgt := 84) C d_Mo_run_39 (by decide) (fun h7 => ?_) (fun h7 => ?_)
    · have hF := gw_pos h7 hF
      refine gw_iload_n C d_Mo_run_84 rfl 2 rfl ?_
      cases hF
      exact gw_iret C hr rfl d_Mo_run_85
    · have hF := gw_neg h7 hF
      refine gw_aload_n C d_Mo_run_42 rfl 0 rfl ?_
      refine fg_Mo_141 (v := σ.1 13) C rfl d_Mo_run_43 ?_
      refine gw_iconst (v := 1) C d_Mo_run_46 (by decide) ?_
      refine gw_icmp_ne (tgt := 84) C d_Mo_run_47 (by decide) (fun h8 => ?_) (fun h8 => ?_)
      · have hF := gw_neg h8 hF
        refine gw_iload_n C d_Mo_run_84 rfl 2 rfl ?_
        cases hF
        exact gw_iret C hr rfl d_Mo_run_85
      · have hF := gw_pos h8 hF
        refine gw_aload_n C d_Mo_run_50 rfl 0 rfl ?_
        refine fg_Mo_170 (v := σ.1 19) C rfl d_Mo_run_51 ?_
        refine gw_if_le (tgt := 74) C d_Mo_run_54 (by decide) (fun h9 => ?_) (fun h9 => ?_)
        · have hF := gw_pos h9 hF
          refine gw_aload_n C d_Mo_run_74 rfl 0 rfl ?_
          obtain ⟨σ11, h10, hF⟩ := gw_bndv hF
          refine fc_Mo_177 (As := []) (st := []) (σ' := σ11) C (c_Mo_step l D cI cL cZ ad h10) ⟨Nat.le_of_ble_eq_true rfl, Nat.le_of_ble_eq_true rfl⟩ ⟨Nat.le_of_ble_eq_true rfl, Nat.le_of_ble_eq_true rfl⟩ rfl (Nat.le_of_ble_eq_true rfl) d_Mo_run_75 ?_
          refine gw_iinc (q := 2) (v := x2 + 1) (lv' := [(2, .int (x2 + 1)), (0, .ref (ad 0)), (1, .int x1)]) C d_Mo_run_78 rfl rfl (by decide) rfl ?_
          refine gw_goto (tgt := 37) C d_Mo_run_81 (by decide) ?_
          refine gw_less [1, 2, 0] rfl ?_
          exact k_Mo_run_37 l C hr n _ _ _ hF
        · have hF := gw_neg h9 hF
          refine gw_aload_n C d_Mo_run_57 rfl 0 rfl ?_
          refine fg_Mo_128 (v := σ.1 15) C rfl d_Mo_run_58 ?_
          refine gw_aload_n C d_Mo_run_61 rfl 0 rfl ?_
          refine fg_Mo_170 (v := σ.1 19) C rfl d_Mo_run_62 ?_
          obtain ⟨h12, hF⟩ := gw_grd hF
          refine gw_irem C d_Mo_run_65 h12 ?_
          refine gw_if_ne (tgt := 74) C d_Mo_run_66 (by decide) (fun h13 => ?_) (fun h13 => ?_)
          · have hF := gw_neg h13 hF
            refine gw_aload_n C d_Mo_run_74 rfl 0 rfl ?_
            obtain ⟨σ15, h14, hF⟩ := gw_bndv hF
            refine fc_Mo_177 (As := []) (st := []) (σ' := σ15) C (c_Mo_step l D cI cL cZ ad h14) ⟨Nat.le_of_ble_eq_true rfl, Nat.le_of_ble_eq_true rfl⟩ ⟨Nat.le_of_ble_eq_true rfl, Nat.le_of_ble_eq_true rfl⟩ rfl (Nat.le_of_ble_eq_true rfl) d_Mo_run_75 ?_
            refine gw_iinc (q := 2) (v := x2 + 1) (lv' := [(2, .int (x2 + 1)), (0, .ref (ad 0)), (1, .int x1)]) C d_Mo_run_78 rfl rfl (by decide) rfl ?_
            refine gw_goto (tgt := 37) C d_Mo_run_81 (by decide) ?_
            refine gw_less [1, 2, 0] rfl ?_
            exact k_Mo_run_37 l C hr n _ _ _ hF
          · have hF := gw_pos h13 hF
            refine gw_aload_n C d_Mo_run_69 rfl 0 rfl ?_
            obtain ⟨r17, σ18, h16, hF⟩ := gw_bnd hF
            refine fc_Mo_173 (As := []) (st := []) (σ' := σ18) C (c_Mo_sweep l D cI cL cZ ad h16) ⟨Nat.le_of_ble_eq_true rfl, Nat.le_of_ble_eq_true rfl⟩ ⟨Nat.le_of_ble_eq_true rfl, Nat.le_of_ble_eq_true rfl⟩ rfl (Nat.le_of_ble_eq_true rfl) d_Mo_run_70 ?_
            refine gw_istore_n (lv' := [(3, .int r17), (0, .ref (ad 0)), (1, .int x1), (2, .int x2)]) C d_Mo_run_73 rfl (by decide) rfl ?_
            refine gw_aload_n C d_Mo_run_74 rfl 1 rfl ?_
            obtain ⟨σ20, h19, hF⟩ := gw_bndv hF
            refine fc_Mo_177 (As := []) (st := []) (σ' := σ20) C (c_Mo_step l D cI cL cZ ad h19) ⟨Nat.le_of_ble_eq_true rfl, Nat.le_of_ble_eq_true rfl⟩ ⟨Nat.le_of_ble_eq_true rfl, Nat.le_of_ble_eq_true rfl⟩ rfl (Nat.le_of_ble_eq_true rfl) d_Mo_run_75 ?_
            refine gw_iinc (q := 3) (v := x2 + 1) (lv' := [(2, .int (x2 + 1)), (3, .int r17), (0, .ref (ad 0)), (1, .int x1)]) C d_Mo_run_78 rfl rfl (by decide) rfl ?_
            refine gw_goto (tgt := 37) C d_Mo_run_81 (by decide) ?_
            refine gw_less [2, 3, 0] rfl ?_
            exact k_Mo_run_37 l C hr n _ _ _ hF
set_option maxRecDepth 100000 in
set_option maxHeartbeats 4000000 in
theorem c_Mo_run (l : Launch) (D : va_G) (cI cL cZ : ClassId) (ad : Nat → Nat) {σ : St} {x1 : Int32} {r : Int32} {σ' : St} (hF : F_Mo_run σ x1 = some (r, σ')) : gw_M l y_Mo_run w_Mo_run rm_Mo_run D gw_cl (gw_ty cI cL cZ) [.ref (ad 0), .int x1] (wM ad cI cL cZ σ) (wM ad cI cL cZ σ') (some (.int r)) := by
  refine gw_start (cc := b_Mo_run) (nL := 4) (ret := (some .int)) (by decide) rfl (Nat.le_of_ble_eq_true rfl) (fun p e s m below meth c A C hr _ => ?_)
  refine gw_eq (lv' := [(0, .ref (ad 0)), (1, .int x1)]) rfl rfl ?_
  unfold F_Mo_run at hF
  refine gw_aload_n C d_Mo_run_0 rfl 0 rfl ?_
  refine fg_Mo_141 (v := σ.1 13) C rfl d_Mo_run_1 ?_
  refine gw_if_ne (tgt := 13) C d_Mo_run_4 (by decide) (fun h1 => ?_) (fun h1 => ?_)
  · have hF := gw_neg h1 hF
    refine gw_iload_n C d_Mo_run_13 rfl 1 rfl ?_
    refine gw_if_lt (tgt := 24) C d_Mo_run_14 (by decide) (fun h2 => ?_) (fun h2 => ?_)
    · have hF := gw_pos h2 hF
      refine gw_aload_n C d_Mo_run_24 rfl 0 rfl ?_
      refine gw_iconst (v := 2) C d_Mo_run_25 (by decide) ?_
      obtain ⟨r4, σ5, h3, hF⟩ := gw_bnd hF
      refine fc_Mo_94 (As := [.int 2]) (st := []) (σ' := σ5) C (c_Mo_thrownBy l D cI cL cZ ad h3) ⟨Nat.le_of_ble_eq_true rfl, Nat.le_of_ble_eq_true rfl⟩ ⟨Nat.le_of_ble_eq_true rfl, Nat.le_of_ble_eq_true rfl⟩ rfl (Nat.le_of_ble_eq_true rfl) d_Mo_run_26 ?_
      cases hF
      exact gw_iret C hr rfl d_Mo_run_29
    · have hF := gw_neg h2 hF
      refine gw_iload_n C d_Mo_run_17 rfl 1 rfl ?_
      refine gw_sipush (v := 5000) C d_Mo_run_18 (by decide) ?_
      refine gw_icmp_le (tgt := 30) C d_Mo_run_21 (by decide) (fun h6 => ?_) (fun h6 => ?_)
      · have hF := gw_pos h6 hF
        refine gw_aload_n C d_Mo_run_30 rfl 0 rfl ?_
        refine gw_iconst (v := 0) C d_Mo_run_31 (by decide) ?_
        refine fp_Mo_87 C d_Mo_run_32 ?_
        refine gw_iconst (v := 0) C d_Mo_run_35 (by decide) ?_
        refine gw_istore_n (lv' := [(2, .int 0), (0, .ref (ad 0)), (1, .int x1)]) C d_Mo_run_36 rfl (by decide) rfl ?_
        refine gw_less [1, 2, 0] rfl ?_
        exact k_Mo_run_37 l C hr gw_N _ _ _ hF
      · have hF := gw_neg h6 hF
        refine gw_aload_n C d_Mo_run_24 rfl 0 rfl ?_
        refine gw_iconst (v := 2) C d_Mo_run_25 (by decide) ?_
        obtain ⟨r22, σ23, h21, hF⟩ := gw_bnd hF
        refine fc_Mo_94 (As := [.int 2]) (st := []) (σ' := σ23) C (c_Mo_thrownBy l D cI cL cZ ad h21) ⟨Nat.le_of_ble_eq_true rfl, Nat.le_of_ble_eq_true rfl⟩ ⟨Nat.le_of_ble_eq_true rfl, Nat.le_of_ble_eq_true rfl⟩ rfl (Nat.le_of_ble_eq_true rfl) d_Mo_run_26 ?_
        cases hF
        exact gw_iret C hr rfl d_Mo_run_29
  · have hF := gw_pos h1 hF
    refine gw_aload_n C d_Mo_run_7 rfl 0 rfl ?_
    refine gw_iconst (v := 1) C d_Mo_run_8 (by decide) ?_
    obtain ⟨r25, σ26, h24, hF⟩ := gw_bnd hF
    refine fc_Mo_94 (As := [.int 1]) (st := []) (σ' := σ26) C (c_Mo_thrownBy l D cI cL cZ ad h24) ⟨Nat.le_of_ble_eq_true rfl, Nat.le_of_ble_eq_true rfl⟩ ⟨Nat.le_of_ble_eq_true rfl, Nat.le_of_ble_eq_true rfl⟩ rfl (Nat.le_of_ble_eq_true rfl) d_Mo_run_9 ?_
    cases hF
    exact gw_iret C hr rfl d_Mo_run_12
set_option maxRecDepth 100000 in
set_option maxHeartbeats 4000000 in
theorem c_Mo_into (l : Launch) (D : va_G) (cI cL cZ : ClassId) (ad : Nat → Nat) {σ : St} {x1 : Int32} {σ' : St} (hF : F_Mo_into σ x1 = some σ') : gw_M l y_Mo_into w_Mo_into rm_Mo_into D gw_cl (gw_ty cI cL cZ) [.ref (ad 0), .int x1] (wM ad cI cL cZ σ) (wM ad cI cL cZ σ') none := by
  refine gw_start (cc := b_Mo_into) (nL := 2) (ret := none) (by decide) rfl (Nat.le_of_ble_eq_true rfl) (fun p e s m below meth c A C hr _ => ?_)
  refine gw_eq (lv' := [(0, .ref (ad 0)), (1, .int x1)]) rfl rfl ?_
  unfold F_Mo_into at hF
  refine gw_aload_n C d_Mo_into_0 rfl 0 rfl ?_
  refine fg_Mo_141 (v := σ.1 13) C rfl d_Mo_into_1 ?_
  refine gw_iconst (v := 2) C d_Mo_into_4 (by decide) ?_
  refine gw_icmp_ne (tgt := 16) C d_Mo_into_5 (by decide) (fun h1 => ?_) (fun h1 => ?_)
  · have hF := gw_neg h1 hF
    refine gw_aload_n C d_Mo_into_16 rfl 0 rfl ?_
    refine gw_iconst (v := 1) C d_Mo_into_17 (by decide) ?_
    refine fp_Mo_87 C d_Mo_into_18 ?_
    cases hF
    exact gw_vret C hr rfl d_Mo_into_21
  · have hF := gw_pos h1 hF
    refine gw_aload_n C d_Mo_into_8 rfl 0 rfl ?_
    refine fg_Mo_157 (v := σ.1 10) C rfl d_Mo_into_9 ?_
    refine gw_iconst (v := 2) C d_Mo_into_12 (by decide) ?_
    refine gw_icmp_eq (tgt := 22) C d_Mo_into_13 (by decide) (fun h2 => ?_) (fun h2 => ?_)
    · have hF := gw_pos h2 hF
      refine gw_iload_n C d_Mo_into_22 rfl 1 rfl ?_
      refine gw_if_lt (tgt := 31) C d_Mo_into_23 (by decide) (fun h3 => ?_) (fun h3 => ?_)
      · have hF := gw_pos h3 hF
        refine gw_aload_n C d_Mo_into_31 rfl 0 rfl ?_
        refine gw_iconst (v := 2) C d_Mo_into_32 (by decide) ?_
        refine fp_Mo_87 C d_Mo_into_33 ?_
        cases hF
        exact gw_vret C hr rfl d_Mo_into_36
      · have hF := gw_neg h3 hF
        refine gw_iload_n C d_Mo_into_26 rfl 1 rfl ?_
        refine gw_iconst (v := 1) C d_Mo_into_27 (by decide) ?_
        refine gw_icmp_le (tgt := 37) C d_Mo_into_28 (by decide) (fun h4 => ?_) (fun h4 => ?_)
        · have hF := gw_pos h4 hF
          refine gw_aload_n C d_Mo_into_37 rfl 0 rfl ?_
          refine gw_iconst (v := 0) C d_Mo_into_38 (by decide) ?_
          refine fp_Mo_87 C d_Mo_into_39 ?_
          refine gw_aload_n C d_Mo_into_42 rfl 0 rfl ?_
          refine gw_iload_n C d_Mo_into_43 rfl 1 rfl ?_
          refine gw_if_ne (tgt := 54) C d_Mo_into_44 (by decide) (fun h5 => ?_) (fun h5 => ?_)
          · have hF := gw_neg h5 hF
            refine gw_aload_n C d_Mo_into_54 rfl 0 rfl ?_
            refine fg_Mo_167 (v := σ.1 12) C rfl d_Mo_into_55 ?_
            refine fp_Mo_180 C d_Mo_into_58 ?_
            refine gw_aload_n C d_Mo_into_61 rfl 0 rfl ?_
            refine gw_iconst (v := 2) C d_Mo_into_62 (by decide) ?_
            refine fp_Mo_148 C d_Mo_into_63 ?_
            refine gw_aload_n C d_Mo_into_66 rfl 0 rfl ?_
            refine gw_iconst (v := 1) C d_Mo_into_67 (by decide) ?_
            refine fp_Mo_141 C d_Mo_into_68 ?_
            cases hF
            exact gw_vret C hr rfl d_Mo_into_71
          · have hF := gw_pos h5 hF
            refine gw_aload_n C d_Mo_into_47 rfl 0 rfl ?_
            refine fg_Mo_164 (v := σ.1 11) C rfl d_Mo_into_48 ?_
            refine gw_goto (tgt := 58) C d_Mo_into_51 (by decide) ?_
            refine fp_Mo_180 C d_Mo_into_58 ?_
            refine gw_aload_n C d_Mo_into_61 rfl 0 rfl ?_
            refine gw_iconst (v := 2) C d_Mo_into_62 (by decide) ?_
            refine fp_Mo_148 C d_Mo_into_63 ?_
            refine gw_aload_n C d_Mo_into_66 rfl 0 rfl ?_
            refine gw_iconst (v := 1) C d_Mo_into_67 (by decide) ?_
            refine fp_Mo_141 C d_Mo_into_68 ?_
            cases hF
            exact gw_vret C hr rfl d_Mo_into_71
        · have hF := gw_neg h4 hF
          refine gw_aload_n C d_Mo_into_31 rfl 0 rfl ?_
          refine gw_iconst (v := 2) C d_Mo_into_32 (by decide) ?_
          refine fp_Mo_87 C d_Mo_into_33 ?_
          cases hF
          exact gw_vret C hr rfl d_Mo_into_36
    · have hF := gw_neg h2 hF
      refine gw_aload_n C d_Mo_into_16 rfl 0 rfl ?_
      refine gw_iconst (v := 1) C d_Mo_into_17 (by decide) ?_
      refine fp_Mo_87 C d_Mo_into_18 ?_
      cases hF
      exact gw_vret C hr rfl d_Mo_into_21
set_option maxRecDepth 100000 in
set_option maxHeartbeats 4000000 in
theorem c_Mo_outcome (l : Launch) (D : va_G) (cI cL cZ : ClassId) (ad : Nat → Nat) {σ : St} {r : Int32} {σ' : St} (hF : F_Mo_outcome σ = some (r, σ')) : gw_M l y_Mo_outcome w_Mo_outcome rm_Mo_outcome D gw_cl (gw_ty cI cL cZ) [.ref (ad 0)] (wM ad cI cL cZ σ) (wM ad cI cL cZ σ') (some (.int r)) := by
  refine gw_start (cc := b_Mo_outcome) (nL := 1) (ret := (some .int)) (by decide) rfl (Nat.le_of_ble_eq_true rfl) (fun p e s m below meth c A C hr _ => ?_)
  refine gw_eq (lv' := [(0, .ref (ad 0))]) rfl rfl ?_
  unfold F_Mo_outcome at hF
  refine gw_aload_n C d_Mo_outcome_0 rfl 0 rfl ?_
  refine gw_iconst (v := 0) C d_Mo_outcome_1 (by decide) ?_
  refine fp_Mo_87 C d_Mo_outcome_2 ?_
  refine gw_aload_n C d_Mo_outcome_5 rfl 0 rfl ?_
  refine fg_Mo_141 (v := σ.1 13) C rfl d_Mo_outcome_6 ?_
  cases hF
  exact gw_iret C hr rfl d_Mo_outcome_9
set_option maxRecDepth 100000 in
set_option maxHeartbeats 4000000 in
theorem c_Mo_sort (l : Launch) (D : va_G) (cI cL cZ : ClassId) (ad : Nat → Nat) {σ : St} {r : Int32} {σ' : St} (hF : F_Mo_sort σ = some (r, σ')) : gw_M l y_Mo_sort w_Mo_sort rm_Mo_sort D gw_cl (gw_ty cI cL cZ) [.ref (ad 0)] (wM ad cI cL cZ σ) (wM ad cI cL cZ σ') (some (.int r)) := by
  refine gw_start (cc := b_Mo_sort) (nL := 1) (ret := (some .int)) (by decide) rfl (Nat.le_of_ble_eq_true rfl) (fun p e s m below meth c A C hr _ => ?_)
  refine gw_eq (lv' := [(0, .ref (ad 0))]) rfl rfl ?_
  unfold F_Mo_sort at hF
  refine gw_aload_n C d_Mo_sort_0 rfl 0 rfl ?_
  refine gw_iconst (v := 0) C d_Mo_sort_1 (by decide) ?_
  refine fp_Mo_87 C d_Mo_sort_2 ?_
  refine gw_aload_n C d_Mo_sort_5 rfl 0 rfl ?_
  refine fg_Mo_141 (v := σ.1 13) C rfl d_Mo_sort_6 ?_
  refine gw_iconst (v := 2) C d_Mo_sort_9 (by decide) ?_
  refine gw_icmp_ne (tgt := 20) C d_Mo_sort_10 (by decide) (fun h1 => ?_) (fun h1 => ?_)
  · have hF := gw_neg h1 hF
    refine gw_iconst (v := (-1)) C d_Mo_sort_20 (by decide) ?_
    cases hF
    exact gw_iret C hr rfl d_Mo_sort_21
  · have hF := gw_pos h1 hF
    refine gw_aload_n C d_Mo_sort_13 rfl 0 rfl ?_
    refine fg_Mo_157 (v := σ.1 10) C rfl d_Mo_sort_14 ?_
    refine gw_goto (tgt := 21) C d_Mo_sort_17 (by decide) ?_
    cases hF
    exact gw_iret C hr rfl d_Mo_sort_21
set_option maxRecDepth 100000 in
set_option maxHeartbeats 4000000 in
theorem c_Mo_value (l : Launch) (D : va_G) (cI cL cZ : ClassId) (ad : Nat → Nat) {σ : St} {r : Int64} {σ' : St} (hF : F_Mo_value σ = some (r, σ')) : gw_M l y_Mo_value w_Mo_value rm_Mo_value D gw_cl (gw_ty cI cL cZ) [.ref (ad 0)] (wM ad cI cL cZ σ) (wM ad cI cL cZ σ') (some (.long r)) := by
  refine gw_start (cc := b_Mo_value) (nL := 1) (ret := (some .long)) (by decide) rfl (Nat.le_of_ble_eq_true rfl) (fun p e s m below meth c A C hr _ => ?_)
  refine gw_eq (lv' := [(0, .ref (ad 0))]) rfl rfl ?_
  unfold F_Mo_value at hF
  refine gw_aload_n C d_Mo_value_0 rfl 0 rfl ?_
  refine gw_iconst (v := 0) C d_Mo_value_1 (by decide) ?_
  refine fp_Mo_87 C d_Mo_value_2 ?_
  refine gw_aload_n C d_Mo_value_5 rfl 0 rfl ?_
  refine fg_Mo_141 (v := σ.1 13) C rfl d_Mo_value_6 ?_
  refine gw_iconst (v := 2) C d_Mo_value_9 (by decide) ?_
  refine gw_icmp_ne (tgt := 27) C d_Mo_value_10 (by decide) (fun h1 => ?_) (fun h1 => ?_)
  · have hF := gw_neg h1 hF
    refine gw_lconst (v := 0) C d_Mo_value_27 rfl ?_
    cases hF
    exact gw_lret C hr rfl d_Mo_value_28
  · have hF := gw_pos h1 hF
    refine gw_aload_n C d_Mo_value_13 rfl 0 rfl ?_
    refine fg_Mo_157 (v := σ.1 10) C rfl d_Mo_value_14 ?_
    refine gw_if_ne (tgt := 27) C d_Mo_value_17 (by decide) (fun h2 => ?_) (fun h2 => ?_)
    · have hF := gw_neg h2 hF
      refine gw_lconst (v := 0) C d_Mo_value_27 rfl ?_
      cases hF
      exact gw_lret C hr rfl d_Mo_value_28
    · have hF := gw_pos h2 hF
      refine gw_aload_n C d_Mo_value_20 rfl 0 rfl ?_
      refine fg_Mo_160 (v := σ.2.2.1 0) C rfl d_Mo_value_21 ?_
      refine gw_goto (tgt := 28) C d_Mo_value_24 (by decide) ?_
      cases hF
      exact gw_lret C hr rfl d_Mo_value_28
set_option maxRecDepth 100000 in
set_option maxHeartbeats 4000000 in
theorem c_Mo_told (l : Launch) (D : va_G) (cI cL cZ : ClassId) (ad : Nat → Nat) {σ : St} {x1 : Int32} {r : Int32} {σ' : St} (hF : F_Mo_told σ x1 = some (r, σ')) : gw_M l y_Mo_told w_Mo_told rm_Mo_told D gw_cl (gw_ty cI cL cZ) [.ref (ad 0), .int x1] (wM ad cI cL cZ σ) (wM ad cI cL cZ σ') (some (.int r)) := by
  refine gw_start (cc := b_Mo_told) (nL := 2) (ret := (some .int)) (by decide) rfl (Nat.le_of_ble_eq_true rfl) (fun p e s m below meth c A C hr _ => ?_)
  refine gw_eq (lv' := [(0, .ref (ad 0)), (1, .int x1)]) rfl rfl ?_
  unfold F_Mo_told at hF
  refine gw_iload_n C d_Mo_told_0 rfl 1 rfl ?_
  refine gw_if_lt (tgt := 10) C d_Mo_told_1 (by decide) (fun h1 => ?_) (fun h1 => ?_)
  · have hF := gw_pos h1 hF
    refine gw_aload_n C d_Mo_told_10 rfl 0 rfl ?_
    refine gw_iconst (v := 1) C d_Mo_told_11 (by decide) ?_
    obtain ⟨r3, σ4, h2, hF⟩ := gw_bnd hF
    refine fc_Mo_94 (As := [.int 1]) (st := []) (σ' := σ4) C (c_Mo_thrownBy l D cI cL cZ ad h2) ⟨Nat.le_of_ble_eq_true rfl, Nat.le_of_ble_eq_true rfl⟩ ⟨Nat.le_of_ble_eq_true rfl, Nat.le_of_ble_eq_true rfl⟩ rfl (Nat.le_of_ble_eq_true rfl) d_Mo_told_12 ?_
    cases hF
    exact gw_iret C hr rfl d_Mo_told_15
  · have hF := gw_neg h1 hF
    refine gw_iload_n C d_Mo_told_4 rfl 1 rfl ?_
    refine gw_bipush (v := 7) C d_Mo_told_5 (by decide) ?_
    refine gw_icmp_le (tgt := 16) C d_Mo_told_7 (by decide) (fun h5 => ?_) (fun h5 => ?_)
    · have hF := gw_pos h5 hF
      refine gw_aload_n C d_Mo_told_16 rfl 0 rfl ?_
      refine gw_iconst (v := 0) C d_Mo_told_17 (by decide) ?_
      refine fp_Mo_87 C d_Mo_told_18 ?_
      refine gw_aload_n C d_Mo_told_21 rfl 0 rfl ?_
      refine fg_Mo_141 (v := σ.1 13) C rfl d_Mo_told_22 ?_
      refine gw_if_ne (tgt := 30) C d_Mo_told_25 (by decide) (fun h6 => ?_) (fun h6 => ?_)
      · have hF := gw_neg h6 hF
        refine gw_iload_n C d_Mo_told_30 rfl 1 rfl ?_
        by_cases h7 : x1 = 0
        · have hF := gw_pos h7 hF
          refine gw_tableIn (tgt := 72) C d_Mo_told_31 (by rw [h7]; decide) (by rw [h7]; decide) (by rw [h7]; rfl) (by decide) ?_
          refine gw_aload_n C d_Mo_told_72 rfl 0 rfl ?_
          refine fg_Mo_128 (v := σ.1 15) C rfl d_Mo_told_73 ?_
          cases hF
          exact gw_iret C hr rfl d_Mo_told_76
        · have hF := gw_neg h7 hF
          by_cases h8 : x1 = 1
          · have hF := gw_pos h8 hF
            refine gw_tableIn (tgt := 77) C d_Mo_told_31 (by rw [h8]; decide) (by rw [h8]; decide) (by rw [h8]; rfl) (by decide) ?_
            refine gw_aload_n C d_Mo_told_77 rfl 0 rfl ?_
            refine fg_Mo_113 (v := σ.1 1) C rfl d_Mo_told_78 ?_
            cases hF
            exact gw_iret C hr rfl d_Mo_told_81
          · have hF := gw_neg h8 hF
            by_cases h9 : x1 = 2
            · have hF := gw_pos h9 hF
              refine gw_tableIn (tgt := 82) C d_Mo_told_31 (by rw [h9]; decide) (by rw [h9]; decide) (by rw [h9]; rfl) (by decide) ?_
              refine gw_aload_n C d_Mo_told_82 rfl 0 rfl ?_
              refine fg_Mo_116 (v := σ.1 2) C rfl d_Mo_told_83 ?_
              cases hF
              exact gw_iret C hr rfl d_Mo_told_86
            · have hF := gw_neg h9 hF
              by_cases h10 : x1 = 3
              · have hF := gw_pos h10 hF
                refine gw_tableIn (tgt := 87) C d_Mo_told_31 (by rw [h10]; decide) (by rw [h10]; decide) (by rw [h10]; rfl) (by decide) ?_
                refine gw_aload_n C d_Mo_told_87 rfl 0 rfl ?_
                refine fg_Mo_122 (v := σ.1 4) C rfl d_Mo_told_88 ?_
                cases hF
                exact gw_iret C hr rfl d_Mo_told_91
              · have hF := gw_neg h10 hF
                by_cases h11 : x1 = 4
                · have hF := gw_pos h11 hF
                  refine gw_tableIn (tgt := 92) C d_Mo_told_31 (by rw [h11]; decide) (by rw [h11]; decide) (by rw [h11]; rfl) (by decide) ?_
                  refine gw_aload_n C d_Mo_told_92 rfl 0 rfl ?_
                  refine fg_Mo_125 (v := σ.1 5) C rfl d_Mo_told_93 ?_
                  cases hF
                  exact gw_iret C hr rfl d_Mo_told_96
                · have hF := gw_neg h11 hF
                  by_cases h12 : x1 = 5
                  · have hF := gw_pos h12 hF
                    refine gw_tableIn (tgt := 97) C d_Mo_told_31 (by rw [h12]; decide) (by rw [h12]; decide) (by rw [h12]; rfl) (by decide) ?_
                    refine gw_aload_n C d_Mo_told_97 rfl 0 rfl ?_
                    refine fg_Mo_131 (v := σ.1 16) C rfl d_Mo_told_98 ?_
                    cases hF
                    exact gw_iret C hr rfl d_Mo_told_101
                  · have hF := gw_neg h12 hF
                    by_cases h13 : x1 = 6
                    · have hF := gw_pos h13 hF
                      refine gw_tableIn (tgt := 102) C d_Mo_told_31 (by rw [h13]; decide) (by rw [h13]; decide) (by rw [h13]; rfl) (by decide) ?_
                      refine gw_aload_n C d_Mo_told_102 rfl 0 rfl ?_
                      refine fg_Mo_134 (v := σ.1 17) C rfl d_Mo_told_103 ?_
                      cases hF
                      exact gw_iret C hr rfl d_Mo_told_106
                    · have hF := gw_neg h13 hF
                      refine gw_tableOut (tgt := 107) C d_Mo_told_31 (gw_out7 h7 h8 h9 h10 h11 h12 h13) (by decide) ?_
                      refine gw_aload_n C d_Mo_told_107 rfl 0 rfl ?_
                      refine fg_Mo_119 (v := σ.1 3) C rfl d_Mo_told_108 ?_
                      cases hF
                      exact gw_iret C hr rfl d_Mo_told_111
      · have hF := gw_pos h6 hF
        refine gw_iconst (v := (-1)) C d_Mo_told_28 (by decide) ?_
        cases hF
        exact gw_iret C hr rfl d_Mo_told_29
    · have hF := gw_neg h5 hF
      refine gw_aload_n C d_Mo_told_10 rfl 0 rfl ?_
      refine gw_iconst (v := 1) C d_Mo_told_11 (by decide) ?_
      obtain ⟨r15, σ16, h14, hF⟩ := gw_bnd hF
      refine fc_Mo_94 (As := [.int 1]) (st := []) (σ' := σ16) C (c_Mo_thrownBy l D cI cL cZ ad h14) ⟨Nat.le_of_ble_eq_true rfl, Nat.le_of_ble_eq_true rfl⟩ ⟨Nat.le_of_ble_eq_true rfl, Nat.le_of_ble_eq_true rfl⟩ rfl (Nat.le_of_ble_eq_true rfl) d_Mo_told_12 ?_
      cases hF
      exact gw_iret C hr rfl d_Mo_told_15
