set_option maxRecDepth 100000 in
set_option maxHeartbeats 4000000 in
theorem law_number {Rel : Nat → St → St → Prop} (S : LawSim Rel) {p : Program} {l : Launch} {e : Env} {s : State} {m : MethodId} {below : List Frame} {meth : Method} {c : Code} {D : va_G} {A : Nat → Prop} {Q : State → Prop} {cI cL cZ : ClassId} {b L : Nat} {xs : Nat → Int32} (CT : gw_CT l p s m #[Value.ref b] meth c code 7 R_La D gw_cl (gw_ty cI cL cZ) A) (hN : gw_Nc s) (hX : va_X b L xs s s.heap) (hbl : b < s.heap.size) (hbA : ¬ A b) {qo : Nat} {f : Nat → Int64} {adC adM : Nat → Nat} {σ τ : St} {n cells slots : Nat} (hn : n < 512) (hrel : Rel n σ τ) (hc1 : cells + 1 ≤ room_1.cells) (hs1 : slots + 6 ≤ room_1.slots) {x4 v1 v2 v3 : Int32} (h_1 : vp_in (x4 + 1) L) (h_2 : vp_in (x4 + 2) L) (h_3 : vp_in (x4 + 3) L) (e_1 : xs (x4 + 1).toNatClampNeg = v1) (e_2 : xs (x4 + 2).toNatClampNeg = v2) (e_3 : xs (x4 + 3).toNatClampNeg = v3)
    (kk : ∀ (f' : Nat → Int64) (σ' τ' : St), Rel (n + 1) σ' τ' → gw_W p l e room_1 s m #[Value.ref b] below meth c D gw_cl A Q (cells + 1) (slots + 6) 7 (wL cI cL cZ qo f' adC σ' adM τ') [(0, .ref b), (1, .ref (adC 0)), (2, .ref (adM 0)), (3, .ref qo), (4, .int x4)] 1144 []) : gw_W p l e room_1 s m #[Value.ref b] below meth c D gw_cl A Q cells slots 7 (wL cI cL cZ qo f adC σ adM τ) [(0, .ref b), (1, .ref (adC 0)), (2, .ref (adM 0)), (3, .ref qo), (4, .int x4)] 128 [] := by
  have C := CT.1
  refine gw_aload_n C d_La_law_128 rfl 1 rfl ?_
  refine gw_aload_n C d_La_law_129 rfl 0 rfl ?_
  refine gw_iload C d_La_law_130 4 rfl ?_
  refine gw_iconst (v := 1) C d_La_law_132 (by decide) ?_
  refine gw_iadd C d_La_law_133 ?_
  refine gw_sld (v := v1) C hX hbl hbA h_1 e_1 d_La_law_134 ?_
  refine gw_i2l C d_La_law_135 ?_
  refine gw_bipush (v := 32) C d_La_law_136 (by decide) ?_
  refine gw_lshl C d_La_law_138 ?_
  refine gw_aload_n C d_La_law_139 rfl 0 rfl ?_
  refine gw_iload C d_La_law_140 4 rfl ?_
  refine gw_iconst (v := 2) C d_La_law_142 (by decide) ?_
  refine gw_iadd C d_La_law_143 ?_
  refine gw_sld (v := v2) C hX hbl hbA h_2 e_2 d_La_law_144 ?_
  refine gw_i2l C d_La_law_145 ?_
  refine gw_ldc2 C tb_1199 d_La_law_146 ?_
  refine gw_land C d_La_law_149 ?_
  refine gw_lor C d_La_law_150 ?_
  refine gw_aload_n C d_La_law_151 rfl 3 rfl ?_
  obtain ⟨k, r, σ', bv, τ', th, h1, h2, h3, hrel', hcs⟩ := S.2.1 n σ τ ((v1.toInt64 <<< ((32 : Int32).toInt64 &&& 63)) ||| (v2.toInt64 &&& 4294967295)) hn hrel
  rcases hcs with ⟨rfl, rfl, rfl⟩ | ⟨rfl, rfl⟩
  · refine gw_callSH (n := 3) (As := [.ref (adC 0), .long ((v1.toInt64 <<< ((32 : Int32).toInt64 &&& 63)) ||| (v2.toInt64 &&& 4294967295)), .ref qo]) (st := []) CT hN (h_La_number_0 l CT.2.2.2 D cI cL cZ adC qo f h1) tbW_269 tb_267 tb_268 tbI_La (by decide +kernel) ⟨Nat.le_of_ble_eq_true rfl, Nat.le_of_ble_eq_true rfl⟩ ⟨hc1, hs1⟩ [0, 1, 2, 3, 4, 5, 6, 7, 8, 9, 10, 11, 12, 13, 14, 15, 16, 17, 18, 19, 20, 21, 22, 23, 24, 25, 26, 27, 28, 29, 30, 31, 32] [33, 34, 35, 36, 37, 38, 39, 40, 41, 42, 43, 44, 45, 46, 47, 48, 49, 50, 51, 52, 53, 54, 55, 56, 57, 58] (wL_h cI cL cZ qo f adC σ adM τ) (wL_hf cI cL cZ qo f adC σ adM τ) (by decide) (wL_m cI cL cZ qo f adC σ adM τ) (by decide) (by decide) rfl (Nat.le_of_ble_eq_true rfl) d_La_law_152 ?_
    refine gw_widen (cells' := cells + 1) (slots' := slots + 6) (Nat.add_le_add_left (by decide) _) (Nat.add_le_add_left (by decide) _) ?_
    refine gw_perm [26, 27, 28, 29, 30, 31, 32, 33, 34, 35, 36, 37, 38, 39, 40, 41, 42, 43, 44, 45, 46, 47, 48, 49, 50, 51, 52, 53, 54, 55, 56, 57, 58, 0, 1, 2, 3, 4, 5, 6, 7, 8, 9, 10, 11, 12, 13, 14, 15, 16, 17, 18, 19, 20, 21, 22, 23, 24, 25] (wL_ph cI cL cZ qo (vp_updL f (0 : Int32).toNatClampNeg r.toInt64) adC σ' adM τ) (wL_phm cI cL cZ qo (vp_updL f (0 : Int32).toNatClampNeg r.toInt64) adC σ' adM τ) (by decide) ?_
    refine gw_istore (lv' := [(5, .int 0), (0, .ref b), (1, .ref (adC 0)), (2, .ref (adM 0)), (3, .ref qo), (4, .int x4)]) C d_La_law_155 (by decide) rfl ?_
    refine gw_aload_n C d_La_law_157 rfl 3 rfl ?_
    refine gw_aload_n C d_La_law_158 rfl 1 rfl ?_
    refine gw_iload C d_La_law_159 5 rfl ?_
    refine gw_iconst (v := 1) C d_La_law_161 (by decide) ?_
    refine gw_iadd C d_La_law_162 ?_
    refine gw_sld (v := v1) C hX hbl hbA h_1 e_1 d_La_law_163 ?_
    refine gw_i2l C d_La_law_164 ?_
    refine gw_bipush (v := 32) C d_La_law_165 (by decide) ?_
    refine gw_lshl C d_La_law_167 ?_
    refine gw_aload_n C d_La_law_168 rfl 1 rfl ?_
    refine gw_iload C d_La_law_169 5 rfl ?_
    refine gw_iconst (v := 2) C d_La_law_171 (by decide) ?_
    refine gw_iadd C d_La_law_172 ?_
    refine gw_sld (v := v2) C hX hbl hbA h_2 e_2 d_La_law_173 ?_
    refine gw_i2l C d_La_law_174 ?_
    refine gw_ldc2 C tb_1199 d_La_law_175 ?_
    refine gw_land C d_La_law_178 ?_
    refine gw_lor C d_La_law_179 ?_
    refine gw_callVF (T := T_Mo) (N := 48) (n := 1) (q0 := 0) (As := [.long ((v1.toInt64 <<< ((32 : Int32).toInt64 &&& 63)) ||| (v2.toInt64 &&& 4294967295))]) (st := []) C (c_Mo_number l D cI cL cZ adM h2) tb_1024 tb_1021 tb_1022 tb_1023 tb_8 (by decide +kernel) ⟨Nat.le_of_ble_eq_true rfl, Nat.le_of_ble_eq_true rfl⟩ ⟨hc1, hs1⟩ rfl rfl [33, 34, 35, 36, 37, 38, 39, 40, 41, 42, 43, 44, 45, 46, 47, 48, 49, 50, 51, 52, 53, 54, 55, 56, 57, 58] [0, 1, 2, 3, 4, 5, 6, 7, 8, 9, 10, 11, 12, 13, 14, 15, 16, 17, 18, 19, 20, 21, 22, 23, 24, 25, 26, 27, 28, 29, 30, 31, 32] (wL_m cI cL cZ qo (vp_updL f (0 : Int32).toNatClampNeg r.toInt64) adC σ' adM τ) (wL_mf cI cL cZ qo (vp_updL f (0 : Int32).toNatClampNeg r.toInt64) adC σ' adM τ) (by decide) (wL_h cI cL cZ qo (vp_updL f (0 : Int32).toNatClampNeg r.toInt64) adC σ' adM τ) (by decide) (by decide) rfl rfl rfl (Nat.le_of_ble_eq_true rfl) d_La_law_180 ?_
    refine gw_eq (ws' := (wL cI cL cZ qo (vp_updL f (0 : Int32).toNatClampNeg r.toInt64) adC σ' adM τ')) rfl rfl ?_
    refine gw_istore (lv' := [(6, .int r), (5, .int 0), (0, .ref b), (1, .ref (adC 0)), (2, .ref (adM 0)), (3, .ref qo), (4, .int x4)]) C d_La_law_183 (by decide) rfl ?_
    refine gw_aload_n C d_La_law_185 rfl 4 rfl ?_
    refine gw_callVF (T := T_Mo) (N := 48) (n := 0) (q0 := 0) (As := []) (st := []) C (c_Mo_thrown l D cI cL cZ adM h3) tb_1020 tb_1017 tb_1018 tb_1019 tb_8 (by decide +kernel) ⟨Nat.le_of_ble_eq_true rfl, Nat.le_of_ble_eq_true rfl⟩ ⟨hc1, hs1⟩ rfl rfl [33, 34, 35, 36, 37, 38, 39, 40, 41, 42, 43, 44, 45, 46, 47, 48, 49, 50, 51, 52, 53, 54, 55, 56, 57, 58] [0, 1, 2, 3, 4, 5, 6, 7, 8, 9, 10, 11, 12, 13, 14, 15, 16, 17, 18, 19, 20, 21, 22, 23, 24, 25, 26, 27, 28, 29, 30, 31, 32] (wL_m cI cL cZ qo (vp_updL f (0 : Int32).toNatClampNeg r.toInt64) adC σ' adM τ') (wL_mf cI cL cZ qo (vp_updL f (0 : Int32).toNatClampNeg r.toInt64) adC σ' adM τ') (by decide) (wL_h cI cL cZ qo (vp_updL f (0 : Int32).toNatClampNeg r.toInt64) adC σ' adM τ') (by decide) (by decide) rfl rfl rfl (Nat.le_of_ble_eq_true rfl) d_La_law_186 ?_
    refine gw_eq (ws' := (wL cI cL cZ qo (vp_updL f (0 : Int32).toNatClampNeg r.toInt64) adC σ' adM τ')) rfl rfl ?_
    refine gw_iload C d_La_law_189 1 rfl ?_
    refine gw_icmp_eq (tgt := 196) C d_La_law_191 (by decide) (fun _ => ?_) (fun h => absurd rfl h)
    refine gw_iload C d_La_law_196 1 rfl ?_
    refine gw_if_ne (tgt := 213) C d_La_law_198 (by decide) (fun h => absurd rfl h) (fun _ => ?_)
    refine gw_aload_n C d_La_law_201 rfl 5 rfl ?_
    refine gw_iconst (v := 0) C d_La_law_202 (by decide) ?_
    refine gw_lald C 0 1 rfl rfl (vp_in_nI (n := 0) (N := 1) (by decide) (by decide)) d_La_law_203 ?_
    refine gw_iload C d_La_law_204 0 rfl ?_
    refine gw_i2l C d_La_law_206 ?_
    refine gw_lcmp C d_La_law_207 ?_
    refine gw_if_eq (tgt := 213) C d_La_law_208 (by decide) (fun _ => ?_) (fun h => absurd (gw_lc _ _ _) h)
    refine gw_goto (tgt := 1144) C d_La_law_213 (by decide) ?_
    refine gw_less [2, 3, 4, 5, 6] rfl ?_
    exact kk _ _ _ hrel'
  · refine gw_callSH (n := 3) (As := [.ref (adC 0), .long ((v1.toInt64 <<< ((32 : Int32).toInt64 &&& 63)) ||| (v2.toInt64 &&& 4294967295)), .ref qo]) (st := []) CT hN (h_La_number_2 l CT.2.2.2 D cI cL cZ adC qo f h1) tbW_269 tb_267 tb_268 tbI_La (by decide +kernel) ⟨Nat.le_of_ble_eq_true rfl, Nat.le_of_ble_eq_true rfl⟩ ⟨hc1, hs1⟩ [0, 1, 2, 3, 4, 5, 6, 7, 8, 9, 10, 11, 12, 13, 14, 15, 16, 17, 18, 19, 20, 21, 22, 23, 24, 25, 26, 27, 28, 29, 30, 31, 32] [33, 34, 35, 36, 37, 38, 39, 40, 41, 42, 43, 44, 45, 46, 47, 48, 49, 50, 51, 52, 53, 54, 55, 56, 57, 58] (wL_h cI cL cZ qo f adC σ adM τ) (wL_hf cI cL cZ qo f adC σ adM τ) (by decide) (wL_m cI cL cZ qo f adC σ adM τ) (by decide) (by decide) rfl (Nat.le_of_ble_eq_true rfl) d_La_law_152 ?_
    refine gw_widen (cells' := cells + 1) (slots' := slots + 6) (Nat.add_le_add_left (by decide) _) (Nat.add_le_add_left (by decide) _) ?_
    refine gw_perm [26, 27, 28, 29, 30, 31, 32, 33, 34, 35, 36, 37, 38, 39, 40, 41, 42, 43, 44, 45, 46, 47, 48, 49, 50, 51, 52, 53, 54, 55, 56, 57, 58, 0, 1, 2, 3, 4, 5, 6, 7, 8, 9, 10, 11, 12, 13, 14, 15, 16, 17, 18, 19, 20, 21, 22, 23, 24, 25] (wL_ph cI cL cZ qo f adC σ' adM τ) (wL_phm cI cL cZ qo f adC σ' adM τ) (by decide) ?_
    refine gw_istore (lv' := [(5, .int 1), (0, .ref b), (1, .ref (adC 0)), (2, .ref (adM 0)), (3, .ref qo), (4, .int x4)]) C d_La_law_155 (by decide) rfl ?_
    refine gw_aload_n C d_La_law_157 rfl 3 rfl ?_
    refine gw_aload_n C d_La_law_158 rfl 1 rfl ?_
    refine gw_iload C d_La_law_159 5 rfl ?_
    refine gw_iconst (v := 1) C d_La_law_161 (by decide) ?_
    refine gw_iadd C d_La_law_162 ?_
    refine gw_sld (v := v1) C hX hbl hbA h_1 e_1 d_La_law_163 ?_
    refine gw_i2l C d_La_law_164 ?_
    refine gw_bipush (v := 32) C d_La_law_165 (by decide) ?_
    refine gw_lshl C d_La_law_167 ?_
    refine gw_aload_n C d_La_law_168 rfl 1 rfl ?_
    refine gw_iload C d_La_law_169 5 rfl ?_
    refine gw_iconst (v := 2) C d_La_law_171 (by decide) ?_
    refine gw_iadd C d_La_law_172 ?_
    refine gw_sld (v := v2) C hX hbl hbA h_2 e_2 d_La_law_173 ?_
    refine gw_i2l C d_La_law_174 ?_
    refine gw_ldc2 C tb_1199 d_La_law_175 ?_
    refine gw_land C d_La_law_178 ?_
    refine gw_lor C d_La_law_179 ?_
    refine gw_callVF (T := T_Mo) (N := 48) (n := 1) (q0 := 0) (As := [.long ((v1.toInt64 <<< ((32 : Int32).toInt64 &&& 63)) ||| (v2.toInt64 &&& 4294967295))]) (st := []) C (c_Mo_number l D cI cL cZ adM h2) tb_1024 tb_1021 tb_1022 tb_1023 tb_8 (by decide +kernel) ⟨Nat.le_of_ble_eq_true rfl, Nat.le_of_ble_eq_true rfl⟩ ⟨hc1, hs1⟩ rfl rfl [33, 34, 35, 36, 37, 38, 39, 40, 41, 42, 43, 44, 45, 46, 47, 48, 49, 50, 51, 52, 53, 54, 55, 56, 57, 58] [0, 1, 2, 3, 4, 5, 6, 7, 8, 9, 10, 11, 12, 13, 14, 15, 16, 17, 18, 19, 20, 21, 22, 23, 24, 25, 26, 27, 28, 29, 30, 31, 32] (wL_m cI cL cZ qo f adC σ' adM τ) (wL_mf cI cL cZ qo f adC σ' adM τ) (by decide) (wL_h cI cL cZ qo f adC σ' adM τ) (by decide) (by decide) rfl rfl rfl (Nat.le_of_ble_eq_true rfl) d_La_law_180 ?_
    refine gw_eq (ws' := (wL cI cL cZ qo f adC σ' adM τ')) rfl rfl ?_
    refine gw_istore (lv' := [(6, .int bv), (5, .int 1), (0, .ref b), (1, .ref (adC 0)), (2, .ref (adM 0)), (3, .ref qo), (4, .int x4)]) C d_La_law_183 (by decide) rfl ?_
    refine gw_aload_n C d_La_law_185 rfl 4 rfl ?_
    refine gw_callVF (T := T_Mo) (N := 48) (n := 0) (q0 := 0) (As := []) (st := []) C (c_Mo_thrown l D cI cL cZ adM h3) tb_1020 tb_1017 tb_1018 tb_1019 tb_8 (by decide +kernel) ⟨Nat.le_of_ble_eq_true rfl, Nat.le_of_ble_eq_true rfl⟩ ⟨hc1, hs1⟩ rfl rfl [33, 34, 35, 36, 37, 38, 39, 40, 41, 42, 43, 44, 45, 46, 47, 48, 49, 50, 51, 52, 53, 54, 55, 56, 57, 58] [0, 1, 2, 3, 4, 5, 6, 7, 8, 9, 10, 11, 12, 13, 14, 15, 16, 17, 18, 19, 20, 21, 22, 23, 24, 25, 26, 27, 28, 29, 30, 31, 32] (wL_m cI cL cZ qo f adC σ' adM τ') (wL_mf cI cL cZ qo f adC σ' adM τ') (by decide) (wL_h cI cL cZ qo f adC σ' adM τ') (by decide) (by decide) rfl rfl rfl (Nat.le_of_ble_eq_true rfl) d_La_law_186 ?_
    refine gw_eq (ws' := (wL cI cL cZ qo f adC σ' adM τ')) rfl rfl ?_
    refine gw_iload C d_La_law_189 1 rfl ?_
    refine gw_icmp_eq (tgt := 196) C d_La_law_191 (by decide) (fun _ => ?_) (fun h => absurd rfl h)
    refine gw_iload C d_La_law_196 1 rfl ?_
    refine gw_if_ne (tgt := 213) C d_La_law_198 (by decide) (fun _ => ?_) (fun h => absurd h (by decide))
    refine gw_goto (tgt := 1144) C d_La_law_213 (by decide) ?_
    refine gw_less [2, 3, 4, 5, 6] rfl ?_
    exact kk _ _ _ hrel'
set_option maxRecDepth 100000 in
set_option maxHeartbeats 4000000 in
theorem law_variable {Rel : Nat → St → St → Prop} (S : LawSim Rel) {p : Program} {l : Launch} {e : Env} {s : State} {m : MethodId} {below : List Frame} {meth : Method} {c : Code} {D : va_G} {A : Nat → Prop} {Q : State → Prop} {cI cL cZ : ClassId} {b L : Nat} {xs : Nat → Int32} (CT : gw_CT l p s m #[Value.ref b] meth c code 7 R_La D gw_cl (gw_ty cI cL cZ) A) (hN : gw_Nc s) (hX : va_X b L xs s s.heap) (hbl : b < s.heap.size) (hbA : ¬ A b) {qo : Nat} {f : Nat → Int64} {adC adM : Nat → Nat} {σ τ : St} {n cells slots : Nat} (hn : n < 512) (hrel : Rel n σ τ) (hc1 : cells + 1 ≤ room_1.cells) (hs1 : slots + 6 ≤ room_1.slots) {x4 v1 v2 v3 : Int32} (h_1 : vp_in (x4 + 1) L) (h_2 : vp_in (x4 + 2) L) (h_3 : vp_in (x4 + 3) L) (e_1 : xs (x4 + 1).toNatClampNeg = v1) (e_2 : xs (x4 + 2).toNatClampNeg = v2) (e_3 : xs (x4 + 3).toNatClampNeg = v3)
    (kk : ∀ (f' : Nat → Int64) (σ' τ' : St), Rel (n + 1) σ' τ' → gw_W p l e room_1 s m #[Value.ref b] below meth c D gw_cl A Q (cells + 1) (slots + 6) 7 (wL cI cL cZ qo f' adC σ' adM τ') [(0, .ref b), (1, .ref (adC 0)), (2, .ref (adM 0)), (3, .ref qo), (4, .int x4)] 1144 []) : gw_W p l e room_1 s m #[Value.ref b] below meth c D gw_cl A Q cells slots 7 (wL cI cL cZ qo f adC σ adM τ) [(0, .ref b), (1, .ref (adC 0)), (2, .ref (adM 0)), (3, .ref qo), (4, .int x4)] 216 [] := by
  have C := CT.1
  refine gw_aload_n C d_La_law_216 rfl 1 rfl ?_
  refine gw_aload_n C d_La_law_217 rfl 0 rfl ?_
  refine gw_iload C d_La_law_218 4 rfl ?_
  refine gw_iconst (v := 1) C d_La_law_220 (by decide) ?_
  refine gw_iadd C d_La_law_221 ?_
  refine gw_sld (v := v1) C hX hbl hbA h_1 e_1 d_La_law_222 ?_
  refine gw_aload_n C d_La_law_223 rfl 3 rfl ?_
  obtain ⟨k, r, σ', bv, τ', th, h1, h2, h3, hrel', hcs⟩ := S.2.2.1 n σ τ v1 hn hrel
  rcases hcs with ⟨rfl, rfl, rfl⟩ | ⟨rfl, rfl⟩ | ⟨rfl, rfl⟩
  · refine gw_callSH (n := 3) (As := [.ref (adC 0), .int v1, .ref qo]) (st := []) CT hN (h_La_variable_0 l CT.2.2.2 D cI cL cZ adC qo f h1) tbW_361 tb_359 tb_360 tbI_La (by decide +kernel) ⟨Nat.le_of_ble_eq_true rfl, Nat.le_of_ble_eq_true rfl⟩ ⟨hc1, hs1⟩ [0, 1, 2, 3, 4, 5, 6, 7, 8, 9, 10, 11, 12, 13, 14, 15, 16, 17, 18, 19, 20, 21, 22, 23, 24, 25, 26, 27, 28, 29, 30, 31, 32] [33, 34, 35, 36, 37, 38, 39, 40, 41, 42, 43, 44, 45, 46, 47, 48, 49, 50, 51, 52, 53, 54, 55, 56, 57, 58] (wL_h cI cL cZ qo f adC σ adM τ) (wL_hf cI cL cZ qo f adC σ adM τ) (by decide) (wL_m cI cL cZ qo f adC σ adM τ) (by decide) (by decide) rfl (Nat.le_of_ble_eq_true rfl) d_La_law_224 ?_
    refine gw_widen (cells' := cells + 1) (slots' := slots + 6) (Nat.add_le_add_left (by decide) _) (Nat.add_le_add_left (by decide) _) ?_
    refine gw_perm [26, 27, 28, 29, 30, 31, 32, 33, 34, 35, 36, 37, 38, 39, 40, 41, 42, 43, 44, 45, 46, 47, 48, 49, 50, 51, 52, 53, 54, 55, 56, 57, 58, 0, 1, 2, 3, 4, 5, 6, 7, 8, 9, 10, 11, 12, 13, 14, 15, 16, 17, 18, 19, 20, 21, 22, 23, 24, 25] (wL_ph cI cL cZ qo (vp_updL f (0 : Int32).toNatClampNeg r.toInt64) adC σ' adM τ) (wL_phm cI cL cZ qo (vp_updL f (0 : Int32).toNatClampNeg r.toInt64) adC σ' adM τ) (by decide) ?_
    refine gw_istore (lv' := [(5, .int 0), (0, .ref b), (1, .ref (adC 0)), (2, .ref (adM 0)), (3, .ref qo), (4, .int x4)]) C d_La_law_227 (by decide) rfl ?_
    refine gw_aload_n C d_La_law_229 rfl 3 rfl ?_
    refine gw_aload_n C d_La_law_230 rfl 1 rfl ?_
    refine gw_iload C d_La_law_231 5 rfl ?_
    refine gw_iconst (v := 1) C d_La_law_233 (by decide) ?_
    refine gw_iadd C d_La_law_234 ?_
    refine gw_sld (v := v1) C hX hbl hbA h_1 e_1 d_La_law_235 ?_
    refine gw_callVF (T := T_Mo) (N := 48) (n := 1) (q0 := 0) (As := [.int v1]) (st := []) C (c_Mo_variable l D cI cL cZ adM h2) tb_1036 tb_1033 tb_1034 tb_1035 tb_8 (by decide +kernel) ⟨Nat.le_of_ble_eq_true rfl, Nat.le_of_ble_eq_true rfl⟩ ⟨hc1, hs1⟩ rfl rfl [33, 34, 35, 36, 37, 38, 39, 40, 41, 42, 43, 44, 45, 46, 47, 48, 49, 50, 51, 52, 53, 54, 55, 56, 57, 58] [0, 1, 2, 3, 4, 5, 6, 7, 8, 9, 10, 11, 12, 13, 14, 15, 16, 17, 18, 19, 20, 21, 22, 23, 24, 25, 26, 27, 28, 29, 30, 31, 32] (wL_m cI cL cZ qo (vp_updL f (0 : Int32).toNatClampNeg r.toInt64) adC σ' adM τ) (wL_mf cI cL cZ qo (vp_updL f (0 : Int32).toNatClampNeg r.toInt64) adC σ' adM τ) (by decide) (wL_h cI cL cZ qo (vp_updL f (0 : Int32).toNatClampNeg r.toInt64) adC σ' adM τ) (by decide) (by decide) rfl rfl rfl (Nat.le_of_ble_eq_true rfl) d_La_law_236 ?_
    refine gw_eq (ws' := (wL cI cL cZ qo (vp_updL f (0 : Int32).toNatClampNeg r.toInt64) adC σ' adM τ')) rfl rfl ?_
    refine gw_istore (lv' := [(6, .int r), (5, .int 0), (0, .ref b), (1, .ref (adC 0)), (2, .ref (adM 0)), (3, .ref qo), (4, .int x4)]) C d_La_law_239 (by decide) rfl ?_
    refine gw_aload_n C d_La_law_241 rfl 4 rfl ?_
    refine gw_callVF (T := T_Mo) (N := 48) (n := 0) (q0 := 0) (As := []) (st := []) C (c_Mo_thrown l D cI cL cZ adM h3) tb_1020 tb_1017 tb_1018 tb_1019 tb_8 (by decide +kernel) ⟨Nat.le_of_ble_eq_true rfl, Nat.le_of_ble_eq_true rfl⟩ ⟨hc1, hs1⟩ rfl rfl [33, 34, 35, 36, 37, 38, 39, 40, 41, 42, 43, 44, 45, 46, 47, 48, 49, 50, 51, 52, 53, 54, 55, 56, 57, 58] [0, 1, 2, 3, 4, 5, 6, 7, 8, 9, 10, 11, 12, 13, 14, 15, 16, 17, 18, 19, 20, 21, 22, 23, 24, 25, 26, 27, 28, 29, 30, 31, 32] (wL_m cI cL cZ qo (vp_updL f (0 : Int32).toNatClampNeg r.toInt64) adC σ' adM τ') (wL_mf cI cL cZ qo (vp_updL f (0 : Int32).toNatClampNeg r.toInt64) adC σ' adM τ') (by decide) (wL_h cI cL cZ qo (vp_updL f (0 : Int32).toNatClampNeg r.toInt64) adC σ' adM τ') (by decide) (by decide) rfl rfl rfl (Nat.le_of_ble_eq_true rfl) d_La_law_242 ?_
    refine gw_eq (ws' := (wL cI cL cZ qo (vp_updL f (0 : Int32).toNatClampNeg r.toInt64) adC σ' adM τ')) rfl rfl ?_
    refine gw_iload C d_La_law_245 1 rfl ?_
    refine gw_icmp_eq (tgt := 252) C d_La_law_247 (by decide) (fun _ => ?_) (fun h => absurd rfl h)
    refine gw_iload C d_La_law_252 1 rfl ?_
    refine gw_if_ne (tgt := 269) C d_La_law_254 (by decide) (fun h => absurd rfl h) (fun _ => ?_)
    refine gw_aload_n C d_La_law_257 rfl 5 rfl ?_
    refine gw_iconst (v := 0) C d_La_law_258 (by decide) ?_
    refine gw_lald C 0 1 rfl rfl (vp_in_nI (n := 0) (N := 1) (by decide) (by decide)) d_La_law_259 ?_
    refine gw_iload C d_La_law_260 0 rfl ?_
    refine gw_i2l C d_La_law_262 ?_
    refine gw_lcmp C d_La_law_263 ?_
    refine gw_if_eq (tgt := 269) C d_La_law_264 (by decide) (fun _ => ?_) (fun h => absurd (gw_lc _ _ _) h)
    refine gw_goto (tgt := 1144) C d_La_law_269 (by decide) ?_
    refine gw_less [2, 3, 4, 5, 6] rfl ?_
    exact kk _ _ _ hrel'
  · refine gw_callSH (n := 3) (As := [.ref (adC 0), .int v1, .ref qo]) (st := []) CT hN (h_La_variable_2 l CT.2.2.2 D cI cL cZ adC qo f h1) tbW_361 tb_359 tb_360 tbI_La (by decide +kernel) ⟨Nat.le_of_ble_eq_true rfl, Nat.le_of_ble_eq_true rfl⟩ ⟨hc1, hs1⟩ [0, 1, 2, 3, 4, 5, 6, 7, 8, 9, 10, 11, 12, 13, 14, 15, 16, 17, 18, 19, 20, 21, 22, 23, 24, 25, 26, 27, 28, 29, 30, 31, 32] [33, 34, 35, 36, 37, 38, 39, 40, 41, 42, 43, 44, 45, 46, 47, 48, 49, 50, 51, 52, 53, 54, 55, 56, 57, 58] (wL_h cI cL cZ qo f adC σ adM τ) (wL_hf cI cL cZ qo f adC σ adM τ) (by decide) (wL_m cI cL cZ qo f adC σ adM τ) (by decide) (by decide) rfl (Nat.le_of_ble_eq_true rfl) d_La_law_224 ?_
    refine gw_widen (cells' := cells + 1) (slots' := slots + 6) (Nat.add_le_add_left (by decide) _) (Nat.add_le_add_left (by decide) _) ?_
    refine gw_perm [26, 27, 28, 29, 30, 31, 32, 33, 34, 35, 36, 37, 38, 39, 40, 41, 42, 43, 44, 45, 46, 47, 48, 49, 50, 51, 52, 53, 54, 55, 56, 57, 58, 0, 1, 2, 3, 4, 5, 6, 7, 8, 9, 10, 11, 12, 13, 14, 15, 16, 17, 18, 19, 20, 21, 22, 23, 24, 25] (wL_ph cI cL cZ qo f adC σ' adM τ) (wL_phm cI cL cZ qo f adC σ' adM τ) (by decide) ?_
    refine gw_istore (lv' := [(5, .int 1), (0, .ref b), (1, .ref (adC 0)), (2, .ref (adM 0)), (3, .ref qo), (4, .int x4)]) C d_La_law_227 (by decide) rfl ?_
    refine gw_aload_n C d_La_law_229 rfl 3 rfl ?_
    refine gw_aload_n C d_La_law_230 rfl 1 rfl ?_
    refine gw_iload C d_La_law_231 5 rfl ?_
    refine gw_iconst (v := 1) C d_La_law_233 (by decide) ?_
    refine gw_iadd C d_La_law_234 ?_
    refine gw_sld (v := v1) C hX hbl hbA h_1 e_1 d_La_law_235 ?_
    refine gw_callVF (T := T_Mo) (N := 48) (n := 1) (q0 := 0) (As := [.int v1]) (st := []) C (c_Mo_variable l D cI cL cZ adM h2) tb_1036 tb_1033 tb_1034 tb_1035 tb_8 (by decide +kernel) ⟨Nat.le_of_ble_eq_true rfl, Nat.le_of_ble_eq_true rfl⟩ ⟨hc1, hs1⟩ rfl rfl [33, 34, 35, 36, 37, 38, 39, 40, 41, 42, 43, 44, 45, 46, 47, 48, 49, 50, 51, 52, 53, 54, 55, 56, 57, 58] [0, 1, 2, 3, 4, 5, 6, 7, 8, 9, 10, 11, 12, 13, 14, 15, 16, 17, 18, 19, 20, 21, 22, 23, 24, 25, 26, 27, 28, 29, 30, 31, 32] (wL_m cI cL cZ qo f adC σ' adM τ) (wL_mf cI cL cZ qo f adC σ' adM τ) (by decide) (wL_h cI cL cZ qo f adC σ' adM τ) (by decide) (by decide) rfl rfl rfl (Nat.le_of_ble_eq_true rfl) d_La_law_236 ?_
    refine gw_eq (ws' := (wL cI cL cZ qo f adC σ' adM τ')) rfl rfl ?_
    refine gw_istore (lv' := [(6, .int bv), (5, .int 1), (0, .ref b), (1, .ref (adC 0)), (2, .ref (adM 0)), (3, .ref qo), (4, .int x4)]) C d_La_law_239 (by decide) rfl ?_
    refine gw_aload_n C d_La_law_241 rfl 4 rfl ?_
    refine gw_callVF (T := T_Mo) (N := 48) (n := 0) (q0 := 0) (As := []) (st := []) C (c_Mo_thrown l D cI cL cZ adM h3) tb_1020 tb_1017 tb_1018 tb_1019 tb_8 (by decide +kernel) ⟨Nat.le_of_ble_eq_true rfl, Nat.le_of_ble_eq_true rfl⟩ ⟨hc1, hs1⟩ rfl rfl [33, 34, 35, 36, 37, 38, 39, 40, 41, 42, 43, 44, 45, 46, 47, 48, 49, 50, 51, 52, 53, 54, 55, 56, 57, 58] [0, 1, 2, 3, 4, 5, 6, 7, 8, 9, 10, 11, 12, 13, 14, 15, 16, 17, 18, 19, 20, 21, 22, 23, 24, 25, 26, 27, 28, 29, 30, 31, 32] (wL_m cI cL cZ qo f adC σ' adM τ') (wL_mf cI cL cZ qo f adC σ' adM τ') (by decide) (wL_h cI cL cZ qo f adC σ' adM τ') (by decide) (by decide) rfl rfl rfl (Nat.le_of_ble_eq_true rfl) d_La_law_242 ?_
    refine gw_eq (ws' := (wL cI cL cZ qo f adC σ' adM τ')) rfl rfl ?_
    refine gw_iload C d_La_law_245 1 rfl ?_
    refine gw_icmp_eq (tgt := 252) C d_La_law_247 (by decide) (fun _ => ?_) (fun h => absurd rfl h)
    refine gw_iload C d_La_law_252 1 rfl ?_
    refine gw_if_ne (tgt := 269) C d_La_law_254 (by decide) (fun _ => ?_) (fun h => absurd h (by decide))
    refine gw_goto (tgt := 1144) C d_La_law_269 (by decide) ?_
    refine gw_less [2, 3, 4, 5, 6] rfl ?_
    exact kk _ _ _ hrel'
  · refine gw_callSH (n := 3) (As := [.ref (adC 0), .int v1, .ref qo]) (st := []) CT hN (h_La_variable_3 l CT.2.2.2 D cI cL cZ adC qo f h1) tbW_361 tb_359 tb_360 tbI_La (by decide +kernel) ⟨Nat.le_of_ble_eq_true rfl, Nat.le_of_ble_eq_true rfl⟩ ⟨hc1, hs1⟩ [0, 1, 2, 3, 4, 5, 6, 7, 8, 9, 10, 11, 12, 13, 14, 15, 16, 17, 18, 19, 20, 21, 22, 23, 24, 25, 26, 27, 28, 29, 30, 31, 32] [33, 34, 35, 36, 37, 38, 39, 40, 41, 42, 43, 44, 45, 46, 47, 48, 49, 50, 51, 52, 53, 54, 55, 56, 57, 58] (wL_h cI cL cZ qo f adC σ adM τ) (wL_hf cI cL cZ qo f adC σ adM τ) (by decide) (wL_m cI cL cZ qo f adC σ adM τ) (by decide) (by decide) rfl (Nat.le_of_ble_eq_true rfl) d_La_law_224 ?_
    refine gw_widen (cells' := cells + 1) (slots' := slots + 6) (Nat.add_le_add_left (by decide) _) (Nat.add_le_add_left (by decide) _) ?_
    refine gw_perm [26, 27, 28, 29, 30, 31, 32, 33, 34, 35, 36, 37, 38, 39, 40, 41, 42, 43, 44, 45, 46, 47, 48, 49, 50, 51, 52, 53, 54, 55, 56, 57, 58, 0, 1, 2, 3, 4, 5, 6, 7, 8, 9, 10, 11, 12, 13, 14, 15, 16, 17, 18, 19, 20, 21, 22, 23, 24, 25] (wL_ph cI cL cZ qo f adC σ' adM τ) (wL_phm cI cL cZ qo f adC σ' adM τ) (by decide) ?_
    refine gw_istore (lv' := [(5, .int 2), (0, .ref b), (1, .ref (adC 0)), (2, .ref (adM 0)), (3, .ref qo), (4, .int x4)]) C d_La_law_227 (by decide) rfl ?_
    refine gw_aload_n C d_La_law_229 rfl 3 rfl ?_
    refine gw_aload_n C d_La_law_230 rfl 1 rfl ?_
    refine gw_iload C d_La_law_231 5 rfl ?_
    refine gw_iconst (v := 1) C d_La_law_233 (by decide) ?_
    refine gw_iadd C d_La_law_234 ?_
    refine gw_sld (v := v1) C hX hbl hbA h_1 e_1 d_La_law_235 ?_
    refine gw_callVF (T := T_Mo) (N := 48) (n := 1) (q0 := 0) (As := [.int v1]) (st := []) C (c_Mo_variable l D cI cL cZ adM h2) tb_1036 tb_1033 tb_1034 tb_1035 tb_8 (by decide +kernel) ⟨Nat.le_of_ble_eq_true rfl, Nat.le_of_ble_eq_true rfl⟩ ⟨hc1, hs1⟩ rfl rfl [33, 34, 35, 36, 37, 38, 39, 40, 41, 42, 43, 44, 45, 46, 47, 48, 49, 50, 51, 52, 53, 54, 55, 56, 57, 58] [0, 1, 2, 3, 4, 5, 6, 7, 8, 9, 10, 11, 12, 13, 14, 15, 16, 17, 18, 19, 20, 21, 22, 23, 24, 25, 26, 27, 28, 29, 30, 31, 32] (wL_m cI cL cZ qo f adC σ' adM τ) (wL_mf cI cL cZ qo f adC σ' adM τ) (by decide) (wL_h cI cL cZ qo f adC σ' adM τ) (by decide) (by decide) rfl rfl rfl (Nat.le_of_ble_eq_true rfl) d_La_law_236 ?_
    refine gw_eq (ws' := (wL cI cL cZ qo f adC σ' adM τ')) rfl rfl ?_
    refine gw_istore (lv' := [(6, .int bv), (5, .int 2), (0, .ref b), (1, .ref (adC 0)), (2, .ref (adM 0)), (3, .ref qo), (4, .int x4)]) C d_La_law_239 (by decide) rfl ?_
    refine gw_aload_n C d_La_law_241 rfl 4 rfl ?_
    refine gw_callVF (T := T_Mo) (N := 48) (n := 0) (q0 := 0) (As := []) (st := []) C (c_Mo_thrown l D cI cL cZ adM h3) tb_1020 tb_1017 tb_1018 tb_1019 tb_8 (by decide +kernel) ⟨Nat.le_of_ble_eq_true rfl, Nat.le_of_ble_eq_true rfl⟩ ⟨hc1, hs1⟩ rfl rfl [33, 34, 35, 36, 37, 38, 39, 40, 41, 42, 43, 44, 45, 46, 47, 48, 49, 50, 51, 52, 53, 54, 55, 56, 57, 58] [0, 1, 2, 3, 4, 5, 6, 7, 8, 9, 10, 11, 12, 13, 14, 15, 16, 17, 18, 19, 20, 21, 22, 23, 24, 25, 26, 27, 28, 29, 30, 31, 32] (wL_m cI cL cZ qo f adC σ' adM τ') (wL_mf cI cL cZ qo f adC σ' adM τ') (by decide) (wL_h cI cL cZ qo f adC σ' adM τ') (by decide) (by decide) rfl rfl rfl (Nat.le_of_ble_eq_true rfl) d_La_law_242 ?_
    refine gw_eq (ws' := (wL cI cL cZ qo f adC σ' adM τ')) rfl rfl ?_
    refine gw_iload C d_La_law_245 1 rfl ?_
    refine gw_icmp_eq (tgt := 252) C d_La_law_247 (by decide) (fun _ => ?_) (fun h => absurd rfl h)
    refine gw_iload C d_La_law_252 1 rfl ?_
    refine gw_if_ne (tgt := 269) C d_La_law_254 (by decide) (fun _ => ?_) (fun h => absurd h (by decide))
    refine gw_goto (tgt := 1144) C d_La_law_269 (by decide) ?_
    refine gw_less [2, 3, 4, 5, 6] rfl ?_
    exact kk _ _ _ hrel'
set_option maxRecDepth 100000 in
set_option maxHeartbeats 4000000 in
theorem law_one {Rel : Nat → St → St → Prop} (S : LawSim Rel) {p : Program} {l : Launch} {e : Env} {s : State} {m : MethodId} {below : List Frame} {meth : Method} {c : Code} {D : va_G} {A : Nat → Prop} {Q : State → Prop} {cI cL cZ : ClassId} {b L : Nat} {xs : Nat → Int32} (CT : gw_CT l p s m #[Value.ref b] meth c code 7 R_La D gw_cl (gw_ty cI cL cZ) A) (hN : gw_Nc s) (hX : va_X b L xs s s.heap) (hbl : b < s.heap.size) (hbA : ¬ A b) {qo : Nat} {f : Nat → Int64} {adC adM : Nat → Nat} {σ τ : St} {n cells slots : Nat} (hn : n < 512) (hrel : Rel n σ τ) (hc1 : cells + 1 ≤ room_1.cells) (hs1 : slots + 6 ≤ room_1.slots) {x4 v1 v2 v3 : Int32} (h_1 : vp_in (x4 + 1) L) (h_2 : vp_in (x4 + 2) L) (h_3 : vp_in (x4 + 3) L) (e_1 : xs (x4 + 1).toNatClampNeg = v1) (e_2 : xs (x4 + 2).toNatClampNeg = v2) (e_3 : xs (x4 + 3).toNatClampNeg = v3)
    (kk : ∀ (f' : Nat → Int64) (σ' τ' : St), Rel (n + 1) σ' τ' → gw_W p l e room_1 s m #[Value.ref b] below meth c D gw_cl A Q (cells + 1) (slots + 6) 7 (wL cI cL cZ qo f' adC σ' adM τ') [(0, .ref b), (1, .ref (adC 0)), (2, .ref (adM 0)), (3, .ref qo), (4, .int x4)] 1144 []) : gw_W p l e room_1 s m #[Value.ref b] below meth c D gw_cl A Q cells slots 7 (wL cI cL cZ qo f adC σ adM τ) [(0, .ref b), (1, .ref (adC 0)), (2, .ref (adM 0)), (3, .ref qo), (4, .int x4)] 272 [] := by
  have C := CT.1
  refine gw_aload_n C d_La_law_272 rfl 1 rfl ?_
  refine gw_aload_n C d_La_law_273 rfl 0 rfl ?_
  refine gw_iload C d_La_law_274 4 rfl ?_
  refine gw_iconst (v := 1) C d_La_law_276 (by decide) ?_
  refine gw_iadd C d_La_law_277 ?_
  refine gw_sld (v := v1) C hX hbl hbA h_1 e_1 d_La_law_278 ?_
  refine gw_aload_n C d_La_law_279 rfl 0 rfl ?_
  refine gw_iload C d_La_law_280 4 rfl ?_
  refine gw_iconst (v := 2) C d_La_law_282 (by decide) ?_
  refine gw_iadd C d_La_law_283 ?_
  refine gw_sld (v := v2) C hX hbl hbA h_2 e_2 d_La_law_284 ?_
  refine gw_aload_n C d_La_law_285 rfl 3 rfl ?_
  obtain ⟨k, r, σ', bv, τ', th, h1, h2, h3, hrel', hcs⟩ := S.2.2.2.1 n σ τ v1 v2 hn hrel
  rcases hcs with ⟨rfl, rfl, rfl⟩ | ⟨rfl, rfl⟩ | ⟨rfl, rfl⟩ | ⟨rfl, rfl⟩
  · refine gw_callSH (n := 4) (As := [.ref (adC 0), .int v1, .int v2, .ref qo]) (st := []) CT hN (h_La_one_0 l CT.2.2.2 D cI cL cZ adC qo f h1) tbW_389 tb_387 tb_388 tbI_La (by decide +kernel) ⟨Nat.le_of_ble_eq_true rfl, Nat.le_of_ble_eq_true rfl⟩ ⟨hc1, hs1⟩ [0, 1, 2, 3, 4, 5, 6, 7, 8, 9, 10, 11, 12, 13, 14, 15, 16, 17, 18, 19, 20, 21, 22, 23, 24, 25, 26, 27, 28, 29, 30, 31, 32] [33, 34, 35, 36, 37, 38, 39, 40, 41, 42, 43, 44, 45, 46, 47, 48, 49, 50, 51, 52, 53, 54, 55, 56, 57, 58] (wL_h cI cL cZ qo f adC σ adM τ) (wL_hf cI cL cZ qo f adC σ adM τ) (by decide) (wL_m cI cL cZ qo f adC σ adM τ) (by decide) (by decide) rfl (Nat.le_of_ble_eq_true rfl) d_La_law_286 ?_
    refine gw_widen (cells' := cells + 1) (slots' := slots + 6) (Nat.add_le_add_left (by decide) _) (Nat.add_le_add_left (by decide) _) ?_
    refine gw_perm [26, 27, 28, 29, 30, 31, 32, 33, 34, 35, 36, 37, 38, 39, 40, 41, 42, 43, 44, 45, 46, 47, 48, 49, 50, 51, 52, 53, 54, 55, 56, 57, 58, 0, 1, 2, 3, 4, 5, 6, 7, 8, 9, 10, 11, 12, 13, 14, 15, 16, 17, 18, 19, 20, 21, 22, 23, 24, 25] (wL_ph cI cL cZ qo (vp_updL f (0 : Int32).toNatClampNeg r.toInt64) adC σ' adM τ) (wL_phm cI cL cZ qo (vp_updL f (0 : Int32).toNatClampNeg r.toInt64) adC σ' adM τ) (by decide) ?_
    refine gw_istore (lv' := [(5, .int 0), (0, .ref b), (1, .ref (adC 0)), (2, .ref (adM 0)), (3, .ref qo), (4, .int x4)]) C d_La_law_289 (by decide) rfl ?_
    refine gw_aload_n C d_La_law_291 rfl 3 rfl ?_
    refine gw_aload_n C d_La_law_292 rfl 1 rfl ?_
    refine gw_iload C d_La_law_293 5 rfl ?_
    refine gw_iconst (v := 1) C d_La_law_295 (by decide) ?_
    refine gw_iadd C d_La_law_296 ?_
    refine gw_sld (v := v1) C hX hbl hbA h_1 e_1 d_La_law_297 ?_
    refine gw_aload_n C d_La_law_298 rfl 1 rfl ?_
    refine gw_iload C d_La_law_299 5 rfl ?_
    refine gw_iconst (v := 2) C d_La_law_301 (by decide) ?_
    refine gw_iadd C d_La_law_302 ?_
    refine gw_sld (v := v2) C hX hbl hbA h_2 e_2 d_La_law_303 ?_
    refine gw_callVF (T := T_Mo) (N := 48) (n := 2) (q0 := 0) (As := [.int v1, .int v2]) (st := []) C (c_Mo_one l D cI cL cZ adM h2) tb_1040 tb_1037 tb_1038 tb_1039 tb_8 (by decide +kernel) ⟨Nat.le_of_ble_eq_true rfl, Nat.le_of_ble_eq_true rfl⟩ ⟨hc1, hs1⟩ rfl rfl [33, 34, 35, 36, 37, 38, 39, 40, 41, 42, 43, 44, 45, 46, 47, 48, 49, 50, 51, 52, 53, 54, 55, 56, 57, 58] [0, 1, 2, 3, 4, 5, 6, 7, 8, 9, 10, 11, 12, 13, 14, 15, 16, 17, 18, 19, 20, 21, 22, 23, 24, 25, 26, 27, 28, 29, 30, 31, 32] (wL_m cI cL cZ qo (vp_updL f (0 : Int32).toNatClampNeg r.toInt64) adC σ' adM τ) (wL_mf cI cL cZ qo (vp_updL f (0 : Int32).toNatClampNeg r.toInt64) adC σ' adM τ) (by decide) (wL_h cI cL cZ qo (vp_updL f (0 : Int32).toNatClampNeg r.toInt64) adC σ' adM τ) (by decide) (by decide) rfl rfl rfl (Nat.le_of_ble_eq_true rfl) d_La_law_304 ?_
    refine gw_eq (ws' := (wL cI cL cZ qo (vp_updL f (0 : Int32).toNatClampNeg r.toInt64) adC σ' adM τ')) rfl rfl ?_
    refine gw_istore (lv' := [(6, .int r), (5, .int 0), (0, .ref b), (1, .ref (adC 0)), (2, .ref (adM 0)), (3, .ref qo), (4, .int x4)]) C d_La_law_307 (by decide) rfl ?_
    refine gw_aload_n C d_La_law_309 rfl 4 rfl ?_
    refine gw_callVF (T := T_Mo) (N := 48) (n := 0) (q0 := 0) (As := []) (st := []) C (c_Mo_thrown l D cI cL cZ adM h3) tb_1020 tb_1017 tb_1018 tb_1019 tb_8 (by decide +kernel) ⟨Nat.le_of_ble_eq_true rfl, Nat.le_of_ble_eq_true rfl⟩ ⟨hc1, hs1⟩ rfl rfl [33, 34, 35, 36, 37, 38, 39, 40, 41, 42, 43, 44, 45, 46, 47, 48, 49, 50, 51, 52, 53, 54, 55, 56, 57, 58] [0, 1, 2, 3, 4, 5, 6, 7, 8, 9, 10, 11, 12, 13, 14, 15, 16, 17, 18, 19, 20, 21, 22, 23, 24, 25, 26, 27, 28, 29, 30, 31, 32] (wL_m cI cL cZ qo (vp_updL f (0 : Int32).toNatClampNeg r.toInt64) adC σ' adM τ') (wL_mf cI cL cZ qo (vp_updL f (0 : Int32).toNatClampNeg r.toInt64) adC σ' adM τ') (by decide) (wL_h cI cL cZ qo (vp_updL f (0 : Int32).toNatClampNeg r.toInt64) adC σ' adM τ') (by decide) (by decide) rfl rfl rfl (Nat.le_of_ble_eq_true rfl) d_La_law_310 ?_
    refine gw_eq (ws' := (wL cI cL cZ qo (vp_updL f (0 : Int32).toNatClampNeg r.toInt64) adC σ' adM τ')) rfl rfl ?_
    refine gw_iload C d_La_law_313 1 rfl ?_
    refine gw_icmp_eq (tgt := 320) C d_La_law_315 (by decide) (fun _ => ?_) (fun h => absurd rfl h)
    refine gw_iload C d_La_law_320 1 rfl ?_
    refine gw_if_ne (tgt := 337) C d_La_law_322 (by decide) (fun h => absurd rfl h) (fun _ => ?_)
    refine gw_aload_n C d_La_law_325 rfl 5 rfl ?_
    refine gw_iconst (v := 0) C d_La_law_326 (by decide) ?_
    refine gw_lald C 0 1 rfl rfl (vp_in_nI (n := 0) (N := 1) (by decide) (by decide)) d_La_law_327 ?_
    refine gw_iload C d_La_law_328 0 rfl ?_
    refine gw_i2l C d_La_law_330 ?_
    refine gw_lcmp C d_La_law_331 ?_
    refine gw_if_eq (tgt := 337) C d_La_law_332 (by decide) (fun _ => ?_) (fun h => absurd (gw_lc _ _ _) h)
    refine gw_goto (tgt := 1144) C d_La_law_337 (by decide) ?_
    refine gw_less [2, 3, 4, 5, 6] rfl ?_
    exact kk _ _ _ hrel'
  · refine gw_callSH (n := 4) (As := [.ref (adC 0), .int v1, .int v2, .ref qo]) (st := []) CT hN (h_La_one_1 l CT.2.2.2 D cI cL cZ adC qo f h1) tbW_389 tb_387 tb_388 tbI_La (by decide +kernel) ⟨Nat.le_of_ble_eq_true rfl, Nat.le_of_ble_eq_true rfl⟩ ⟨hc1, hs1⟩ [0, 1, 2, 3, 4, 5, 6, 7, 8, 9, 10, 11, 12, 13, 14, 15, 16, 17, 18, 19, 20, 21, 22, 23, 24, 25, 26, 27, 28, 29, 30, 31, 32] [33, 34, 35, 36, 37, 38, 39, 40, 41, 42, 43, 44, 45, 46, 47, 48, 49, 50, 51, 52, 53, 54, 55, 56, 57, 58] (wL_h cI cL cZ qo f adC σ adM τ) (wL_hf cI cL cZ qo f adC σ adM τ) (by decide) (wL_m cI cL cZ qo f adC σ adM τ) (by decide) (by decide) rfl (Nat.le_of_ble_eq_true rfl) d_La_law_286 ?_
    refine gw_widen (cells' := cells + 1) (slots' := slots + 6) (Nat.add_le_add_left (by decide) _) (Nat.add_le_add_left (by decide) _) ?_
    refine gw_perm [26, 27, 28, 29, 30, 31, 32, 33, 34, 35, 36, 37, 38, 39, 40, 41, 42, 43, 44, 45, 46, 47, 48, 49, 50, 51, 52, 53, 54, 55, 56, 57, 58, 0, 1, 2, 3, 4, 5, 6, 7, 8, 9, 10, 11, 12, 13, 14, 15, 16, 17, 18, 19, 20, 21, 22, 23, 24, 25] (wL_ph cI cL cZ qo f adC σ' adM τ) (wL_phm cI cL cZ qo f adC σ' adM τ) (by decide) ?_
    refine gw_istore (lv' := [(5, .int 1), (0, .ref b), (1, .ref (adC 0)), (2, .ref (adM 0)), (3, .ref qo), (4, .int x4)]) C d_La_law_289 (by decide) rfl ?_
    refine gw_aload_n C d_La_law_291 rfl 3 rfl ?_
    refine gw_aload_n C d_La_law_292 rfl 1 rfl ?_
    refine gw_iload C d_La_law_293 5 rfl ?_
    refine gw_iconst (v := 1) C d_La_law_295 (by decide) ?_
    refine gw_iadd C d_La_law_296 ?_
    refine gw_sld (v := v1) C hX hbl hbA h_1 e_1 d_La_law_297 ?_
    refine gw_aload_n C d_La_law_298 rfl 1 rfl ?_
    refine gw_iload C d_La_law_299 5 rfl ?_
    refine gw_iconst (v := 2) C d_La_law_301 (by decide) ?_
    refine gw_iadd C d_La_law_302 ?_
    refine gw_sld (v := v2) C hX hbl hbA h_2 e_2 d_La_law_303 ?_
    refine gw_callVF (T := T_Mo) (N := 48) (n := 2) (q0 := 0) (As := [.int v1, .int v2]) (st := []) C (c_Mo_one l D cI cL cZ adM h2) tb_1040 tb_1037 tb_1038 tb_1039 tb_8 (by decide +kernel) ⟨Nat.le_of_ble_eq_true rfl, Nat.le_of_ble_eq_true rfl⟩ ⟨hc1, hs1⟩ rfl rfl [33, 34, 35, 36, 37, 38, 39, 40, 41, 42, 43, 44, 45, 46, 47, 48, 49, 50, 51, 52, 53, 54, 55, 56, 57, 58] [0, 1, 2, 3, 4, 5, 6, 7, 8, 9, 10, 11, 12, 13, 14, 15, 16, 17, 18, 19, 20, 21, 22, 23, 24, 25, 26, 27, 28, 29, 30, 31, 32] (wL_m cI cL cZ qo f adC σ' adM τ) (wL_mf cI cL cZ qo f adC σ' adM τ) (by decide) (wL_h cI cL cZ qo f adC σ' adM τ) (by decide) (by decide) rfl rfl rfl (Nat.le_of_ble_eq_true rfl) d_La_law_304 ?_
    refine gw_eq (ws' := (wL cI cL cZ qo f adC σ' adM τ')) rfl rfl ?_
    refine gw_istore (lv' := [(6, .int bv), (5, .int 1), (0, .ref b), (1, .ref (adC 0)), (2, .ref (adM 0)), (3, .ref qo), (4, .int x4)]) C d_La_law_307 (by decide) rfl ?_
    refine gw_aload_n C d_La_law_309 rfl 4 rfl ?_
    refine gw_callVF (T := T_Mo) (N := 48) (n := 0) (q0 := 0) (As := []) (st := []) C (c_Mo_thrown l D cI cL cZ adM h3) tb_1020 tb_1017 tb_1018 tb_1019 tb_8 (by decide +kernel) ⟨Nat.le_of_ble_eq_true rfl, Nat.le_of_ble_eq_true rfl⟩ ⟨hc1, hs1⟩ rfl rfl [33, 34, 35, 36, 37, 38, 39, 40, 41, 42, 43, 44, 45, 46, 47, 48, 49, 50, 51, 52, 53, 54, 55, 56, 57, 58] [0, 1, 2, 3, 4, 5, 6, 7, 8, 9, 10, 11, 12, 13, 14, 15, 16, 17, 18, 19, 20, 21, 22, 23, 24, 25, 26, 27, 28, 29, 30, 31, 32] (wL_m cI cL cZ qo f adC σ' adM τ') (wL_mf cI cL cZ qo f adC σ' adM τ') (by decide) (wL_h cI cL cZ qo f adC σ' adM τ') (by decide) (by decide) rfl rfl rfl (Nat.le_of_ble_eq_true rfl) d_La_law_310 ?_
    refine gw_eq (ws' := (wL cI cL cZ qo f adC σ' adM τ')) rfl rfl ?_
    refine gw_iload C d_La_law_313 1 rfl ?_
    refine gw_icmp_eq (tgt := 320) C d_La_law_315 (by decide) (fun _ => ?_) (fun h => absurd rfl h)
    refine gw_iload C d_La_law_320 1 rfl ?_
    refine gw_if_ne (tgt := 337) C d_La_law_322 (by decide) (fun _ => ?_) (fun h => absurd h (by decide))
    refine gw_goto (tgt := 1144) C d_La_law_337 (by decide) ?_
    refine gw_less [2, 3, 4, 5, 6] rfl ?_
    exact kk _ _ _ hrel'
  · refine gw_callSH (n := 4) (As := [.ref (adC 0), .int v1, .int v2, .ref qo]) (st := []) CT hN (h_La_one_2 l CT.2.2.2 D cI cL cZ adC qo f h1) tbW_389 tb_387 tb_388 tbI_La (by decide +kernel) ⟨Nat.le_of_ble_eq_true rfl, Nat.le_of_ble_eq_true rfl⟩ ⟨hc1, hs1⟩ [0, 1, 2, 3, 4, 5, 6, 7, 8, 9, 10, 11, 12, 13, 14, 15, 16, 17, 18, 19, 20, 21, 22, 23, 24, 25, 26, 27, 28, 29, 30, 31, 32] [33, 34, 35, 36, 37, 38, 39, 40, 41, 42, 43, 44, 45, 46, 47, 48, 49, 50, 51, 52, 53, 54, 55, 56, 57, 58] (wL_h cI cL cZ qo f adC σ adM τ) (wL_hf cI cL cZ qo f adC σ adM τ) (by decide) (wL_m cI cL cZ qo f adC σ adM τ) (by decide) (by decide) rfl (Nat.le_of_ble_eq_true rfl) d_La_law_286 ?_
    refine gw_widen (cells' := cells + 1) (slots' := slots + 6) (Nat.add_le_add_left (by decide) _) (Nat.add_le_add_left (by decide) _) ?_
    refine gw_perm [26, 27, 28, 29, 30, 31, 32, 33, 34, 35, 36, 37, 38, 39, 40, 41, 42, 43, 44, 45, 46, 47, 48, 49, 50, 51, 52, 53, 54, 55, 56, 57, 58, 0, 1, 2, 3, 4, 5, 6, 7, 8, 9, 10, 11, 12, 13, 14, 15, 16, 17, 18, 19, 20, 21, 22, 23, 24, 25] (wL_ph cI cL cZ qo f adC σ' adM τ) (wL_phm cI cL cZ qo f adC σ' adM τ) (by decide) ?_
    refine gw_istore (lv' := [(5, .int 2), (0, .ref b), (1, .ref (adC 0)), (2, .ref (adM 0)), (3, .ref qo), (4, .int x4)]) C d_La_law_289 (by decide) rfl ?_
    refine gw_aload_n C d_La_law_291 rfl 3 rfl ?_
    refine gw_aload_n C d_La_law_292 rfl 1 rfl ?_
    refine gw_iload C d_La_law_293 5 rfl ?_
    refine gw_iconst (v := 1) C d_La_law_295 (by decide) ?_
    refine gw_iadd C d_La_law_296 ?_
    refine gw_sld (v := v1) C hX hbl hbA h_1 e_1 d_La_law_297 ?_
    refine gw_aload_n C d_La_law_298 rfl 1 rfl ?_
    refine gw_iload C d_La_law_299 5 rfl ?_
    refine gw_iconst (v := 2) C d_La_law_301 (by decide) ?_
    refine gw_iadd C d_La_law_302 ?_
    refine gw_sld (v := v2) C hX hbl hbA h_2 e_2 d_La_law_303 ?_
    refine gw_callVF (T := T_Mo) (N := 48) (n := 2) (q0 := 0) (As := [.int v1, .int v2]) (st := []) C (c_Mo_one l D cI cL cZ adM h2) tb_1040 tb_1037 tb_1038 tb_1039 tb_8 (by decide +kernel) ⟨Nat.le_of_ble_eq_true rfl, Nat.le_of_ble_eq_true rfl⟩ ⟨hc1, hs1⟩ rfl rfl [33, 34, 35, 36, 37, 38, 39, 40, 41, 42, 43, 44, 45, 46, 47, 48, 49, 50, 51, 52, 53, 54, 55, 56, 57, 58] [0, 1, 2, 3, 4, 5, 6, 7, 8, 9, 10, 11, 12, 13, 14, 15, 16, 17, 18, 19, 20, 21, 22, 23, 24, 25, 26, 27, 28, 29, 30, 31, 32] (wL_m cI cL cZ qo f adC σ' adM τ) (wL_mf cI cL cZ qo f adC σ' adM τ) (by decide) (wL_h cI cL cZ qo f adC σ' adM τ) (by decide) (by decide) rfl rfl rfl (Nat.le_of_ble_eq_true rfl) d_La_law_304 ?_
    refine gw_eq (ws' := (wL cI cL cZ qo f adC σ' adM τ')) rfl rfl ?_
    refine gw_istore (lv' := [(6, .int bv), (5, .int 2), (0, .ref b), (1, .ref (adC 0)), (2, .ref (adM 0)), (3, .ref qo), (4, .int x4)]) C d_La_law_307 (by decide) rfl ?_
    refine gw_aload_n C d_La_law_309 rfl 4 rfl ?_
    refine gw_callVF (T := T_Mo) (N := 48) (n := 0) (q0 := 0) (As := []) (st := []) C (c_Mo_thrown l D cI cL cZ adM h3) tb_1020 tb_1017 tb_1018 tb_1019 tb_8 (by decide +kernel) ⟨Nat.le_of_ble_eq_true rfl, Nat.le_of_ble_eq_true rfl⟩ ⟨hc1, hs1⟩ rfl rfl [33, 34, 35, 36, 37, 38, 39, 40, 41, 42, 43, 44, 45, 46, 47, 48, 49, 50, 51, 52, 53, 54, 55, 56, 57, 58] [0, 1, 2, 3, 4, 5, 6, 7, 8, 9, 10, 11, 12, 13, 14, 15, 16, 17, 18, 19, 20, 21, 22, 23, 24, 25, 26, 27, 28, 29, 30, 31, 32] (wL_m cI cL cZ qo f adC σ' adM τ') (wL_mf cI cL cZ qo f adC σ' adM τ') (by decide) (wL_h cI cL cZ qo f adC σ' adM τ') (by decide) (by decide) rfl rfl rfl (Nat.le_of_ble_eq_true rfl) d_La_law_310 ?_
    refine gw_eq (ws' := (wL cI cL cZ qo f adC σ' adM τ')) rfl rfl ?_
    refine gw_iload C d_La_law_313 1 rfl ?_
    refine gw_icmp_eq (tgt := 320) C d_La_law_315 (by decide) (fun _ => ?_) (fun h => absurd rfl h)
    refine gw_iload C d_La_law_320 1 rfl ?_
    refine gw_if_ne (tgt := 337) C d_La_law_322 (by decide) (fun _ => ?_) (fun h => absurd h (by decide))
    refine gw_goto (tgt := 1144) C d_La_law_337 (by decide) ?_
    refine gw_less [2, 3, 4, 5, 6] rfl ?_
    exact kk _ _ _ hrel'
  · refine gw_callSH (n := 4) (As := [.ref (adC 0), .int v1, .int v2, .ref qo]) (st := []) CT hN (h_La_one_3 l CT.2.2.2 D cI cL cZ adC qo f h1) tbW_389 tb_387 tb_388 tbI_La (by decide +kernel) ⟨Nat.le_of_ble_eq_true rfl, Nat.le_of_ble_eq_true rfl⟩ ⟨hc1, hs1⟩ [0, 1, 2, 3, 4, 5, 6, 7, 8, 9, 10, 11, 12, 13, 14, 15, 16, 17, 18, 19, 20, 21, 22, 23, 24, 25, 26, 27, 28, 29, 30, 31, 32] [33, 34, 35, 36, 37, 38, 39, 40, 41, 42, 43, 44, 45, 46, 47, 48, 49, 50, 51, 52, 53, 54, 55, 56, 57, 58] (wL_h cI cL cZ qo f adC σ adM τ) (wL_hf cI cL cZ qo f adC σ adM τ) (by decide) (wL_m cI cL cZ qo f adC σ adM τ) (by decide) (by decide) rfl (Nat.le_of_ble_eq_true rfl) d_La_law_286 ?_
    refine gw_widen (cells' := cells + 1) (slots' := slots + 6) (Nat.add_le_add_left (by decide) _) (Nat.add_le_add_left (by decide) _) ?_
    refine gw_perm [26, 27, 28, 29, 30, 31, 32, 33, 34, 35, 36, 37, 38, 39, 40, 41, 42, 43, 44, 45, 46, 47, 48, 49, 50, 51, 52, 53, 54, 55, 56, 57, 58, 0, 1, 2, 3, 4, 5, 6, 7, 8, 9, 10, 11, 12, 13, 14, 15, 16, 17, 18, 19, 20, 21, 22, 23, 24, 25] (wL_ph cI cL cZ qo f adC σ' adM τ) (wL_phm cI cL cZ qo f adC σ' adM τ) (by decide) ?_
    refine gw_istore (lv' := [(5, .int 3), (0, .ref b), (1, .ref (adC 0)), (2, .ref (adM 0)), (3, .ref qo), (4, .int x4)]) C d_La_law_289 (by decide) rfl ?_
    refine gw_aload_n C d_La_law_291 rfl 3 rfl ?_
    refine gw_aload_n C d_La_law_292 rfl 1 rfl ?_
    refine gw_iload C d_La_law_293 5 rfl ?_
    refine gw_iconst (v := 1) C d_La_law_295 (by decide) ?_
    refine gw_iadd C d_La_law_296 ?_
    refine gw_sld (v := v1) C hX hbl hbA h_1 e_1 d_La_law_297 ?_
    refine gw_aload_n C d_La_law_298 rfl 1 rfl ?_
    refine gw_iload C d_La_law_299 5 rfl ?_
    refine gw_iconst (v := 2) C d_La_law_301 (by decide) ?_
    refine gw_iadd C d_La_law_302 ?_
    refine gw_sld (v := v2) C hX hbl hbA h_2 e_2 d_La_law_303 ?_
    refine gw_callVF (T := T_Mo) (N := 48) (n := 2) (q0 := 0) (As := [.int v1, .int v2]) (st := []) C (c_Mo_one l D cI cL cZ adM h2) tb_1040 tb_1037 tb_1038 tb_1039 tb_8 (by decide +kernel) ⟨Nat.le_of_ble_eq_true rfl, Nat.le_of_ble_eq_true rfl⟩ ⟨hc1, hs1⟩ rfl rfl [33, 34, 35, 36, 37, 38, 39, 40, 41, 42, 43, 44, 45, 46, 47, 48, 49, 50, 51, 52, 53, 54, 55, 56, 57, 58] [0, 1, 2, 3, 4, 5, 6, 7, 8, 9, 10, 11, 12, 13, 14, 15, 16, 17, 18, 19, 20, 21, 22, 23, 24, 25, 26, 27, 28, 29, 30, 31, 32] (wL_m cI cL cZ qo f adC σ' adM τ) (wL_mf cI cL cZ qo f adC σ' adM τ) (by decide) (wL_h cI cL cZ qo f adC σ' adM τ) (by decide) (by decide) rfl rfl rfl (Nat.le_of_ble_eq_true rfl) d_La_law_304 ?_
    refine gw_eq (ws' := (wL cI cL cZ qo f adC σ' adM τ')) rfl rfl ?_
    refine gw_istore (lv' := [(6, .int bv), (5, .int 3), (0, .ref b), (1, .ref (adC 0)), (2, .ref (adM 0)), (3, .ref qo), (4, .int x4)]) C d_La_law_307 (by decide) rfl ?_
    refine gw_aload_n C d_La_law_309 rfl 4 rfl ?_
    refine gw_callVF (T := T_Mo) (N := 48) (n := 0) (q0 := 0) (As := []) (st := []) C (c_Mo_thrown l D cI cL cZ adM h3) tb_1020 tb_1017 tb_1018 tb_1019 tb_8 (by decide +kernel) ⟨Nat.le_of_ble_eq_true rfl, Nat.le_of_ble_eq_true rfl⟩ ⟨hc1, hs1⟩ rfl rfl [33, 34, 35, 36, 37, 38, 39, 40, 41, 42, 43, 44, 45, 46, 47, 48, 49, 50, 51, 52, 53, 54, 55, 56, 57, 58] [0, 1, 2, 3, 4, 5, 6, 7, 8, 9, 10, 11, 12, 13, 14, 15, 16, 17, 18, 19, 20, 21, 22, 23, 24, 25, 26, 27, 28, 29, 30, 31, 32] (wL_m cI cL cZ qo f adC σ' adM τ') (wL_mf cI cL cZ qo f adC σ' adM τ') (by decide) (wL_h cI cL cZ qo f adC σ' adM τ') (by decide) (by decide) rfl rfl rfl (Nat.le_of_ble_eq_true rfl) d_La_law_310 ?_
    refine gw_eq (ws' := (wL cI cL cZ qo f adC σ' adM τ')) rfl rfl ?_
    refine gw_iload C d_La_law_313 1 rfl ?_
    refine gw_icmp_eq (tgt := 320) C d_La_law_315 (by decide) (fun _ => ?_) (fun h => absurd rfl h)
    refine gw_iload C d_La_law_320 1 rfl ?_
    refine gw_if_ne (tgt := 337) C d_La_law_322 (by decide) (fun _ => ?_) (fun h => absurd h (by decide))
    refine gw_goto (tgt := 1144) C d_La_law_337 (by decide) ?_
    refine gw_less [2, 3, 4, 5, 6] rfl ?_
    exact kk _ _ _ hrel'
set_option maxRecDepth 100000 in
set_option maxHeartbeats 4000000 in
theorem law_two {Rel : Nat → St → St → Prop} (S : LawSim Rel) {p : Program} {l : Launch} {e : Env} {s : State} {m : MethodId} {below : List Frame} {meth : Method} {c : Code} {D : va_G} {A : Nat → Prop} {Q : State → Prop} {cI cL cZ : ClassId} {b L : Nat} {xs : Nat → Int32} (CT : gw_CT l p s m #[Value.ref b] meth c code 7 R_La D gw_cl (gw_ty cI cL cZ) A) (hN : gw_Nc s) (hX : va_X b L xs s s.heap) (hbl : b < s.heap.size) (hbA : ¬ A b) {qo : Nat} {f : Nat → Int64} {adC adM : Nat → Nat} {σ τ : St} {n cells slots : Nat} (hn : n < 512) (hrel : Rel n σ τ) (hc1 : cells + 1 ≤ room_1.cells) (hs1 : slots + 6 ≤ room_1.slots) {x4 v1 v2 v3 : Int32} (h_1 : vp_in (x4 + 1) L) (h_2 : vp_in (x4 + 2) L) (h_3 : vp_in (x4 + 3) L) (e_1 : xs (x4 + 1).toNatClampNeg = v1) (e_2 : xs (x4 + 2).toNatClampNeg = v2) (e_3 : xs (x4 + 3).toNatClampNeg = v3)
    (kk : ∀ (f' : Nat → Int64) (σ' τ' : St), Rel (n + 1) σ' τ' → gw_W p l e room_1 s m #[Value.ref b] below meth c D gw_cl A Q (cells + 1) (slots + 6) 7 (wL cI cL cZ qo f' adC σ' adM τ') [(0, .ref b), (1, .ref (adC 0)), (2, .ref (adM 0)), (3, .ref qo), (4, .int x4)] 1144 []) : gw_W p l e room_1 s m #[Value.ref b] below meth c D gw_cl A Q cells slots 7 (wL cI cL cZ qo f adC σ adM τ) [(0, .ref b), (1, .ref (adC 0)), (2, .ref (adM 0)), (3, .ref qo), (4, .int x4)] 340 [] := by
  have C := CT.1
  refine gw_aload_n C d_La_law_340 rfl 1 rfl ?_
  refine gw_aload_n C d_La_law_341 rfl 0 rfl ?_
  refine gw_iload C d_La_law_342 4 rfl ?_
  refine gw_iconst (v := 1) C d_La_law_344 (by decide) ?_
  refine gw_iadd C d_La_law_345 ?_
  refine gw_sld (v := v1) C hX hbl hbA h_1 e_1 d_La_law_346 ?_
  refine gw_aload_n C d_La_law_347 rfl 0 rfl ?_
  refine gw_iload C d_La_law_348 4 rfl ?_
  refine gw_iconst (v := 2) C d_La_law_350 (by decide) ?_
  refine gw_iadd C d_La_law_351 ?_
  refine gw_sld (v := v2) C hX hbl hbA h_2 e_2 d_La_law_352 ?_
  refine gw_aload_n C d_La_law_353 rfl 0 rfl ?_
  refine gw_iload C d_La_law_354 4 rfl ?_
  refine gw_iconst (v := 3) C d_La_law_356 (by decide) ?_
  refine gw_iadd C d_La_law_357 ?_
  refine gw_sld (v := v3) C hX hbl hbA h_3 e_3 d_La_law_358 ?_
  refine gw_aload_n C d_La_law_359 rfl 3 rfl ?_
  obtain ⟨k, r, σ', bv, τ', th, h1, h2, h3, hrel', hcs⟩ := S.2.2.2.2.1 n σ τ v1 v2 v3 hn hrel
  rcases hcs with ⟨rfl, rfl, rfl⟩ | ⟨rfl, rfl⟩ | ⟨rfl, rfl⟩ | ⟨rfl, rfl⟩
  · refine gw_callSH (n := 5) (As := [.ref (adC 0), .int v1, .int v2, .int v3, .ref qo]) (st := []) CT hN (h_La_two_0 l CT.2.2.2 D cI cL cZ adC qo f h1) tbW_437 tb_435 tb_436 tbI_La (by decide +kernel) ⟨Nat.le_of_ble_eq_true rfl, Nat.le_of_ble_eq_true rfl⟩ ⟨hc1, hs1⟩ [0, 1, 2, 3, 4, 5, 6, 7, 8, 9, 10, 11, 12, 13, 14, 15, 16, 17, 18, 19, 20, 21, 22, 23, 24, 25, 26, 27, 28, 29, 30, 31, 32] [33, 34, 35, 36, 37, 38, 39, 40, 41, 42, 43, 44, 45, 46, 47, 48, 49, 50, 51, 52, 53, 54, 55, 56, 57, 58] (wL_h cI cL cZ qo f adC σ adM τ) (wL_hf cI cL cZ qo f adC σ adM τ) (by decide) (wL_m cI cL cZ qo f adC σ adM τ) (by decide) (by decide) rfl (Nat.le_of_ble_eq_true rfl) d_La_law_360 ?_
    refine gw_widen (cells' := cells + 1) (slots' := slots + 6) (Nat.add_le_add_left (by decide) _) (Nat.add_le_add_left (by decide) _) ?_
    refine gw_perm [26, 27, 28, 29, 30, 31, 32, 33, 34, 35, 36, 37, 38, 39, 40, 41, 42, 43, 44, 45, 46, 47, 48, 49, 50, 51, 52, 53, 54, 55, 56, 57, 58, 0, 1, 2, 3, 4, 5, 6, 7, 8, 9, 10, 11, 12, 13, 14, 15, 16, 17, 18, 19, 20, 21, 22, 23, 24, 25] (wL_ph cI cL cZ qo (vp_updL f (0 : Int32).toNatClampNeg r.toInt64) adC σ' adM τ) (wL_phm cI cL cZ qo (vp_updL f (0 : Int32).toNatClampNeg r.toInt64) adC σ' adM τ) (by decide) ?_
    refine gw_istore (lv' := [(5, .int 0), (0, .ref b), (1, .ref (adC 0)), (2, .ref (adM 0)), (3, .ref qo), (4, .int x4)]) C d_La_law_363 (by decide) rfl ?_
    refine gw_aload_n C d_La_law_365 rfl 3 rfl ?_
    refine gw_aload_n C d_La_law_366 rfl 1 rfl ?_
    refine gw_iload C d_La_law_367 5 rfl ?_
    refine gw_iconst (v := 1) C d_La_law_369 (by decide) ?_
    refine gw_iadd C d_La_law_370 ?_
    refine gw_sld (v := v1) C hX hbl hbA h_1 e_1 d_La_law_371 ?_
    refine gw_aload_n C d_La_law_372 rfl 1 rfl ?_
    refine gw_iload C d_La_law_373 5 rfl ?_
    refine gw_iconst (v := 2) C d_La_law_375 (by decide) ?_
    refine gw_iadd C d_La_law_376 ?_
    refine gw_sld (v := v2) C hX hbl hbA h_2 e_2 d_La_law_377 ?_
    refine gw_aload_n C d_La_law_378 rfl 1 rfl ?_
    refine gw_iload C d_La_law_379 5 rfl ?_
    refine gw_iconst (v := 3) C d_La_law_381 (by decide) ?_
    refine gw_iadd C d_La_law_382 ?_
    refine gw_sld (v := v3) C hX hbl hbA h_3 e_3 d_La_law_383 ?_
    refine gw_callVF (T := T_Mo) (N := 48) (n := 3) (q0 := 0) (As := [.int v1, .int v2, .int v3]) (st := []) C (c_Mo_two l D cI cL cZ adM h2) tb_1051 tb_1048 tb_1049 tb_1050 tb_8 (by decide +kernel) ⟨Nat.le_of_ble_eq_true rfl, Nat.le_of_ble_eq_true rfl⟩ ⟨hc1, hs1⟩ rfl rfl [33, 34, 35, 36, 37, 38, 39, 40, 41, 42, 43, 44, 45, 46, 47, 48, 49, 50, 51, 52, 53, 54, 55, 56, 57, 58] [0, 1, 2, 3, 4, 5, 6, 7, 8, 9, 10, 11, 12, 13, 14, 15, 16, 17, 18, 19, 20, 21, 22, 23, 24, 25, 26, 27, 28, 29, 30, 31, 32] (wL_m cI cL cZ qo (vp_updL f (0 : Int32).toNatClampNeg r.toInt64) adC σ' adM τ) (wL_mf cI cL cZ qo (vp_updL f (0 : Int32).toNatClampNeg r.toInt64) adC σ' adM τ) (by decide) (wL_h cI cL cZ qo (vp_updL f (0 : Int32).toNatClampNeg r.toInt64) adC σ' adM τ) (by decide) (by decide) rfl rfl rfl (Nat.le_of_ble_eq_true rfl) d_La_law_384 ?_
    refine gw_eq (ws' := (wL cI cL cZ qo (vp_updL f (0 : Int32).toNatClampNeg r.toInt64) adC σ' adM τ')) rfl rfl ?_
    refine gw_istore (lv' := [(6, .int r), (5, .int 0), (0, .ref b), (1, .ref (adC 0)), (2, .ref (adM 0)), (3, .ref qo), (4, .int x4)]) C d_La_law_387 (by decide) rfl ?_
    refine gw_aload_n C d_La_law_389 rfl 4 rfl ?_
    refine gw_callVF (T := T_Mo) (N := 48) (n := 0) (q0 := 0) (As := []) (st := []) C (c_Mo_thrown l D cI cL cZ adM h3) tb_1020 tb_1017 tb_1018 tb_1019 tb_8 (by decide +kernel) ⟨Nat.le_of_ble_eq_true rfl, Nat.le_of_ble_eq_true rfl⟩ ⟨hc1, hs1⟩ rfl rfl [33, 34, 35, 36, 37, 38, 39, 40, 41, 42, 43, 44, 45, 46, 47, 48, 49, 50, 51, 52, 53, 54, 55, 56, 57, 58] [0, 1, 2, 3, 4, 5, 6, 7, 8, 9, 10, 11, 12, 13, 14, 15, 16, 17, 18, 19, 20, 21, 22, 23, 24, 25, 26, 27, 28, 29, 30, 31, 32] (wL_m cI cL cZ qo (vp_updL f (0 : Int32).toNatClampNeg r.toInt64) adC σ' adM τ') (wL_mf cI cL cZ qo (vp_updL f (0 : Int32).toNatClampNeg r.toInt64) adC σ' adM τ') (by decide) (wL_h cI cL cZ qo (vp_updL f (0 : Int32).toNatClampNeg r.toInt64) adC σ' adM τ') (by decide) (by decide) rfl rfl rfl (Nat.le_of_ble_eq_true rfl) d_La_law_390 ?_
    refine gw_eq (ws' := (wL cI cL cZ qo (vp_updL f (0 : Int32).toNatClampNeg r.toInt64) adC σ' adM τ')) rfl rfl ?_
    refine gw_iload C d_La_law_393 1 rfl ?_
    refine gw_icmp_eq (tgt := 400) C d_La_law_395 (by decide) (fun _ => ?_) (fun h => absurd rfl h)
    refine gw_iload C d_La_law_400 1 rfl ?_
    refine gw_if_ne (tgt := 417) C d_La_law_402 (by decide) (fun h => absurd rfl h) (fun _ => ?_)
    refine gw_aload_n C d_La_law_405 rfl 5 rfl ?_
    refine gw_iconst (v := 0) C d_La_law_406 (by decide) ?_
    refine gw_lald C 0 1 rfl rfl (vp_in_nI (n := 0) (N := 1) (by decide) (by decide)) d_La_law_407 ?_
    refine gw_iload C d_La_law_408 0 rfl ?_
    refine gw_i2l C d_La_law_410 ?_
    refine gw_lcmp C d_La_law_411 ?_
    refine gw_if_eq (tgt := 417) C d_La_law_412 (by decide) (fun _ => ?_) (fun h => absurd (gw_lc _ _ _) h)
    refine gw_goto (tgt := 1144) C d_La_law_417 (by decide) ?_
    refine gw_less [2, 3, 4, 5, 6] rfl ?_
    exact kk _ _ _ hrel'
  · refine gw_callSH (n := 5) (As := [.ref (adC 0), .int v1, .int v2, .int v3, .ref qo]) (st := []) CT hN (h_La_two_1 l CT.2.2.2 D cI cL cZ adC qo f h1) tbW_437 tb_435 tb_436 tbI_La (by decide +kernel) ⟨Nat.le_of_ble_eq_true rfl, Nat.le_of_ble_eq_true rfl⟩ ⟨hc1, hs1⟩ [0, 1, 2, 3, 4, 5, 6, 7, 8, 9, 10, 11, 12, 13, 14, 15, 16, 17, 18, 19, 20, 21, 22, 23, 24, 25, 26, 27, 28, 29, 30, 31, 32] [33, 34, 35, 36, 37, 38, 39, 40, 41, 42, 43, 44, 45, 46, 47, 48, 49, 50, 51, 52, 53, 54, 55, 56, 57, 58] (wL_h cI cL cZ qo f adC σ adM τ) (wL_hf cI cL cZ qo f adC σ adM τ) (by decide) (wL_m cI cL cZ qo f adC σ adM τ) (by decide) (by decide) rfl (Nat.le_of_ble_eq_true rfl) d_La_law_360 ?_
    refine gw_widen (cells' := cells + 1) (slots' := slots + 6) (Nat.add_le_add_left (by decide) _) (Nat.add_le_add_left (by decide) _) ?_
    refine gw_perm [26, 27, 28, 29, 30, 31, 32, 33, 34, 35, 36, 37, 38, 39, 40, 41, 42, 43, 44, 45, 46, 47, 48, 49, 50, 51, 52, 53, 54, 55, 56, 57, 58, 0, 1, 2, 3, 4, 5, 6, 7, 8, 9, 10, 11, 12, 13, 14, 15, 16, 17, 18, 19, 20, 21, 22, 23, 24, 25] (wL_ph cI cL cZ qo f adC σ' adM τ) (wL_phm cI cL cZ qo f adC σ' adM τ) (by decide) ?_
    refine gw_istore (lv' := [(5, .int 1), (0, .ref b), (1, .ref (adC 0)), (2, .ref (adM 0)), (3, .ref qo), (4, .int x4)]) C d_La_law_363 (by decide) rfl ?_
    refine gw_aload_n C d_La_law_365 rfl 3 rfl ?_
    refine gw_aload_n C d_La_law_366 rfl 1 rfl ?_
    refine gw_iload C d_La_law_367 5 rfl ?_
    refine gw_iconst (v := 1) C d_La_law_369 (by decide) ?_
    refine gw_iadd C d_La_law_370 ?_
    refine gw_sld (v := v1) C hX hbl hbA h_1 e_1 d_La_law_371 ?_
    refine gw_aload_n C d_La_law_372 rfl 1 rfl ?_
    refine gw_iload C d_La_law_373 5 rfl ?_
    refine gw_iconst (v := 2) C d_La_law_375 (by decide) ?_
    refine gw_iadd C d_La_law_376 ?_
    refine gw_sld (v := v2) C hX hbl hbA h_2 e_2 d_La_law_377 ?_
    refine gw_aload_n C d_La_law_378 rfl 1 rfl ?_
    refine gw_iload C d_La_law_379 5 rfl ?_
    refine gw_iconst (v := 3) C d_La_law_381 (by decide) ?_
    refine gw_iadd C d_La_law_382 ?_
    refine gw_sld (v := v3) C hX hbl hbA h_3 e_3 d_La_law_383 ?_
    refine gw_callVF (T := T_Mo) (N := 48) (n := 3) (q0 := 0) (As := [.int v1, .int v2, .int v3]) (st := []) C (c_Mo_two l D cI cL cZ adM h2) tb_1051 tb_1048 tb_1049 tb_1050 tb_8 (by decide +kernel) ⟨Nat.le_of_ble_eq_true rfl, Nat.le_of_ble_eq_true rfl⟩ ⟨hc1, hs1⟩ rfl rfl [33, 34, 35, 36, 37, 38, 39, 40, 41, 42, 43, 44, 45, 46, 47, 48, 49, 50, 51, 52, 53, 54, 55, 56, 57, 58] [0, 1, 2, 3, 4, 5, 6, 7, 8, 9, 10, 11, 12, 13, 14, 15, 16, 17, 18, 19, 20, 21, 22, 23, 24, 25, 26, 27, 28, 29, 30, 31, 32] (wL_m cI cL cZ qo f adC σ' adM τ) (wL_mf cI cL cZ qo f adC σ' adM τ) (by decide) (wL_h cI cL cZ qo f adC σ' adM τ) (by decide) (by decide) rfl rfl rfl (Nat.le_of_ble_eq_true rfl) d_La_law_384 ?_
    refine gw_eq (ws' := (wL cI cL cZ qo f adC σ' adM τ')) rfl rfl ?_
    refine gw_istore (lv' := [(6, .int bv), (5, .int 1), (0, .ref b), (1, .ref (adC 0)), (2, .ref (adM 0)), (3, .ref qo), (4, .int x4)]) C d_La_law_387 (by decide) rfl ?_
    refine gw_aload_n C d_La_law_389 rfl 4 rfl ?_
    refine gw_callVF (T := T_Mo) (N := 48) (n := 0) (q0 := 0) (As := []) (st := []) C (c_Mo_thrown l D cI cL cZ adM h3) tb_1020 tb_1017 tb_1018 tb_1019 tb_8 (by decide +kernel) ⟨Nat.le_of_ble_eq_true rfl, Nat.le_of_ble_eq_true rfl⟩ ⟨hc1, hs1⟩ rfl rfl [33, 34, 35, 36, 37, 38, 39, 40, 41, 42, 43, 44, 45, 46, 47, 48, 49, 50, 51, 52, 53, 54, 55, 56, 57, 58] [0, 1, 2, 3, 4, 5, 6, 7, 8, 9, 10, 11, 12, 13, 14, 15, 16, 17, 18, 19, 20, 21, 22, 23, 24, 25, 26, 27, 28, 29, 30, 31, 32] (wL_m cI cL cZ qo f adC σ' adM τ') (wL_mf cI cL cZ qo f adC σ' adM τ') (by decide) (wL_h cI cL cZ qo f adC σ' adM τ') (by decide) (by decide) rfl rfl rfl (Nat.le_of_ble_eq_true rfl) d_La_law_390 ?_
    refine gw_eq (ws' := (wL cI cL cZ qo f adC σ' adM τ')) rfl rfl ?_
    refine gw_iload C d_La_law_393 1 rfl ?_
    refine gw_icmp_eq (tgt := 400) C d_La_law_395 (by decide) (fun _ => ?_) (fun h => absurd rfl h)
    refine gw_iload C d_La_law_400 1 rfl ?_
    refine gw_if_ne (tgt := 417) C d_La_law_402 (by decide) (fun _ => ?_) (fun h => absurd h (by decide))
    refine gw_goto (tgt := 1144) C d_La_law_417 (by decide) ?_
    refine gw_less [2, 3, 4, 5, 6] rfl ?_
    exact kk _ _ _ hrel'
  · refine gw_callSH (n := 5) (As := [.ref (adC 0), .int v1, .int v2, .int v3, .ref qo]) (st := []) CT hN (h_La_two_2 l CT.2.2.2 D cI cL cZ adC qo f h1) tbW_437 tb_435 tb_436 tbI_La (by decide +kernel) ⟨Nat.le_of_ble_eq_true rfl, Nat.le_of_ble_eq_true rfl⟩ ⟨hc1, hs1⟩ [0, 1, 2, 3, 4, 5, 6, 7, 8, 9, 10, 11, 12, 13, 14, 15, 16, 17, 18, 19, 20, 21, 22, 23, 24, 25, 26, 27, 28, 29, 30, 31, 32] [33, 34, 35, 36, 37, 38, 39, 40, 41, 42, 43, 44, 45, 46, 47, 48, 49, 50, 51, 52, 53, 54, 55, 56, 57, 58] (wL_h cI cL cZ qo f adC σ adM τ) (wL_hf cI cL cZ qo f adC σ adM τ) (by decide) (wL_m cI cL cZ qo f adC σ adM τ) (by decide) (by decide) rfl (Nat.le_of_ble_eq_true rfl) d_La_law_360 ?_
    refine gw_widen (cells' := cells + 1) (slots' := slots + 6) (Nat.add_le_add_left (by decide) _) (Nat.add_le_add_left (by decide) _) ?_
    refine gw_perm [26, 27, 28, 29, 30, 31, 32, 33, 34, 35, 36, 37, 38, 39, 40, 41, 42, 43, 44, 45, 46, 47, 48, 49, 50, 51, 52, 53, 54, 55, 56, 57, 58, 0, 1, 2, 3, 4, 5, 6, 7, 8, 9, 10, 11, 12, 13, 14, 15, 16, 17, 18, 19, 20, 21, 22, 23, 24, 25] (wL_ph cI cL cZ qo f adC σ' adM τ) (wL_phm cI cL cZ qo f adC σ' adM τ) (by decide) ?_
    refine gw_istore (lv' := [(5, .int 2), (0, .ref b), (1, .ref (adC 0)), (2, .ref (adM 0)), (3, .ref qo), (4, .int x4)]) C d_La_law_363 (by decide) rfl ?_
    refine gw_aload_n C d_La_law_365 rfl 3 rfl ?_
    refine gw_aload_n C d_La_law_366 rfl 1 rfl ?_
    refine gw_iload C d_La_law_367 5 rfl ?_
    refine gw_iconst (v := 1) C d_La_law_369 (by decide) ?_
    refine gw_iadd C d_La_law_370 ?_
    refine gw_sld (v := v1) C hX hbl hbA h_1 e_1 d_La_law_371 ?_
    refine gw_aload_n C d_La_law_372 rfl 1 rfl ?_
    refine gw_iload C d_La_law_373 5 rfl ?_
    refine gw_iconst (v := 2) C d_La_law_375 (by decide) ?_
    refine gw_iadd C d_La_law_376 ?_
    refine gw_sld (v := v2) C hX hbl hbA h_2 e_2 d_La_law_377 ?_
    refine gw_aload_n C d_La_law_378 rfl 1 rfl ?_
    refine gw_iload C d_La_law_379 5 rfl ?_
    refine gw_iconst (v := 3) C d_La_law_381 (by decide) ?_
    refine gw_iadd C d_La_law_382 ?_
    refine gw_sld (v := v3) C hX hbl hbA h_3 e_3 d_La_law_383 ?_
    refine gw_callVF (T := T_Mo) (N := 48) (n := 3) (q0 := 0) (As := [.int v1, .int v2, .int v3]) (st := []) C (c_Mo_two l D cI cL cZ adM h2) tb_1051 tb_1048 tb_1049 tb_1050 tb_8 (by decide +kernel) ⟨Nat.le_of_ble_eq_true rfl, Nat.le_of_ble_eq_true rfl⟩ ⟨hc1, hs1⟩ rfl rfl [33, 34, 35, 36, 37, 38, 39, 40, 41, 42, 43, 44, 45, 46, 47, 48, 49, 50, 51, 52, 53, 54, 55, 56, 57, 58] [0, 1, 2, 3, 4, 5, 6, 7, 8, 9, 10, 11, 12, 13, 14, 15, 16, 17, 18, 19, 20, 21, 22, 23, 24, 25, 26, 27, 28, 29, 30, 31, 32] (wL_m cI cL cZ qo f adC σ' adM τ) (wL_mf cI cL cZ qo f adC σ' adM τ) (by decide) (wL_h cI cL cZ qo f adC σ' adM τ) (by decide) (by decide) rfl rfl rfl (Nat.le_of_ble_eq_true rfl) d_La_law_384 ?_
    refine gw_eq (ws' := (wL cI cL cZ qo f adC σ' adM τ')) rfl rfl ?_
    refine gw_istore (lv' := [(6, .int bv), (5, .int 2), (0, .ref b), (1, .ref (adC 0)), (2, .ref (adM 0)), (3, .ref qo), (4, .int x4)]) C d_La_law_387 (by decide) rfl ?_
    refine gw_aload_n C d_La_law_389 rfl 4 rfl ?_
    refine gw_callVF (T := T_Mo) (N := 48) (n := 0) (q0 := 0) (As := []) (st := []) C (c_Mo_thrown l D cI cL cZ adM h3) tb_1020 tb_1017 tb_1018 tb_1019 tb_8 (by decide +kernel) ⟨Nat.le_of_ble_eq_true rfl, Nat.le_of_ble_eq_true rfl⟩ ⟨hc1, hs1⟩ rfl rfl [33, 34, 35, 36, 37, 38, 39, 40, 41, 42, 43, 44, 45, 46, 47, 48, 49, 50, 51, 52, 53, 54, 55, 56, 57, 58] [0, 1, 2, 3, 4, 5, 6, 7, 8, 9, 10, 11, 12, 13, 14, 15, 16, 17, 18, 19, 20, 21, 22, 23, 24, 25, 26, 27, 28, 29, 30, 31, 32] (wL_m cI cL cZ qo f adC σ' adM τ') (wL_mf cI cL cZ qo f adC σ' adM τ') (by decide) (wL_h cI cL cZ qo f adC σ' adM τ') (by decide) (by decide) rfl rfl rfl (Nat.le_of_ble_eq_true rfl) d_La_law_390 ?_
    refine gw_eq (ws' := (wL cI cL cZ qo f adC σ' adM τ')) rfl rfl ?_
    refine gw_iload C d_La_law_393 1 rfl ?_
    refine gw_icmp_eq (tgt := 400) C d_La_law_395 (by decide) (fun _ => ?_) (fun h => absurd rfl h)
    refine gw_iload C d_La_law_400 1 rfl ?_
    refine gw_if_ne (tgt := 417) C d_La_law_402 (by decide) (fun _ => ?_) (fun h => absurd h (by decide))
    refine gw_goto (tgt := 1144) C d_La_law_417 (by decide) ?_
    refine gw_less [2, 3, 4, 5, 6] rfl ?_
    exact kk _ _ _ hrel'
  · refine gw_callSH (n := 5) (As := [.ref (adC 0), .int v1, .int v2, .int v3, .ref qo]) (st := []) CT hN (h_La_two_3 l CT.2.2.2 D cI cL cZ adC qo f h1) tbW_437 tb_435 tb_436 tbI_La (by decide +kernel) ⟨Nat.le_of_ble_eq_true rfl, Nat.le_of_ble_eq_true rfl⟩ ⟨hc1, hs1⟩ [0, 1, 2, 3, 4, 5, 6, 7, 8, 9, 10, 11, 12, 13, 14, 15, 16, 17, 18, 19, 20, 21, 22, 23, 24, 25, 26, 27, 28, 29, 30, 31, 32] [33, 34, 35, 36, 37, 38, 39, 40, 41, 42, 43, 44, 45, 46, 47, 48, 49, 50, 51, 52, 53, 54, 55, 56, 57, 58] (wL_h cI cL cZ qo f adC σ adM τ) (wL_hf cI cL cZ qo f adC σ adM τ) (by decide) (wL_m cI cL cZ qo f adC σ adM τ) (by decide) (by decide) rfl (Nat.le_of_ble_eq_true rfl) d_La_law_360 ?_
    refine gw_widen (cells' := cells + 1) (slots' := slots + 6) (Nat.add_le_add_left (by decide) _) (Nat.add_le_add_left (by decide) _) ?_
    refine gw_perm [26, 27, 28, 29, 30, 31, 32, 33, 34, 35, 36, 37, 38, 39, 40, 41, 42, 43, 44, 45, 46, 47, 48, 49, 50, 51, 52, 53, 54, 55, 56, 57, 58, 0, 1, 2, 3, 4, 5, 6, 7, 8, 9, 10, 11, 12, 13, 14, 15, 16, 17, 18, 19, 20, 21, 22, 23, 24, 25] (wL_ph cI cL cZ qo f adC σ' adM τ) (wL_phm cI cL cZ qo f adC σ' adM τ) (by decide) ?_
    refine gw_istore (lv' := [(5, .int 3), (0, .ref b), (1, .ref (adC 0)), (2, .ref (adM 0)), (3, .ref qo), (4, .int x4)]) C d_La_law_363 (by decide) rfl ?_
    refine gw_aload_n C d_La_law_365 rfl 3 rfl ?_
    refine gw_aload_n C d_La_law_366 rfl 1 rfl ?_
    refine gw_iload C d_La_law_367 5 rfl ?_
    refine gw_iconst (v := 1) C d_La_law_369 (by decide) ?_
    refine gw_iadd C d_La_law_370 ?_
    refine gw_sld (v := v1) C hX hbl hbA h_1 e_1 d_La_law_371 ?_
    refine gw_aload_n C d_La_law_372 rfl 1 rfl ?_
    refine gw_iload C d_La_law_373 5 rfl ?_
    refine gw_iconst (v := 2) C d_La_law_375 (by decide) ?_
    refine gw_iadd C d_La_law_376 ?_
    refine gw_sld (v := v2) C hX hbl hbA h_2 e_2 d_La_law_377 ?_
    refine gw_aload_n C d_La_law_378 rfl 1 rfl ?_
    refine gw_iload C d_La_law_379 5 rfl ?_
    refine gw_iconst (v := 3) C d_La_law_381 (by decide) ?_
    refine gw_iadd C d_La_law_382 ?_
    refine gw_sld (v := v3) C hX hbl hbA h_3 e_3 d_La_law_383 ?_
    refine gw_callVF (T := T_Mo) (N := 48) (n := 3) (q0 := 0) (As := [.int v1, .int v2, .int v3]) (st := []) C (c_Mo_two l D cI cL cZ adM h2) tb_1051 tb_1048 tb_1049 tb_1050 tb_8 (by decide +kernel) ⟨Nat.le_of_ble_eq_true rfl, Nat.le_of_ble_eq_true rfl⟩ ⟨hc1, hs1⟩ rfl rfl [33, 34, 35, 36, 37, 38, 39, 40, 41, 42, 43, 44, 45, 46, 47, 48, 49, 50, 51, 52, 53, 54, 55, 56, 57, 58] [0, 1, 2, 3, 4, 5, 6, 7, 8, 9, 10, 11, 12, 13, 14, 15, 16, 17, 18, 19, 20, 21, 22, 23, 24, 25, 26, 27, 28, 29, 30, 31, 32] (wL_m cI cL cZ qo f adC σ' adM τ) (wL_mf cI cL cZ qo f adC σ' adM τ) (by decide) (wL_h cI cL cZ qo f adC σ' adM τ) (by decide) (by decide) rfl rfl rfl (Nat.le_of_ble_eq_true rfl) d_La_law_384 ?_
    refine gw_eq (ws' := (wL cI cL cZ qo f adC σ' adM τ')) rfl rfl ?_
    refine gw_istore (lv' := [(6, .int bv), (5, .int 3), (0, .ref b), (1, .ref (adC 0)), (2, .ref (adM 0)), (3, .ref qo), (4, .int x4)]) C d_La_law_387 (by decide) rfl ?_
    refine gw_aload_n C d_La_law_389 rfl 4 rfl ?_
    refine gw_callVF (T := T_Mo) (N := 48) (n := 0) (q0 := 0) (As := []) (st := []) C (c_Mo_thrown l D cI cL cZ adM h3) tb_1020 tb_1017 tb_1018 tb_1019 tb_8 (by decide +kernel) ⟨Nat.le_of_ble_eq_true rfl, Nat.le_of_ble_eq_true rfl⟩ ⟨hc1, hs1⟩ rfl rfl [33, 34, 35, 36, 37, 38, 39, 40, 41, 42, 43, 44, 45, 46, 47, 48, 49, 50, 51, 52, 53, 54, 55, 56, 57, 58] [0, 1, 2, 3, 4, 5, 6, 7, 8, 9, 10, 11, 12, 13, 14, 15, 16, 17, 18, 19, 20, 21, 22, 23, 24, 25, 26, 27, 28, 29, 30, 31, 32] (wL_m cI cL cZ qo f adC σ' adM τ') (wL_mf cI cL cZ qo f adC σ' adM τ') (by decide) (wL_h cI cL cZ qo f adC σ' adM τ') (by decide) (by decide) rfl rfl rfl (Nat.le_of_ble_eq_true rfl) d_La_law_390 ?_
    refine gw_eq (ws' := (wL cI cL cZ qo f adC σ' adM τ')) rfl rfl ?_
    refine gw_iload C d_La_law_393 1 rfl ?_
    refine gw_icmp_eq (tgt := 400) C d_La_law_395 (by decide) (fun _ => ?_) (fun h => absurd rfl h)
    refine gw_iload C d_La_law_400 1 rfl ?_
    refine gw_if_ne (tgt := 417) C d_La_law_402 (by decide) (fun _ => ?_) (fun h => absurd h (by decide))
    refine gw_goto (tgt := 1144) C d_La_law_417 (by decide) ?_
    refine gw_less [2, 3, 4, 5, 6] rfl ?_
    exact kk _ _ _ hrel'
set_option maxRecDepth 100000 in
set_option maxHeartbeats 4000000 in
theorem law_choose {Rel : Nat → St → St → Prop} (S : LawSim Rel) {p : Program} {l : Launch} {e : Env} {s : State} {m : MethodId} {below : List Frame} {meth : Method} {c : Code} {D : va_G} {A : Nat → Prop} {Q : State → Prop} {cI cL cZ : ClassId} {b L : Nat} {xs : Nat → Int32} (CT : gw_CT l p s m #[Value.ref b] meth c code 7 R_La D gw_cl (gw_ty cI cL cZ) A) (hN : gw_Nc s) (hX : va_X b L xs s s.heap) (hbl : b < s.heap.size) (hbA : ¬ A b) {qo : Nat} {f : Nat → Int64} {adC adM : Nat → Nat} {σ τ : St} {n cells slots : Nat} (hn : n < 512) (hrel : Rel n σ τ) (hc1 : cells + 1 ≤ room_1.cells) (hs1 : slots + 6 ≤ room_1.slots) {x4 v1 v2 v3 : Int32} (h_1 : vp_in (x4 + 1) L) (h_2 : vp_in (x4 + 2) L) (h_3 : vp_in (x4 + 3) L) (e_1 : xs (x4 + 1).toNatClampNeg = v1) (e_2 : xs (x4 + 2).toNatClampNeg = v2) (e_3 : xs (x4 + 3).toNatClampNeg = v3)
    (kk : ∀ (f' : Nat → Int64) (σ' τ' : St), Rel (n + 1) σ' τ' → gw_W p l e room_1 s m #[Value.ref b] below meth c D gw_cl A Q (cells + 1) (slots + 6) 7 (wL cI cL cZ qo f' adC σ' adM τ') [(0, .ref b), (1, .ref (adC 0)), (2, .ref (adM 0)), (3, .ref qo), (4, .int x4)] 1144 []) : gw_W p l e room_1 s m #[Value.ref b] below meth c D gw_cl A Q cells slots 7 (wL cI cL cZ qo f adC σ adM τ) [(0, .ref b), (1, .ref (adC 0)), (2, .ref (adM 0)), (3, .ref qo), (4, .int x4)] 420 [] := by
  have C := CT.1
  refine gw_aload_n C d_La_law_420 rfl 1 rfl ?_
  refine gw_aload_n C d_La_law_421 rfl 0 rfl ?_
  refine gw_iload C d_La_law_422 4 rfl ?_
  refine gw_iconst (v := 1) C d_La_law_424 (by decide) ?_
  refine gw_iadd C d_La_law_425 ?_
  refine gw_sld (v := v1) C hX hbl hbA h_1 e_1 d_La_law_426 ?_
  refine gw_aload_n C d_La_law_427 rfl 0 rfl ?_
  refine gw_iload C d_La_law_428 4 rfl ?_
  refine gw_iconst (v := 2) C d_La_law_430 (by decide) ?_
  refine gw_iadd C d_La_law_431 ?_
  refine gw_sld (v := v2) C hX hbl hbA h_2 e_2 d_La_law_432 ?_
  refine gw_aload_n C d_La_law_433 rfl 0 rfl ?_
  refine gw_iload C d_La_law_434 4 rfl ?_
  refine gw_iconst (v := 3) C d_La_law_436 (by decide) ?_
  refine gw_iadd C d_La_law_437 ?_
  refine gw_sld (v := v3) C hX hbl hbA h_3 e_3 d_La_law_438 ?_
  refine gw_aload_n C d_La_law_439 rfl 3 rfl ?_
  obtain ⟨k, r, σ', bv, τ', th, h1, h2, h3, hrel', hcs⟩ := S.2.2.2.2.2.1 n σ τ v1 v2 v3 hn hrel
  rcases hcs with ⟨rfl, rfl, rfl⟩ | ⟨rfl, rfl⟩ | ⟨rfl, rfl⟩
  · refine gw_callSH (n := 5) (As := [.ref (adC 0), .int v1, .int v2, .int v3, .ref qo]) (st := []) CT hN (h_La_choose_0 l CT.2.2.2 D cI cL cZ adC qo f h1) tbW_449 tb_447 tb_448 tbI_La (by decide +kernel) ⟨Nat.le_of_ble_eq_true rfl, Nat.le_of_ble_eq_true rfl⟩ ⟨hc1, hs1⟩ [0, 1, 2, 3, 4, 5, 6, 7, 8, 9, 10, 11, 12, 13, 14, 15, 16, 17, 18, 19, 20, 21, 22, 23, 24, 25, 26, 27, 28, 29, 30, 31, 32] [33, 34, 35, 36, 37, 38, 39, 40, 41, 42, 43, 44, 45, 46, 47, 48, 49, 50, 51, 52, 53, 54, 55, 56, 57, 58] (wL_h cI cL cZ qo f adC σ adM τ) (wL_hf cI cL cZ qo f adC σ adM τ) (by decide) (wL_m cI cL cZ qo f adC σ adM τ) (by decide) (by decide) rfl (Nat.le_of_ble_eq_true rfl) d_La_law_440 ?_
    refine gw_widen (cells' := cells + 1) (slots' := slots + 6) (Nat.add_le_add_left (by decide) _) (Nat.add_le_add_left (by decide) _) ?_
    refine gw_perm [26, 27, 28, 29, 30, 31, 32, 33, 34, 35, 36, 37, 38, 39, 40, 41, 42, 43, 44, 45, 46, 47, 48, 49, 50, 51, 52, 53, 54, 55, 56, 57, 58, 0, 1, 2, 3, 4, 5, 6, 7, 8, 9, 10, 11, 12, 13, 14, 15, 16, 17, 18, 19, 20, 21, 22, 23, 24, 25] (wL_ph cI cL cZ qo (vp_updL f (0 : Int32).toNatClampNeg r.toInt64) adC σ' adM τ) (wL_phm cI cL cZ qo (vp_updL f (0 : Int32).toNatClampNeg r.toInt64) adC σ' adM τ) (by decide) ?_
    refine gw_istore (lv' := [(5, .int 0), (0, .ref b), (1, .ref (adC 0)), (2, .ref (adM 0)), (3, .ref qo), (4, .int x4)]) C d_La_law_443 (by decide) rfl ?_
    refine gw_aload_n C d_La_law_445 rfl 3 rfl ?_
    refine gw_aload_n C d_La_law_446 rfl 1 rfl ?_
    refine gw_iload C d_La_law_447 5 rfl ?_
    refine gw_iconst (v := 1) C d_La_law_449 (by decide) ?_
    refine gw_iadd C d_La_law_450 ?_
    refine gw_sld (v := v1) C hX hbl hbA h_1 e_1 d_La_law_451 ?_
    refine gw_aload_n C d_La_law_452 rfl 1 rfl ?_
    refine gw_iload C d_La_law_453 5 rfl ?_
    refine gw_iconst (v := 2) C d_La_law_455 (by decide) ?_
    refine gw_iadd C d_La_law_456 ?_
    refine gw_sld (v := v2) C hX hbl hbA h_2 e_2 d_La_law_457 ?_
    refine gw_aload_n C d_La_law_458 rfl 1 rfl ?_
    refine gw_iload C d_La_law_459 5 rfl ?_
    refine gw_iconst (v := 3) C d_La_law_461 (by decide) ?_
    refine gw_iadd C d_La_law_462 ?_
    refine gw_sld (v := v3) C hX hbl hbA h_3 e_3 d_La_law_463 ?_
    refine gw_callVF (T := T_Mo) (N := 48) (n := 3) (q0 := 0) (As := [.int v1, .int v2, .int v3]) (st := []) C (c_Mo_choose l D cI cL cZ adM h2) tb_1058 tb_1055 tb_1056 tb_1057 tb_8 (by decide +kernel) ⟨Nat.le_of_ble_eq_true rfl, Nat.le_of_ble_eq_true rfl⟩ ⟨hc1, hs1⟩ rfl rfl [33, 34, 35, 36, 37, 38, 39, 40, 41, 42, 43, 44, 45, 46, 47, 48, 49, 50, 51, 52, 53, 54, 55, 56, 57, 58] [0, 1, 2, 3, 4, 5, 6, 7, 8, 9, 10, 11, 12, 13, 14, 15, 16, 17, 18, 19, 20, 21, 22, 23, 24, 25, 26, 27, 28, 29, 30, 31, 32] (wL_m cI cL cZ qo (vp_updL f (0 : Int32).toNatClampNeg r.toInt64) adC σ' adM τ) (wL_mf cI cL cZ qo (vp_updL f (0 : Int32).toNatClampNeg r.toInt64) adC σ' adM τ) (by decide) (wL_h cI cL cZ qo (vp_updL f (0 : Int32).toNatClampNeg r.toInt64) adC σ' adM τ) (by decide) (by decide) rfl rfl rfl (Nat.le_of_ble_eq_true rfl) d_La_law_464 ?_
    refine gw_eq (ws' := (wL cI cL cZ qo (vp_updL f (0 : Int32).toNatClampNeg r.toInt64) adC σ' adM τ')) rfl rfl ?_
    refine gw_istore (lv' := [(6, .int r), (5, .int 0), (0, .ref b), (1, .ref (adC 0)), (2, .ref (adM 0)), (3, .ref qo), (4, .int x4)]) C d_La_law_467 (by decide) rfl ?_
    refine gw_aload_n C d_La_law_469 rfl 4 rfl ?_
    refine gw_callVF (T := T_Mo) (N := 48) (n := 0) (q0 := 0) (As := []) (st := []) C (c_Mo_thrown l D cI cL cZ adM h3) tb_1020 tb_1017 tb_1018 tb_1019 tb_8 (by decide +kernel) ⟨Nat.le_of_ble_eq_true rfl, Nat.le_of_ble_eq_true rfl⟩ ⟨hc1, hs1⟩ rfl rfl [33, 34, 35, 36, 37, 38, 39, 40, 41, 42, 43, 44, 45, 46, 47, 48, 49, 50, 51, 52, 53, 54, 55, 56, 57, 58] [0, 1, 2, 3, 4, 5, 6, 7, 8, 9, 10, 11, 12, 13, 14, 15, 16, 17, 18, 19, 20, 21, 22, 23, 24, 25, 26, 27, 28, 29, 30, 31, 32] (wL_m cI cL cZ qo (vp_updL f (0 : Int32).toNatClampNeg r.toInt64) adC σ' adM τ') (wL_mf cI cL cZ qo (vp_updL f (0 : Int32).toNatClampNeg r.toInt64) adC σ' adM τ') (by decide) (wL_h cI cL cZ qo (vp_updL f (0 : Int32).toNatClampNeg r.toInt64) adC σ' adM τ') (by decide) (by decide) rfl rfl rfl (Nat.le_of_ble_eq_true rfl) d_La_law_470 ?_
    refine gw_eq (ws' := (wL cI cL cZ qo (vp_updL f (0 : Int32).toNatClampNeg r.toInt64) adC σ' adM τ')) rfl rfl ?_
    refine gw_iload C d_La_law_473 1 rfl ?_
    refine gw_icmp_eq (tgt := 480) C d_La_law_475 (by decide) (fun _ => ?_) (fun h => absurd rfl h)
    refine gw_iload C d_La_law_480 1 rfl ?_
    refine gw_if_ne (tgt := 497) C d_La_law_482 (by decide) (fun h => absurd rfl h) (fun _ => ?_)
    refine gw_aload_n C d_La_law_485 rfl 5 rfl ?_
    refine gw_iconst (v := 0) C d_La_law_486 (by decide) ?_
    refine gw_lald C 0 1 rfl rfl (vp_in_nI (n := 0) (N := 1) (by decide) (by decide)) d_La_law_487 ?_
    refine gw_iload C d_La_law_488 0 rfl ?_
    refine gw_i2l C d_La_law_490 ?_
    refine gw_lcmp C d_La_law_491 ?_
    refine gw_if_eq (tgt := 497) C d_La_law_492 (by decide) (fun _ => ?_) (fun h => absurd (gw_lc _ _ _) h)
    refine gw_goto (tgt := 1144) C d_La_law_497 (by decide) ?_
    refine gw_less [2, 3, 4, 5, 6] rfl ?_
    exact kk _ _ _ hrel'
  · refine gw_callSH (n := 5) (As := [.ref (adC 0), .int v1, .int v2, .int v3, .ref qo]) (st := []) CT hN (h_La_choose_1 l CT.2.2.2 D cI cL cZ adC qo f h1) tbW_449 tb_447 tb_448 tbI_La (by decide +kernel) ⟨Nat.le_of_ble_eq_true rfl, Nat.le_of_ble_eq_true rfl⟩ ⟨hc1, hs1⟩ [0, 1, 2, 3, 4, 5, 6, 7, 8, 9, 10, 11, 12, 13, 14, 15, 16, 17, 18, 19, 20, 21, 22, 23, 24, 25, 26, 27, 28, 29, 30, 31, 32] [33, 34, 35, 36, 37, 38, 39, 40, 41, 42, 43, 44, 45, 46, 47, 48, 49, 50, 51, 52, 53, 54, 55, 56, 57, 58] (wL_h cI cL cZ qo f adC σ adM τ) (wL_hf cI cL cZ qo f adC σ adM τ) (by decide) (wL_m cI cL cZ qo f adC σ adM τ) (by decide) (by decide) rfl (Nat.le_of_ble_eq_true rfl) d_La_law_440 ?_
    refine gw_widen (cells' := cells + 1) (slots' := slots + 6) (Nat.add_le_add_left (by decide) _) (Nat.add_le_add_left (by decide) _) ?_
    refine gw_perm [26, 27, 28, 29, 30, 31, 32, 33, 34, 35, 36, 37, 38, 39, 40, 41, 42, 43, 44, 45, 46, 47, 48, 49, 50, 51, 52, 53, 54, 55, 56, 57, 58, 0, 1, 2, 3, 4, 5, 6, 7, 8, 9, 10, 11, 12, 13, 14, 15, 16, 17, 18, 19, 20, 21, 22, 23, 24, 25] (wL_ph cI cL cZ qo f adC σ' adM τ) (wL_phm cI cL cZ qo f adC σ' adM τ) (by decide) ?_
    refine gw_istore (lv' := [(5, .int 1), (0, .ref b), (1, .ref (adC 0)), (2, .ref (adM 0)), (3, .ref qo), (4, .int x4)]) C d_La_law_443 (by decide) rfl ?_
    refine gw_aload_n C d_La_law_445 rfl 3 rfl ?_
    refine gw_aload_n C d_La_law_446 rfl 1 rfl ?_
    refine gw_iload C d_La_law_447 5 rfl ?_
    refine gw_iconst (v := 1) C d_La_law_449 (by decide) ?_
    refine gw_iadd C d_La_law_450 ?_
    refine gw_sld (v := v1) C hX hbl hbA h_1 e_1 d_La_law_451 ?_
    refine gw_aload_n C d_La_law_452 rfl 1 rfl ?_
    refine gw_iload C d_La_law_453 5 rfl ?_
    refine gw_iconst (v := 2) C d_La_law_455 (by decide) ?_
    refine gw_iadd C d_La_law_456 ?_
    refine gw_sld (v := v2) C hX hbl hbA h_2 e_2 d_La_law_457 ?_
    refine gw_aload_n C d_La_law_458 rfl 1 rfl ?_
    refine gw_iload C d_La_law_459 5 rfl ?_
    refine gw_iconst (v := 3) C d_La_law_461 (by decide) ?_
    refine gw_iadd C d_La_law_462 ?_
    refine gw_sld (v := v3) C hX hbl hbA h_3 e_3 d_La_law_463 ?_
    refine gw_callVF (T := T_Mo) (N := 48) (n := 3) (q0 := 0) (As := [.int v1, .int v2, .int v3]) (st := []) C (c_Mo_choose l D cI cL cZ adM h2) tb_1058 tb_1055 tb_1056 tb_1057 tb_8 (by decide +kernel) ⟨Nat.le_of_ble_eq_true rfl, Nat.le_of_ble_eq_true rfl⟩ ⟨hc1, hs1⟩ rfl rfl [33, 34, 35, 36, 37, 38, 39, 40, 41, 42, 43, 44, 45, 46, 47, 48, 49, 50, 51, 52, 53, 54, 55, 56, 57, 58] [0, 1, 2, 3, 4, 5, 6, 7, 8, 9, 10, 11, 12, 13, 14, 15, 16, 17, 18, 19, 20, 21, 22, 23, 24, 25, 26, 27, 28, 29, 30, 31, 32] (wL_m cI cL cZ qo f adC σ' adM τ) (wL_mf cI cL cZ qo f adC σ' adM τ) (by decide) (wL_h cI cL cZ qo f adC σ' adM τ) (by decide) (by decide) rfl rfl rfl (Nat.le_of_ble_eq_true rfl) d_La_law_464 ?_
    refine gw_eq (ws' := (wL cI cL cZ qo f adC σ' adM τ')) rfl rfl ?_
    refine gw_istore (lv' := [(6, .int bv), (5, .int 1), (0, .ref b), (1, .ref (adC 0)), (2, .ref (adM 0)), (3, .ref qo), (4, .int x4)]) C d_La_law_467 (by decide) rfl ?_
    refine gw_aload_n C d_La_law_469 rfl 4 rfl ?_
    refine gw_callVF (T := T_Mo) (N := 48) (n := 0) (q0 := 0) (As := []) (st := []) C (c_Mo_thrown l D cI cL cZ adM h3) tb_1020 tb_1017 tb_1018 tb_1019 tb_8 (by decide +kernel) ⟨Nat.le_of_ble_eq_true rfl, Nat.le_of_ble_eq_true rfl⟩ ⟨hc1, hs1⟩ rfl rfl [33, 34, 35, 36, 37, 38, 39, 40, 41, 42, 43, 44, 45, 46, 47, 48, 49, 50, 51, 52, 53, 54, 55, 56, 57, 58] [0, 1, 2, 3, 4, 5, 6, 7, 8, 9, 10, 11, 12, 13, 14, 15, 16, 17, 18, 19, 20, 21, 22, 23, 24, 25, 26, 27, 28, 29, 30, 31, 32] (wL_m cI cL cZ qo f adC σ' adM τ') (wL_mf cI cL cZ qo f adC σ' adM τ') (by decide) (wL_h cI cL cZ qo f adC σ' adM τ') (by decide) (by decide) rfl rfl rfl (Nat.le_of_ble_eq_true rfl) d_La_law_470 ?_
    refine gw_eq (ws' := (wL cI cL cZ qo f adC σ' adM τ')) rfl rfl ?_
    refine gw_iload C d_La_law_473 1 rfl ?_
    refine gw_icmp_eq (tgt := 480) C d_La_law_475 (by decide) (fun _ => ?_) (fun h => absurd rfl h)
    refine gw_iload C d_La_law_480 1 rfl ?_
    refine gw_if_ne (tgt := 497) C d_La_law_482 (by decide) (fun _ => ?_) (fun h => absurd h (by decide))
    refine gw_goto (tgt := 1144) C d_La_law_497 (by decide) ?_
    refine gw_less [2, 3, 4, 5, 6] rfl ?_
    exact kk _ _ _ hrel'
  · refine gw_callSH (n := 5) (As := [.ref (adC 0), .int v1, .int v2, .int v3, .ref qo]) (st := []) CT hN (h_La_choose_2 l CT.2.2.2 D cI cL cZ adC qo f h1) tbW_449 tb_447 tb_448 tbI_La (by decide +kernel) ⟨Nat.le_of_ble_eq_true rfl, Nat.le_of_ble_eq_true rfl⟩ ⟨hc1, hs1⟩ [0, 1, 2, 3, 4, 5, 6, 7, 8, 9, 10, 11, 12, 13, 14, 15, 16, 17, 18, 19, 20, 21, 22, 23, 24, 25, 26, 27, 28, 29, 30, 31, 32] [33, 34, 35, 36, 37, 38, 39, 40, 41, 42, 43, 44, 45, 46, 47, 48, 49, 50, 51, 52, 53, 54, 55, 56, 57, 58] (wL_h cI cL cZ qo f adC σ adM τ) (wL_hf cI cL cZ qo f adC σ adM τ) (by decide) (wL_m cI cL cZ qo f adC σ adM τ) (by decide) (by decide) rfl (Nat.le_of_ble_eq_true rfl) d_La_law_440 ?_
    refine gw_widen (cells' := cells + 1) (slots' := slots + 6) (Nat.add_le_add_left (by decide) _) (Nat.add_le_add_left (by decide) _) ?_
    refine gw_perm [26, 27, 28, 29, 30, 31, 32, 33, 34, 35, 36, 37, 38, 39, 40, 41, 42, 43, 44, 45, 46, 47, 48, 49, 50, 51, 52, 53, 54, 55, 56, 57, 58, 0, 1, 2, 3, 4, 5, 6, 7, 8, 9, 10, 11, 12, 13, 14, 15, 16, 17, 18, 19, 20, 21, 22, 23, 24, 25] (wL_ph cI cL cZ qo f adC σ' adM τ) (wL_phm cI cL cZ qo f adC σ' adM τ) (by decide) ?_
    refine gw_istore (lv' := [(5, .int 2), (0, .ref b), (1, .ref (adC 0)), (2, .ref (adM 0)), (3, .ref qo), (4, .int x4)]) C d_La_law_443 (by decide) rfl ?_
    refine gw_aload_n C d_La_law_445 rfl 3 rfl ?_
    refine gw_aload_n C d_La_law_446 rfl 1 rfl ?_
    refine gw_iload C d_La_law_447 5 rfl ?_
    refine gw_iconst (v := 1) C d_La_law_449 (by decide) ?_
    refine gw_iadd C d_La_law_450 ?_
    refine gw_sld (v := v1) C hX hbl hbA h_1 e_1 d_La_law_451 ?_
    refine gw_aload_n C d_La_law_452 rfl 1 rfl ?_
    refine gw_iload C d_La_law_453 5 rfl ?_
    refine gw_iconst (v := 2) C d_La_law_455 (by decide) ?_
    refine gw_iadd C d_La_law_456 ?_
    refine gw_sld (v := v2) C hX hbl hbA h_2 e_2 d_La_law_457 ?_
    refine gw_aload_n C d_La_law_458 rfl 1 rfl ?_
    refine gw_iload C d_La_law_459 5 rfl ?_
    refine gw_iconst (v := 3) C d_La_law_461 (by decide) ?_
    refine gw_iadd C d_La_law_462 ?_
    refine gw_sld (v := v3) C hX hbl hbA h_3 e_3 d_La_law_463 ?_
    refine gw_callVF (T := T_Mo) (N := 48) (n := 3) (q0 := 0) (As := [.int v1, .int v2, .int v3]) (st := []) C (c_Mo_choose l D cI cL cZ adM h2) tb_1058 tb_1055 tb_1056 tb_1057 tb_8 (by decide +kernel) ⟨Nat.le_of_ble_eq_true rfl, Nat.le_of_ble_eq_true rfl⟩ ⟨hc1, hs1⟩ rfl rfl [33, 34, 35, 36, 37, 38, 39, 40, 41, 42, 43, 44, 45, 46, 47, 48, 49, 50, 51, 52, 53, 54, 55, 56, 57, 58] [0, 1, 2, 3, 4, 5, 6, 7, 8, 9, 10, 11, 12, 13, 14, 15, 16, 17, 18, 19, 20, 21, 22, 23, 24, 25, 26, 27, 28, 29, 30, 31, 32] (wL_m cI cL cZ qo f adC σ' adM τ) (wL_mf cI cL cZ qo f adC σ' adM τ) (by decide) (wL_h cI cL cZ qo f adC σ' adM τ) (by decide) (by decide) rfl rfl rfl (Nat.le_of_ble_eq_true rfl) d_La_law_464 ?_
    refine gw_eq (ws' := (wL cI cL cZ qo f adC σ' adM τ')) rfl rfl ?_
    refine gw_istore (lv' := [(6, .int bv), (5, .int 2), (0, .ref b), (1, .ref (adC 0)), (2, .ref (adM 0)), (3, .ref qo), (4, .int x4)]) C d_La_law_467 (by decide) rfl ?_
    refine gw_aload_n C d_La_law_469 rfl 4 rfl ?_
    refine gw_callVF (T := T_Mo) (N := 48) (n := 0) (q0 := 0) (As := []) (st := []) C (c_Mo_thrown l D cI cL cZ adM h3) tb_1020 tb_1017 tb_1018 tb_1019 tb_8 (by decide +kernel) ⟨Nat.le_of_ble_eq_true rfl, Nat.le_of_ble_eq_true rfl⟩ ⟨hc1, hs1⟩ rfl rfl [33, 34, 35, 36, 37, 38, 39, 40, 41, 42, 43, 44, 45, 46, 47, 48, 49, 50, 51, 52, 53, 54, 55, 56, 57, 58] [0, 1, 2, 3, 4, 5, 6, 7, 8, 9, 10, 11, 12, 13, 14, 15, 16, 17, 18, 19, 20, 21, 22, 23, 24, 25, 26, 27, 28, 29, 30, 31, 32] (wL_m cI cL cZ qo f adC σ' adM τ') (wL_mf cI cL cZ qo f adC σ' adM τ') (by decide) (wL_h cI cL cZ qo f adC σ' adM τ') (by decide) (by decide) rfl rfl rfl (Nat.le_of_ble_eq_true rfl) d_La_law_470 ?_
    refine gw_eq (ws' := (wL cI cL cZ qo f adC σ' adM τ')) rfl rfl ?_
    refine gw_iload C d_La_law_473 1 rfl ?_
    refine gw_icmp_eq (tgt := 480) C d_La_law_475 (by decide) (fun _ => ?_) (fun h => absurd rfl h)
    refine gw_iload C d_La_law_480 1 rfl ?_
    refine gw_if_ne (tgt := 497) C d_La_law_482 (by decide) (fun _ => ?_) (fun h => absurd h (by decide))
    refine gw_goto (tgt := 1144) C d_La_law_497 (by decide) ?_
    refine gw_less [2, 3, 4, 5, 6] rfl ?_
    exact kk _ _ _ hrel'
set_option maxRecDepth 100000 in
set_option maxHeartbeats 4000000 in
theorem law_lacks {Rel : Nat → St → St → Prop} (S : LawSim Rel) {p : Program} {l : Launch} {e : Env} {s : State} {m : MethodId} {below : List Frame} {meth : Method} {c : Code} {D : va_G} {A : Nat → Prop} {Q : State → Prop} {cI cL cZ : ClassId} {b L : Nat} {xs : Nat → Int32} (CT : gw_CT l p s m #[Value.ref b] meth c code 7 R_La D gw_cl (gw_ty cI cL cZ) A) (hN : gw_Nc s) (hX : va_X b L xs s s.heap) (hbl : b < s.heap.size) (hbA : ¬ A b) {qo : Nat} {f : Nat → Int64} {adC adM : Nat → Nat} {σ τ : St} {n cells slots : Nat} (hn : n < 512) (hrel : Rel n σ τ) (hc1 : cells + 1 ≤ room_1.cells) (hs1 : slots + 6 ≤ room_1.slots) {x4 v1 v2 v3 : Int32} (h_1 : vp_in (x4 + 1) L) (h_2 : vp_in (x4 + 2) L) (h_3 : vp_in (x4 + 3) L) (e_1 : xs (x4 + 1).toNatClampNeg = v1) (e_2 : xs (x4 + 2).toNatClampNeg = v2) (e_3 : xs (x4 + 3).toNatClampNeg = v3)
    (kk : ∀ (f' : Nat → Int64) (σ' τ' : St), Rel (n + 1) σ' τ' → gw_W p l e room_1 s m #[Value.ref b] below meth c D gw_cl A Q (cells + 1) (slots + 6) 7 (wL cI cL cZ qo f' adC σ' adM τ') [(0, .ref b), (1, .ref (adC 0)), (2, .ref (adM 0)), (3, .ref qo), (4, .int x4)] 1144 []) : gw_W p l e room_1 s m #[Value.ref b] below meth c D gw_cl A Q cells slots 7 (wL cI cL cZ qo f adC σ adM τ) [(0, .ref b), (1, .ref (adC 0)), (2, .ref (adM 0)), (3, .ref qo), (4, .int x4)] 500 [] := by
  have C := CT.1
  refine gw_aload_n C d_La_law_500 rfl 1 rfl ?_
  refine gw_aload_n C d_La_law_501 rfl 0 rfl ?_
  refine gw_iload C d_La_law_502 4 rfl ?_
  refine gw_iconst (v := 1) C d_La_law_504 (by decide) ?_
  refine gw_iadd C d_La_law_505 ?_
  refine gw_sld (v := v1) C hX hbl hbA h_1 e_1 d_La_law_506 ?_
  refine gw_aload_n C d_La_law_507 rfl 3 rfl ?_
  obtain ⟨k, r, σ', bv, τ', th, h1, h2, h3, hrel', hcs⟩ := S.2.2.2.2.2.2.1 n σ τ v1 hn hrel
  rcases hcs with ⟨rfl, rfl, rfl⟩ | ⟨rfl, rfl⟩
  · refine gw_callSH (n := 3) (As := [.ref (adC 0), .int v1, .ref qo]) (st := []) CT hN (h_La_lacks_0 l CT.2.2.2 D cI cL cZ adC qo f h1) tbW_460 tb_458 tb_459 tbI_La (by decide +kernel) ⟨Nat.le_of_ble_eq_true rfl, Nat.le_of_ble_eq_true rfl⟩ ⟨hc1, hs1⟩ [0, 1, 2, 3, 4, 5, 6, 7, 8, 9, 10, 11, 12, 13, 14, 15, 16, 17, 18, 19, 20, 21, 22, 23, 24, 25, 26, 27, 28, 29, 30, 31, 32] [33, 34, 35, 36, 37, 38, 39, 40, 41, 42, 43, 44, 45, 46, 47, 48, 49, 50, 51, 52, 53, 54, 55, 56, 57, 58] (wL_h cI cL cZ qo f adC σ adM τ) (wL_hf cI cL cZ qo f adC σ adM τ) (by decide) (wL_m cI cL cZ qo f adC σ adM τ) (by decide) (by decide) rfl (Nat.le_of_ble_eq_true rfl) d_La_law_508 ?_
    refine gw_widen (cells' := cells + 1) (slots' := slots + 6) (Nat.add_le_add_left (by decide) _) (Nat.add_le_add_left (by decide) _) ?_
    refine gw_perm [26, 27, 28, 29, 30, 31, 32, 33, 34, 35, 36, 37, 38, 39, 40, 41, 42, 43, 44, 45, 46, 47, 48, 49, 50, 51, 52, 53, 54, 55, 56, 57, 58, 0, 1, 2, 3, 4, 5, 6, 7, 8, 9, 10, 11, 12, 13, 14, 15, 16, 17, 18, 19, 20, 21, 22, 23, 24, 25] (wL_ph cI cL cZ qo (vp_updL f (0 : Int32).toNatClampNeg r.toInt64) adC σ' adM τ) (wL_phm cI cL cZ qo (vp_updL f (0 : Int32).toNatClampNeg r.toInt64) adC σ' adM τ) (by decide) ?_
    refine gw_istore (lv' := [(5, .int 0), (0, .ref b), (1, .ref (adC 0)), (2, .ref (adM 0)), (3, .ref qo), (4, .int x4)]) C d_La_law_511 (by decide) rfl ?_
    refine gw_aload_n C d_La_law_513 rfl 3 rfl ?_
    refine gw_aload_n C d_La_law_514 rfl 1 rfl ?_
    refine gw_iload C d_La_law_515 5 rfl ?_
    refine gw_iconst (v := 1) C d_La_law_517 (by decide) ?_
    refine gw_iadd C d_La_law_518 ?_
    refine gw_sld (v := v1) C hX hbl hbA h_1 e_1 d_La_law_519 ?_
    refine gw_callVF (T := T_Mo) (N := 48) (n := 1) (q0 := 0) (As := [.int v1]) (st := []) C (c_Mo_lacks l D cI cL cZ adM h2) tb_1062 tb_1059 tb_1060 tb_1061 tb_8 (by decide +kernel) ⟨Nat.le_of_ble_eq_true rfl, Nat.le_of_ble_eq_true rfl⟩ ⟨hc1, hs1⟩ rfl rfl [33, 34, 35, 36, 37, 38, 39, 40, 41, 42, 43, 44, 45, 46, 47, 48, 49, 50, 51, 52, 53, 54, 55, 56, 57, 58] [0, 1, 2, 3, 4, 5, 6, 7, 8, 9, 10, 11, 12, 13, 14, 15, 16, 17, 18, 19, 20, 21, 22, 23, 24, 25, 26, 27, 28, 29, 30, 31, 32] (wL_m cI cL cZ qo (vp_updL f (0 : Int32).toNatClampNeg r.toInt64) adC σ' adM τ) (wL_mf cI cL cZ qo (vp_updL f (0 : Int32).toNatClampNeg r.toInt64) adC σ' adM τ) (by decide) (wL_h cI cL cZ qo (vp_updL f (0 : Int32).toNatClampNeg r.toInt64) adC σ' adM τ) (by decide) (by decide) rfl rfl rfl (Nat.le_of_ble_eq_true rfl) d_La_law_520 ?_
    refine gw_eq (ws' := (wL cI cL cZ qo (vp_updL f (0 : Int32).toNatClampNeg r.toInt64) adC σ' adM τ')) rfl rfl ?_
    refine gw_istore (lv' := [(6, .int r), (5, .int 0), (0, .ref b), (1, .ref (adC 0)), (2, .ref (adM 0)), (3, .ref qo), (4, .int x4)]) C d_La_law_523 (by decide) rfl ?_
    refine gw_aload_n C d_La_law_525 rfl 4 rfl ?_
    refine gw_callVF (T := T_Mo) (N := 48) (n := 0) (q0 := 0) (As := []) (st := []) C (c_Mo_thrown l D cI cL cZ adM h3) tb_1020 tb_1017 tb_1018 tb_1019 tb_8 (by decide +kernel) ⟨Nat.le_of_ble_eq_true rfl, Nat.le_of_ble_eq_true rfl⟩ ⟨hc1, hs1⟩ rfl rfl [33, 34, 35, 36, 37, 38, 39, 40, 41, 42, 43, 44, 45, 46, 47, 48, 49, 50, 51, 52, 53, 54, 55, 56, 57, 58] [0, 1, 2, 3, 4, 5, 6, 7, 8, 9, 10, 11, 12, 13, 14, 15, 16, 17, 18, 19, 20, 21, 22, 23, 24, 25, 26, 27, 28, 29, 30, 31, 32] (wL_m cI cL cZ qo (vp_updL f (0 : Int32).toNatClampNeg r.toInt64) adC σ' adM τ') (wL_mf cI cL cZ qo (vp_updL f (0 : Int32).toNatClampNeg r.toInt64) adC σ' adM τ') (by decide) (wL_h cI cL cZ qo (vp_updL f (0 : Int32).toNatClampNeg r.toInt64) adC σ' adM τ') (by decide) (by decide) rfl rfl rfl (Nat.le_of_ble_eq_true rfl) d_La_law_526 ?_
    refine gw_eq (ws' := (wL cI cL cZ qo (vp_updL f (0 : Int32).toNatClampNeg r.toInt64) adC σ' adM τ')) rfl rfl ?_
    refine gw_iload C d_La_law_529 1 rfl ?_
    refine gw_icmp_eq (tgt := 536) C d_La_law_531 (by decide) (fun _ => ?_) (fun h => absurd rfl h)
    refine gw_iload C d_La_law_536 1 rfl ?_
    refine gw_if_ne (tgt := 553) C d_La_law_538 (by decide) (fun h => absurd rfl h) (fun _ => ?_)
    refine gw_aload_n C d_La_law_541 rfl 5 rfl ?_
    refine gw_iconst (v := 0) C d_La_law_542 (by decide) ?_
    refine gw_lald C 0 1 rfl rfl (vp_in_nI (n := 0) (N := 1) (by decide) (by decide)) d_La_law_543 ?_
    refine gw_iload C d_La_law_544 0 rfl ?_
    refine gw_i2l C d_La_law_546 ?_
    refine gw_lcmp C d_La_law_547 ?_
    refine gw_if_eq (tgt := 553) C d_La_law_548 (by decide) (fun _ => ?_) (fun h => absurd (gw_lc _ _ _) h)
    refine gw_goto (tgt := 1144) C d_La_law_553 (by decide) ?_
    refine gw_less [2, 3, 4, 5, 6] rfl ?_
    exact kk _ _ _ hrel'
  · refine gw_callSH (n := 3) (As := [.ref (adC 0), .int v1, .ref qo]) (st := []) CT hN (h_La_lacks_1 l CT.2.2.2 D cI cL cZ adC qo f h1) tbW_460 tb_458 tb_459 tbI_La (by decide +kernel) ⟨Nat.le_of_ble_eq_true rfl, Nat.le_of_ble_eq_true rfl⟩ ⟨hc1, hs1⟩ [0, 1, 2, 3, 4, 5, 6, 7, 8, 9, 10, 11, 12, 13, 14, 15, 16, 17, 18, 19, 20, 21, 22, 23, 24, 25, 26, 27, 28, 29, 30, 31, 32] [33, 34, 35, 36, 37, 38, 39, 40, 41, 42, 43, 44, 45, 46, 47, 48, 49, 50, 51, 52, 53, 54, 55, 56, 57, 58] (wL_h cI cL cZ qo f adC σ adM τ) (wL_hf cI cL cZ qo f adC σ adM τ) (by decide) (wL_m cI cL cZ qo f adC σ adM τ) (by decide) (by decide) rfl (Nat.le_of_ble_eq_true rfl) d_La_law_508 ?_
    refine gw_widen (cells' := cells + 1) (slots' := slots + 6) (Nat.add_le_add_left (by decide) _) (Nat.add_le_add_left (by decide) _) ?_
    refine gw_perm [26, 27, 28, 29, 30, 31, 32, 33, 34, 35, 36, 37, 38, 39, 40, 41, 42, 43, 44, 45, 46, 47, 48, 49, 50, 51, 52, 53, 54, 55, 56, 57, 58, 0, 1, 2, 3, 4, 5, 6, 7, 8, 9, 10, 11, 12, 13, 14, 15, 16, 17, 18, 19, 20, 21, 22, 23, 24, 25] (wL_ph cI cL cZ qo f adC σ' adM τ) (wL_phm cI cL cZ qo f adC σ' adM τ) (by decide) ?_
    refine gw_istore (lv' := [(5, .int 1), (0, .ref b), (1, .ref (adC 0)), (2, .ref (adM 0)), (3, .ref qo), (4, .int x4)]) C d_La_law_511 (by decide) rfl ?_
    refine gw_aload_n C d_La_law_513 rfl 3 rfl ?_
    refine gw_aload_n C d_La_law_514 rfl 1 rfl ?_
    refine gw_iload C d_La_law_515 5 rfl ?_
    refine gw_iconst (v := 1) C d_La_law_517 (by decide) ?_
    refine gw_iadd C d_La_law_518 ?_
    refine gw_sld (v := v1) C hX hbl hbA h_1 e_1 d_La_law_519 ?_
    refine gw_callVF (T := T_Mo) (N := 48) (n := 1) (q0 := 0) (As := [.int v1]) (st := []) C (c_Mo_lacks l D cI cL cZ adM h2) tb_1062 tb_1059 tb_1060 tb_1061 tb_8 (by decide +kernel) ⟨Nat.le_of_ble_eq_true rfl, Nat.le_of_ble_eq_true rfl⟩ ⟨hc1, hs1⟩ rfl rfl [33, 34, 35, 36, 37, 38, 39, 40, 41, 42, 43, 44, 45, 46, 47, 48, 49, 50, 51, 52, 53, 54, 55, 56, 57, 58] [0, 1, 2, 3, 4, 5, 6, 7, 8, 9, 10, 11, 12, 13, 14, 15, 16, 17, 18, 19, 20, 21, 22, 23, 24, 25, 26, 27, 28, 29, 30, 31, 32] (wL_m cI cL cZ qo f adC σ' adM τ) (wL_mf cI cL cZ qo f adC σ' adM τ) (by decide) (wL_h cI cL cZ qo f adC σ' adM τ) (by decide) (by decide) rfl rfl rfl (Nat.le_of_ble_eq_true rfl) d_La_law_520 ?_
    refine gw_eq (ws' := (wL cI cL cZ qo f adC σ' adM τ')) rfl rfl ?_
    refine gw_istore (lv' := [(6, .int bv), (5, .int 1), (0, .ref b), (1, .ref (adC 0)), (2, .ref (adM 0)), (3, .ref qo), (4, .int x4)]) C d_La_law_523 (by decide) rfl ?_
    refine gw_aload_n C d_La_law_525 rfl 4 rfl ?_
    refine gw_callVF (T := T_Mo) (N := 48) (n := 0) (q0 := 0) (As := []) (st := []) C (c_Mo_thrown l D cI cL cZ adM h3) tb_1020 tb_1017 tb_1018 tb_1019 tb_8 (by decide +kernel) ⟨Nat.le_of_ble_eq_true rfl, Nat.le_of_ble_eq_true rfl⟩ ⟨hc1, hs1⟩ rfl rfl [33, 34, 35, 36, 37, 38, 39, 40, 41, 42, 43, 44, 45, 46, 47, 48, 49, 50, 51, 52, 53, 54, 55, 56, 57, 58] [0, 1, 2, 3, 4, 5, 6, 7, 8, 9, 10, 11, 12, 13, 14, 15, 16, 17, 18, 19, 20, 21, 22, 23, 24, 25, 26, 27, 28, 29, 30, 31, 32] (wL_m cI cL cZ qo f adC σ' adM τ') (wL_mf cI cL cZ qo f adC σ' adM τ') (by decide) (wL_h cI cL cZ qo f adC σ' adM τ') (by decide) (by decide) rfl rfl rfl (Nat.le_of_ble_eq_true rfl) d_La_law_526 ?_
    refine gw_eq (ws' := (wL cI cL cZ qo f adC σ' adM τ')) rfl rfl ?_
    refine gw_iload C d_La_law_529 1 rfl ?_
    refine gw_icmp_eq (tgt := 536) C d_La_law_531 (by decide) (fun _ => ?_) (fun h => absurd rfl h)
    refine gw_iload C d_La_law_536 1 rfl ?_
    refine gw_if_ne (tgt := 553) C d_La_law_538 (by decide) (fun _ => ?_) (fun h => absurd h (by decide))
    refine gw_goto (tgt := 1144) C d_La_law_553 (by decide) ?_
    refine gw_less [2, 3, 4, 5, 6] rfl ?_
    exact kk _ _ _ hrel'
set_option maxRecDepth 100000 in
set_option maxHeartbeats 4000000 in
theorem law_begin {Rel : Nat → St → St → Prop} (S : LawSim Rel) {p : Program} {l : Launch} {e : Env} {s : State} {m : MethodId} {below : List Frame} {meth : Method} {c : Code} {D : va_G} {A : Nat → Prop} {Q : State → Prop} {cI cL cZ : ClassId} {b L : Nat} {xs : Nat → Int32} (CT : gw_CT l p s m #[Value.ref b] meth c code 7 R_La D gw_cl (gw_ty cI cL cZ) A) (hN : gw_Nc s) (hX : va_X b L xs s s.heap) (hbl : b < s.heap.size) (hbA : ¬ A b) {qo : Nat} {f : Nat → Int64} {adC adM : Nat → Nat} {σ τ : St} {n cells slots : Nat} (hn : n < 512) (hrel : Rel n σ τ) (hc1 : cells + 1 ≤ room_1.cells) (hs1 : slots + 6 ≤ room_1.slots) {x4 v1 v2 v3 : Int32} (h_1 : vp_in (x4 + 1) L) (h_2 : vp_in (x4 + 2) L) (h_3 : vp_in (x4 + 3) L) (e_1 : xs (x4 + 1).toNatClampNeg = v1) (e_2 : xs (x4 + 2).toNatClampNeg = v2) (e_3 : xs (x4 + 3).toNatClampNeg = v3)
    (kk : ∀ (f' : Nat → Int64) (σ' τ' : St), Rel (n + 1) σ' τ' → gw_W p l e room_1 s m #[Value.ref b] below meth c D gw_cl A Q (cells + 1) (slots + 6) 7 (wL cI cL cZ qo f' adC σ' adM τ') [(0, .ref b), (1, .ref (adC 0)), (2, .ref (adM 0)), (3, .ref qo), (4, .int x4)] 1144 []) : gw_W p l e room_1 s m #[Value.ref b] below meth c D gw_cl A Q cells slots 7 (wL cI cL cZ qo f adC σ adM τ) [(0, .ref b), (1, .ref (adC 0)), (2, .ref (adM 0)), (3, .ref qo), (4, .int x4)] 556 [] := by
  have C := CT.1
  by_cases hz : v2 = 0
  · refine gw_aload_n C d_La_law_556 rfl 1 rfl ?_
    refine gw_aload_n C d_La_law_557 rfl 0 rfl ?_
    refine gw_iload C d_La_law_558 4 rfl ?_
    refine gw_iconst (v := 1) C d_La_law_560 (by decide) ?_
    refine gw_iadd C d_La_law_561 ?_
    refine gw_sld (v := v1) C hX hbl hbA h_1 e_1 d_La_law_562 ?_
    refine gw_aload_n C d_La_law_563 rfl 0 rfl ?_
    refine gw_iload C d_La_law_564 4 rfl ?_
    refine gw_iconst (v := 2) C d_La_law_566 (by decide) ?_
    refine gw_iadd C d_La_law_567 ?_
    refine gw_sld (v := v2) C hX hbl hbA h_2 e_2 d_La_law_568 ?_
    refine gw_if_eq (tgt := 576) C d_La_law_569 (by decide) (fun _ => ?_) (fun h => absurd hz h)
    refine gw_iconst (v := 0) C d_La_law_576 (by decide) ?_
    obtain ⟨k, r, σ', τ', th, h1, h2, h3, hrel', hcs⟩ := S.2.2.2.2.2.2.2.1 n σ τ v1 0 hn hrel (Or.inl rfl)
    rcases hcs with ⟨rfl, rfl⟩ | ⟨rfl, rfl⟩ | ⟨rfl, rfl⟩
    · refine gw_callSH (n := 3) (As := [.ref (adC 0), .int v1, .int 0]) (st := []) CT hN (h_La_begin_0 l CT.2.2.2 D cI cL cZ adC h1) tbW_468 tb_466 tb_467 tbI_La (by decide +kernel) ⟨Nat.le_of_ble_eq_true rfl, Nat.le_of_ble_eq_true rfl⟩ ⟨hc1, hs1⟩ [1, 2, 3, 4, 5, 6, 7, 8, 9, 10, 11, 12, 13, 14, 15, 16, 17, 18, 19, 20, 21, 22, 23, 24, 25, 26, 27, 28, 29, 30, 31, 32] [0, 33, 34, 35, 36, 37, 38, 39, 40, 41, 42, 43, 44, 45, 46, 47, 48, 49, 50, 51, 52, 53, 54, 55, 56, 57, 58] (wL_c cI cL cZ qo f adC σ adM τ) (wL_cf cI cL cZ qo f adC σ adM τ) (by decide) (wL_r cI cL cZ qo f adC σ adM τ) (by decide) (by decide) rfl (Nat.le_of_ble_eq_true rfl) d_La_law_577 ?_
      refine gw_widen (cells' := cells + 1) (slots' := slots + 6) (Nat.add_le_add_left (by decide) _) (Nat.add_le_add_left (by decide) _) ?_
      refine gw_perm [0, 27, 28, 29, 30, 31, 32, 33, 34, 35, 36, 37, 38, 39, 40, 41, 42, 43, 44, 45, 46, 47, 48, 49, 50, 51, 52, 53, 54, 55, 56, 57, 58, 1, 2, 3, 4, 5, 6, 7, 8, 9, 10, 11, 12, 13, 14, 15, 16, 17, 18, 19, 20, 21, 22, 23, 24, 25, 26] (wL_pc cI cL cZ qo f adC σ' adM τ) (wL_pcm cI cL cZ qo f adC σ' adM τ) (by decide) ?_
      refine gw_istore (lv' := [(5, .int 0), (0, .ref b), (1, .ref (adC 0)), (2, .ref (adM 0)), (3, .ref qo), (4, .int x4)]) C d_La_law_580 (by decide) rfl ?_
      refine gw_aload_n C d_La_law_582 rfl 3 rfl ?_
      refine gw_aload_n C d_La_law_583 rfl 1 rfl ?_
      refine gw_iload C d_La_law_584 5 rfl ?_
      refine gw_iconst (v := 1) C d_La_law_586 (by decide) ?_
      refine gw_iadd C d_La_law_587 ?_
      refine gw_sld (v := v1) C hX hbl hbA h_1 e_1 d_La_law_588 ?_
      refine gw_aload_n C d_La_law_589 rfl 1 rfl ?_
      refine gw_iload C d_La_law_590 5 rfl ?_
      refine gw_iconst (v := 2) C d_La_law_592 (by decide) ?_
      refine gw_iadd C d_La_law_593 ?_
      refine gw_sld (v := v2) C hX hbl hbA h_2 e_2 d_La_law_594 ?_
      refine gw_if_eq (tgt := 602) C d_La_law_595 (by decide) (fun _ => ?_) (fun h => absurd hz h)
      refine gw_iconst (v := 0) C d_La_law_602 (by decide) ?_
      refine gw_callVF (T := T_Mo) (N := 48) (n := 2) (q0 := 0) (As := [.int v1, .int 0]) (st := []) C (c_Mo_begin l D cI cL cZ adM h2) tb_1066 tb_1063 tb_1064 tb_1065 tb_8 (by decide +kernel) ⟨Nat.le_of_ble_eq_true rfl, Nat.le_of_ble_eq_true rfl⟩ ⟨hc1, hs1⟩ rfl rfl [33, 34, 35, 36, 37, 38, 39, 40, 41, 42, 43, 44, 45, 46, 47, 48, 49, 50, 51, 52, 53, 54, 55, 56, 57, 58] [0, 1, 2, 3, 4, 5, 6, 7, 8, 9, 10, 11, 12, 13, 14, 15, 16, 17, 18, 19, 20, 21, 22, 23, 24, 25, 26, 27, 28, 29, 30, 31, 32] (wL_m cI cL cZ qo f adC σ' adM τ) (wL_mf cI cL cZ qo f adC σ' adM τ) (by decide) (wL_h cI cL cZ qo f adC σ' adM τ) (by decide) (by decide) rfl rfl rfl (Nat.le_of_ble_eq_true rfl) d_La_law_603 ?_
      refine gw_eq (ws' := (wL cI cL cZ qo f adC σ' adM τ')) rfl rfl ?_
      refine gw_aload_n C d_La_law_606 rfl 3 rfl ?_
      refine gw_callVF (T := T_Mo) (N := 48) (n := 0) (q0 := 0) (As := []) (st := []) C (c_Mo_thrown l D cI cL cZ adM h3) tb_1020 tb_1017 tb_1018 tb_1019 tb_8 (by decide +kernel) ⟨Nat.le_of_ble_eq_true rfl, Nat.le_of_ble_eq_true rfl⟩ ⟨hc1, hs1⟩ rfl rfl [33, 34, 35, 36, 37, 38, 39, 40, 41, 42, 43, 44, 45, 46, 47, 48, 49, 50, 51, 52, 53, 54, 55, 56, 57, 58] [0, 1, 2, 3, 4, 5, 6, 7, 8, 9, 10, 11, 12, 13, 14, 15, 16, 17, 18, 19, 20, 21, 22, 23, 24, 25, 26, 27, 28, 29, 30, 31, 32] (wL_m cI cL cZ qo f adC σ' adM τ') (wL_mf cI cL cZ qo f adC σ' adM τ') (by decide) (wL_h cI cL cZ qo f adC σ' adM τ') (by decide) (by decide) rfl rfl rfl (Nat.le_of_ble_eq_true rfl) d_La_law_607 ?_
      refine gw_eq (ws' := (wL cI cL cZ qo f adC σ' adM τ')) rfl rfl ?_
      refine gw_iload C d_La_law_610 0 rfl ?_
      refine gw_icmp_eq (tgt := 617) C d_La_law_612 (by decide) (fun _ => ?_) (fun h => absurd rfl h)
      refine gw_goto (tgt := 1144) C d_La_law_617 (by decide) ?_
      refine gw_less [1, 2, 3, 4, 5] rfl ?_
      exact kk _ _ _ hrel'
    · refine gw_callSH (n := 3) (As := [.ref (adC 0), .int v1, .int 0]) (st := []) CT hN (h_La_begin_1 l CT.2.2.2 D cI cL cZ adC h1) tbW_468 tb_466 tb_467 tbI_La (by decide +kernel) ⟨Nat.le_of_ble_eq_true rfl, Nat.le_of_ble_eq_true rfl⟩ ⟨hc1, hs1⟩ [1, 2, 3, 4, 5, 6, 7, 8, 9, 10, 11, 12, 13, 14, 15, 16, 17, 18, 19, 20, 21, 22, 23, 24, 25, 26, 27, 28, 29, 30, 31, 32] [0, 33, 34, 35, 36, 37, 38, 39, 40, 41, 42, 43, 44, 45, 46, 47, 48, 49, 50, 51, 52, 53, 54, 55, 56, 57, 58] (wL_c cI cL cZ qo f adC σ adM τ) (wL_cf cI cL cZ qo f adC σ adM τ) (by decide) (wL_r cI cL cZ qo f adC σ adM τ) (by decide) (by decide) rfl (Nat.le_of_ble_eq_true rfl) d_La_law_577 ?_
      refine gw_widen (cells' := cells + 1) (slots' := slots + 6) (Nat.add_le_add_left (by decide) _) (Nat.add_le_add_left (by decide) _) ?_
      refine gw_perm [0, 27, 28, 29, 30, 31, 32, 33, 34, 35, 36, 37, 38, 39, 40, 41, 42, 43, 44, 45, 46, 47, 48, 49, 50, 51, 52, 53, 54, 55, 56, 57, 58, 1, 2, 3, 4, 5, 6, 7, 8, 9, 10, 11, 12, 13, 14, 15, 16, 17, 18, 19, 20, 21, 22, 23, 24, 25, 26] (wL_pc cI cL cZ qo f adC σ' adM τ) (wL_pcm cI cL cZ qo f adC σ' adM τ) (by decide) ?_
      refine gw_istore (lv' := [(5, .int 1), (0, .ref b), (1, .ref (adC 0)), (2, .ref (adM 0)), (3, .ref qo), (4, .int x4)]) C d_La_law_580 (by decide) rfl ?_
      refine gw_aload_n C d_La_law_582 rfl 3 rfl ?_
      refine gw_aload_n C d_La_law_583 rfl 1 rfl ?_
      refine gw_iload C d_La_law_584 5 rfl ?_
      refine gw_iconst (v := 1) C d_La_law_586 (by decide) ?_
      refine gw_iadd C d_La_law_587 ?_
      refine gw_sld (v := v1) C hX hbl hbA h_1 e_1 d_La_law_588 ?_
      refine gw_aload_n C d_La_law_589 rfl 1 rfl ?_
      refine gw_iload C d_La_law_590 5 rfl ?_
      refine gw_iconst (v := 2) C d_La_law_592 (by decide) ?_
      refine gw_iadd C d_La_law_593 ?_
      refine gw_sld (v := v2) C hX hbl hbA h_2 e_2 d_La_law_594 ?_
      refine gw_if_eq (tgt := 602) C d_La_law_595 (by decide) (fun _ => ?_) (fun h => absurd hz h)
      refine gw_iconst (v := 0) C d_La_law_602 (by decide) ?_
      refine gw_callVF (T := T_Mo) (N := 48) (n := 2) (q0 := 0) (As := [.int v1, .int 0]) (st := []) C (c_Mo_begin l D cI cL cZ adM h2) tb_1066 tb_1063 tb_1064 tb_1065 tb_8 (by decide +kernel) ⟨Nat.le_of_ble_eq_true rfl, Nat.le_of_ble_eq_true rfl⟩ ⟨hc1, hs1⟩ rfl rfl [33, 34, 35, 36, 37, 38, 39, 40, 41, 42, 43, 44, 45, 46, 47, 48, 49, 50, 51, 52, 53, 54, 55, 56, 57, 58] [0, 1, 2, 3, 4, 5, 6, 7, 8, 9, 10, 11, 12, 13, 14, 15, 16, 17, 18, 19, 20, 21, 22, 23, 24, 25, 26, 27, 28, 29, 30, 31, 32] (wL_m cI cL cZ qo f adC σ' adM τ) (wL_mf cI cL cZ qo f adC σ' adM τ) (by decide) (wL_h cI cL cZ qo f adC σ' adM τ) (by decide) (by decide) rfl rfl rfl (Nat.le_of_ble_eq_true rfl) d_La_law_603 ?_
      refine gw_eq (ws' := (wL cI cL cZ qo f adC σ' adM τ')) rfl rfl ?_
      refine gw_aload_n C d_La_law_606 rfl 3 rfl ?_
      refine gw_callVF (T := T_Mo) (N := 48) (n := 0) (q0 := 0) (As := []) (st := []) C (c_Mo_thrown l D cI cL cZ adM h3) tb_1020 tb_1017 tb_1018 tb_1019 tb_8 (by decide +kernel) ⟨Nat.le_of_ble_eq_true rfl, Nat.le_of_ble_eq_true rfl⟩ ⟨hc1, hs1⟩ rfl rfl [33, 34, 35, 36, 37, 38, 39, 40, 41, 42, 43, 44, 45, 46, 47, 48, 49, 50, 51, 52, 53, 54, 55, 56, 57, 58] [0, 1, 2, 3, 4, 5, 6, 7, 8, 9, 10, 11, 12, 13, 14, 15, 16, 17, 18, 19, 20, 21, 22, 23, 24, 25, 26, 27, 28, 29, 30, 31, 32] (wL_m cI cL cZ qo f adC σ' adM τ') (wL_mf cI cL cZ qo f adC σ' adM τ') (by decide) (wL_h cI cL cZ qo f adC σ' adM τ') (by decide) (by decide) rfl rfl rfl (Nat.le_of_ble_eq_true rfl) d_La_law_607 ?_
      refine gw_eq (ws' := (wL cI cL cZ qo f adC σ' adM τ')) rfl rfl ?_
      refine gw_iload C d_La_law_610 0 rfl ?_
      refine gw_icmp_eq (tgt := 617) C d_La_law_612 (by decide) (fun _ => ?_) (fun h => absurd rfl h)
      refine gw_goto (tgt := 1144) C d_La_law_617 (by decide) ?_
      refine gw_less [1, 2, 3, 4, 5] rfl ?_
      exact kk _ _ _ hrel'
    · refine gw_callSH (n := 3) (As := [.ref (adC 0), .int v1, .int 0]) (st := []) CT hN (h_La_begin_2 l CT.2.2.2 D cI cL cZ adC h1) tbW_468 tb_466 tb_467 tbI_La (by decide +kernel) ⟨Nat.le_of_ble_eq_true rfl, Nat.le_of_ble_eq_true rfl⟩ ⟨hc1, hs1⟩ [1, 2, 3, 4, 5, 6, 7, 8, 9, 10, 11, 12, 13, 14, 15, 16, 17, 18, 19, 20, 21, 22, 23, 24, 25, 26, 27, 28, 29, 30, 31, 32] [0, 33, 34, 35, 36, 37, 38, 39, 40, 41, 42, 43, 44, 45, 46, 47, 48, 49, 50, 51, 52, 53, 54, 55, 56, 57, 58] (wL_c cI cL cZ qo f adC σ adM τ) (wL_cf cI cL cZ qo f adC σ adM τ) (by decide) (wL_r cI cL cZ qo f adC σ adM τ) (by decide) (by decide) rfl (Nat.le_of_ble_eq_true rfl) d_La_law_577 ?_
      refine gw_widen (cells' := cells + 1) (slots' := slots + 6) (Nat.add_le_add_left (by decide) _) (Nat.add_le_add_left (by decide) _) ?_
      refine gw_perm [0, 27, 28, 29, 30, 31, 32, 33, 34, 35, 36, 37, 38, 39, 40, 41, 42, 43, 44, 45, 46, 47, 48, 49, 50, 51, 52, 53, 54, 55, 56, 57, 58, 1, 2, 3, 4, 5, 6, 7, 8, 9, 10, 11, 12, 13, 14, 15, 16, 17, 18, 19, 20, 21, 22, 23, 24, 25, 26] (wL_pc cI cL cZ qo f adC σ' adM τ) (wL_pcm cI cL cZ qo f adC σ' adM τ) (by decide) ?_
      refine gw_istore (lv' := [(5, .int 2), (0, .ref b), (1, .ref (adC 0)), (2, .ref (adM 0)), (3, .ref qo), (4, .int x4)]) C d_La_law_580 (by decide) rfl ?_
      refine gw_aload_n C d_La_law_582 rfl 3 rfl ?_
      refine gw_aload_n C d_La_law_583 rfl 1 rfl ?_
      refine gw_iload C d_La_law_584 5 rfl ?_
      refine gw_iconst (v := 1) C d_La_law_586 (by decide) ?_
      refine gw_iadd C d_La_law_587 ?_
      refine gw_sld (v := v1) C hX hbl hbA h_1 e_1 d_La_law_588 ?_
      refine gw_aload_n C d_La_law_589 rfl 1 rfl ?_
      refine gw_iload C d_La_law_590 5 rfl ?_
      refine gw_iconst (v := 2) C d_La_law_592 (by decide) ?_
      refine gw_iadd C d_La_law_593 ?_
      refine gw_sld (v := v2) C hX hbl hbA h_2 e_2 d_La_law_594 ?_
      refine gw_if_eq (tgt := 602) C d_La_law_595 (by decide) (fun _ => ?_) (fun h => absurd hz h)
      refine gw_iconst (v := 0) C d_La_law_602 (by decide) ?_
      refine gw_callVF (T := T_Mo) (N := 48) (n := 2) (q0 := 0) (As := [.int v1, .int 0]) (st := []) C (c_Mo_begin l D cI cL cZ adM h2) tb_1066 tb_1063 tb_1064 tb_1065 tb_8 (by decide +kernel) ⟨Nat.le_of_ble_eq_true rfl, Nat.le_of_ble_eq_true rfl⟩ ⟨hc1, hs1⟩ rfl rfl [33, 34, 35, 36, 37, 38, 39, 40, 41, 42, 43, 44, 45, 46, 47, 48, 49, 50, 51, 52, 53, 54, 55, 56, 57, 58] [0, 1, 2, 3, 4, 5, 6, 7, 8, 9, 10, 11, 12, 13, 14, 15, 16, 17, 18, 19, 20, 21, 22, 23, 24, 25, 26, 27, 28, 29, 30, 31, 32] (wL_m cI cL cZ qo f adC σ' adM τ) (wL_mf cI cL cZ qo f adC σ' adM τ) (by decide) (wL_h cI cL cZ qo f adC σ' adM τ) (by decide) (by decide) rfl rfl rfl (Nat.le_of_ble_eq_true rfl) d_La_law_603 ?_
      refine gw_eq (ws' := (wL cI cL cZ qo f adC σ' adM τ')) rfl rfl ?_
      refine gw_aload_n C d_La_law_606 rfl 3 rfl ?_
      refine gw_callVF (T := T_Mo) (N := 48) (n := 0) (q0 := 0) (As := []) (st := []) C (c_Mo_thrown l D cI cL cZ adM h3) tb_1020 tb_1017 tb_1018 tb_1019 tb_8 (by decide +kernel) ⟨Nat.le_of_ble_eq_true rfl, Nat.le_of_ble_eq_true rfl⟩ ⟨hc1, hs1⟩ rfl rfl [33, 34, 35, 36, 37, 38, 39, 40, 41, 42, 43, 44, 45, 46, 47, 48, 49, 50, 51, 52, 53, 54, 55, 56, 57, 58] [0, 1, 2, 3, 4, 5, 6, 7, 8, 9, 10, 11, 12, 13, 14, 15, 16, 17, 18, 19, 20, 21, 22, 23, 24, 25, 26, 27, 28, 29, 30, 31, 32] (wL_m cI cL cZ qo f adC σ' adM τ') (wL_mf cI cL cZ qo f adC σ' adM τ') (by decide) (wL_h cI cL cZ qo f adC σ' adM τ') (by decide) (by decide) rfl rfl rfl (Nat.le_of_ble_eq_true rfl) d_La_law_607 ?_
      refine gw_eq (ws' := (wL cI cL cZ qo f adC σ' adM τ')) rfl rfl ?_
      refine gw_iload C d_La_law_610 0 rfl ?_
      refine gw_icmp_eq (tgt := 617) C d_La_law_612 (by decide) (fun _ => ?_) (fun h => absurd rfl h)
      refine gw_goto (tgt := 1144) C d_La_law_617 (by decide) ?_
      refine gw_less [1, 2, 3, 4, 5] rfl ?_
      exact kk _ _ _ hrel'
  · refine gw_aload_n C d_La_law_556 rfl 1 rfl ?_
    refine gw_aload_n C d_La_law_557 rfl 0 rfl ?_
    refine gw_iload C d_La_law_558 4 rfl ?_
    refine gw_iconst (v := 1) C d_La_law_560 (by decide) ?_
    refine gw_iadd C d_La_law_561 ?_
    refine gw_sld (v := v1) C hX hbl hbA h_1 e_1 d_La_law_562 ?_
    refine gw_aload_n C d_La_law_563 rfl 0 rfl ?_
    refine gw_iload C d_La_law_564 4 rfl ?_
    refine gw_iconst (v := 2) C d_La_law_566 (by decide) ?_
    refine gw_iadd C d_La_law_567 ?_
    refine gw_sld (v := v2) C hX hbl hbA h_2 e_2 d_La_law_568 ?_
    refine gw_if_eq (tgt := 576) C d_La_law_569 (by decide) (fun h => absurd h hz) (fun _ => ?_)
    refine gw_iconst (v := 1) C d_La_law_572 (by decide) ?_
    refine gw_goto (tgt := 577) C d_La_law_573 (by decide) ?_
    obtain ⟨k, r, σ', τ', th, h1, h2, h3, hrel', hcs⟩ := S.2.2.2.2.2.2.2.1 n σ τ v1 1 hn hrel (Or.inr rfl)
    rcases hcs with ⟨rfl, rfl⟩ | ⟨rfl, rfl⟩ | ⟨rfl, rfl⟩
    · refine gw_callSH (n := 3) (As := [.ref (adC 0), .int v1, .int 1]) (st := []) CT hN (h_La_begin_0 l CT.2.2.2 D cI cL cZ adC h1) tbW_468 tb_466 tb_467 tbI_La (by decide +kernel) ⟨Nat.le_of_ble_eq_true rfl, Nat.le_of_ble_eq_true rfl⟩ ⟨hc1, hs1⟩ [1, 2, 3, 4, 5, 6, 7, 8, 9, 10, 11, 12, 13, 14, 15, 16, 17, 18, 19, 20, 21, 22, 23, 24, 25, 26, 27, 28, 29, 30, 31, 32] [0, 33, 34, 35, 36, 37, 38, 39, 40, 41, 42, 43, 44, 45, 46, 47, 48, 49, 50, 51, 52, 53, 54, 55, 56, 57, 58] (wL_c cI cL cZ qo f adC σ adM τ) (wL_cf cI cL cZ qo f adC σ adM τ) (by decide) (wL_r cI cL cZ qo f adC σ adM τ) (by decide) (by decide) rfl (Nat.le_of_ble_eq_true rfl) d_La_law_577 ?_
      refine gw_widen (cells' := cells + 1) (slots' := slots + 6) (Nat.add_le_add_left (by decide) _) (Nat.add_le_add_left (by decide) _) ?_
      refine gw_perm [0, 27, 28, 29, 30, 31, 32, 33, 34, 35, 36, 37, 38, 39, 40, 41, 42, 43, 44, 45, 46, 47, 48, 49, 50, 51, 52, 53, 54, 55, 56, 57, 58, 1, 2, 3, 4, 5, 6, 7, 8, 9, 10, 11, 12, 13, 14, 15, 16, 17, 18, 19, 20, 21, 22, 23, 24, 25, 26] (wL_pc cI cL cZ qo f adC σ' adM τ) (wL_pcm cI cL cZ qo f adC σ' adM τ) (by decide) ?_
      refine gw_istore (lv' := [(5, .int 0), (0, .ref b), (1, .ref (adC 0)), (2, .ref (adM 0)), (3, .ref qo), (4, .int x4)]) C d_La_law_580 (by decide) rfl ?_
      refine gw_aload_n C d_La_law_582 rfl 3 rfl ?_
      refine gw_aload_n C d_La_law_583 rfl 1 rfl ?_
      refine gw_iload C d_La_law_584 5 rfl ?_
      refine gw_iconst (v := 1) C d_La_law_586 (by decide) ?_
      refine gw_iadd C d_La_law_587 ?_
      refine gw_sld (v := v1) C hX hbl hbA h_1 e_1 d_La_law_588 ?_
      refine gw_aload_n C d_La_law_589 rfl 1 rfl ?_
      refine gw_iload C d_La_law_590 5 rfl ?_
      refine gw_iconst (v := 2) C d_La_law_592 (by decide) ?_
      refine gw_iadd C d_La_law_593 ?_
      refine gw_sld (v := v2) C hX hbl hbA h_2 e_2 d_La_law_594 ?_
      refine gw_if_eq (tgt := 602) C d_La_law_595 (by decide) (fun h => absurd h hz) (fun _ => ?_)
      refine gw_iconst (v := 1) C d_La_law_598 (by decide) ?_
      refine gw_goto (tgt := 603) C d_La_law_599 (by decide) ?_
      refine gw_callVF (T := T_Mo) (N := 48) (n := 2) (q0 := 0) (As := [.int v1, .int 1]) (st := []) C (c_Mo_begin l D cI cL cZ adM h2) tb_1066 tb_1063 tb_1064 tb_1065 tb_8 (by decide +kernel) ⟨Nat.le_of_ble_eq_true rfl, Nat.le_of_ble_eq_true rfl⟩ ⟨hc1, hs1⟩ rfl rfl [33, 34, 35, 36, 37, 38, 39, 40, 41, 42, 43, 44, 45, 46, 47, 48, 49, 50, 51, 52, 53, 54, 55, 56, 57, 58] [0, 1, 2, 3, 4, 5, 6, 7, 8, 9, 10, 11, 12, 13, 14, 15, 16, 17, 18, 19, 20, 21, 22, 23, 24, 25, 26, 27, 28, 29, 30, 31, 32] (wL_m cI cL cZ qo f adC σ' adM τ) (wL_mf cI cL cZ qo f adC σ' adM τ) (by decide) (wL_h cI cL cZ qo f adC σ' adM τ) (by decide) (by decide) rfl rfl rfl (Nat.le_of_ble_eq_true rfl) d_La_law_603 ?_
      refine gw_eq (ws' := (wL cI cL cZ qo f adC σ' adM τ')) rfl rfl ?_
      refine gw_aload_n C d_La_law_606 rfl 3 rfl ?_
      refine gw_callVF (T := T_Mo) (N := 48) (n := 0) (q0 := 0) (As := []) (st := []) C (c_Mo_thrown l D cI cL cZ adM h3) tb_1020 tb_1017 tb_1018 tb_1019 tb_8 (by decide +kernel) ⟨Nat.le_of_ble_eq_true rfl, Nat.le_of_ble_eq_true rfl⟩ ⟨hc1, hs1⟩ rfl rfl [33, 34, 35, 36, 37, 38, 39, 40, 41, 42, 43, 44, 45, 46, 47, 48, 49, 50, 51, 52, 53, 54, 55, 56, 57, 58] [0, 1, 2, 3, 4, 5, 6, 7, 8, 9, 10, 11, 12, 13, 14, 15, 16, 17, 18, 19, 20, 21, 22, 23, 24, 25, 26, 27, 28, 29, 30, 31, 32] (wL_m cI cL cZ qo f adC σ' adM τ') (wL_mf cI cL cZ qo f adC σ' adM τ') (by decide) (wL_h cI cL cZ qo f adC σ' adM τ') (by decide) (by decide) rfl rfl rfl (Nat.le_of_ble_eq_true rfl) d_La_law_607 ?_
      refine gw_eq (ws' := (wL cI cL cZ qo f adC σ' adM τ')) rfl rfl ?_
      refine gw_iload C d_La_law_610 0 rfl ?_
      refine gw_icmp_eq (tgt := 617) C d_La_law_612 (by decide) (fun _ => ?_) (fun h => absurd rfl h)
      refine gw_goto (tgt := 1144) C d_La_law_617 (by decide) ?_
      refine gw_less [1, 2, 3, 4, 5] rfl ?_
      exact kk _ _ _ hrel'
    · refine gw_callSH (n := 3) (As := [.ref (adC 0), .int v1, .int 1]) (st := []) CT hN (h_La_begin_1 l CT.2.2.2 D cI cL cZ adC h1) tbW_468 tb_466 tb_467 tbI_La (by decide +kernel) ⟨Nat.le_of_ble_eq_true rfl, Nat.le_of_ble_eq_true rfl⟩ ⟨hc1, hs1⟩ [1, 2, 3, 4, 5, 6, 7, 8, 9, 10, 11, 12, 13, 14, 15, 16, 17, 18, 19, 20, 21, 22, 23, 24, 25, 26, 27, 28, 29, 30, 31, 32] [0, 33, 34, 35, 36, 37, 38, 39, 40, 41, 42, 43, 44, 45, 46, 47, 48, 49, 50, 51, 52, 53, 54, 55, 56, 57, 58] (wL_c cI cL cZ qo f adC σ adM τ) (wL_cf cI cL cZ qo f adC σ adM τ) (by decide) (wL_r cI cL cZ qo f adC σ adM τ) (by decide) (by decide) rfl (Nat.le_of_ble_eq_true rfl) d_La_law_577 ?_
      refine gw_widen (cells' := cells + 1) (slots' := slots + 6) (Nat.add_le_add_left (by decide) _) (Nat.add_le_add_left (by decide) _) ?_
      refine gw_perm [0, 27, 28, 29, 30, 31, 32, 33, 34, 35, 36, 37, 38, 39, 40, 41, 42, 43, 44, 45, 46, 47, 48, 49, 50, 51, 52, 53, 54, 55, 56, 57, 58, 1, 2, 3, 4, 5, 6, 7, 8, 9, 10, 11, 12, 13, 14, 15, 16, 17, 18, 19, 20, 21, 22, 23, 24, 25, 26] (wL_pc cI cL cZ qo f adC σ' adM τ) (wL_pcm cI cL cZ qo f adC σ' adM τ) (by decide) ?_
      refine gw_istore (lv' := [(5, .int 1), (0, .ref b), (1, .ref (adC 0)), (2, .ref (adM 0)), (3, .ref qo), (4, .int x4)]) C d_La_law_580 (by decide) rfl ?_
      refine gw_aload_n C d_La_law_582 rfl 3 rfl ?_
      refine gw_aload_n C d_La_law_583 rfl 1 rfl ?_
      refine gw_iload C d_La_law_584 5 rfl ?_
      refine gw_iconst (v := 1) C d_La_law_586 (by decide) ?_
      refine gw_iadd C d_La_law_587 ?_
      refine gw_sld (v := v1) C hX hbl hbA h_1 e_1 d_La_law_588 ?_
      refine gw_aload_n C d_La_law_589 rfl 1 rfl ?_
      refine gw_iload C d_La_law_590 5 rfl ?_
      refine gw_iconst (v := 2) C d_La_law_592 (by decide) ?_
      refine gw_iadd C d_La_law_593 ?_
      refine gw_sld (v := v2) C hX hbl hbA h_2 e_2 d_La_law_594 ?_
      refine gw_if_eq (tgt := 602) C d_La_law_595 (by decide) (fun h => absurd h hz) (fun _ => ?_)
      refine gw_iconst (v := 1) C d_La_law_598 (by decide) ?_
      refine gw_goto (tgt := 603) C d_La_law_599 (by decide) ?_
      refine gw_callVF (T := T_Mo) (N := 48) (n := 2) (q0 := 0) (As := [.int v1, .int 1]) (st := []) C (c_Mo_begin l D cI cL cZ adM h2) tb_1066 tb_1063 tb_1064 tb_1065 tb_8 (by decide +kernel) ⟨Nat.le_of_ble_eq_true rfl, Nat.le_of_ble_eq_true rfl⟩ ⟨hc1, hs1⟩ rfl rfl [33, 34, 35, 36, 37, 38, 39, 40, 41, 42, 43, 44, 45, 46, 47, 48, 49, 50, 51, 52, 53, 54, 55, 56, 57, 58] [0, 1, 2, 3, 4, 5, 6, 7, 8, 9, 10, 11, 12, 13, 14, 15, 16, 17, 18, 19, 20, 21, 22, 23, 24, 25, 26, 27, 28, 29, 30, 31, 32] (wL_m cI cL cZ qo f adC σ' adM τ) (wL_mf cI cL cZ qo f adC σ' adM τ) (by decide) (wL_h cI cL cZ qo f adC σ' adM τ) (by decide) (by decide) rfl rfl rfl (Nat.le_of_ble_eq_true rfl) d_La_law_603 ?_
      refine gw_eq (ws' := (wL cI cL cZ qo f adC σ' adM τ')) rfl rfl ?_
      refine gw_aload_n C d_La_law_606 rfl 3 rfl ?_
      refine gw_callVF (T := T_Mo) (N := 48) (n := 0) (q0 := 0) (As := []) (st := []) C (c_Mo_thrown l D cI cL cZ adM h3) tb_1020 tb_1017 tb_1018 tb_1019 tb_8 (by decide +kernel) ⟨Nat.le_of_ble_eq_true rfl, Nat.le_of_ble_eq_true rfl⟩ ⟨hc1, hs1⟩ rfl rfl [33, 34, 35, 36, 37, 38, 39, 40, 41, 42, 43, 44, 45, 46, 47, 48, 49, 50, 51, 52, 53, 54, 55, 56, 57, 58] [0, 1, 2, 3, 4, 5, 6, 7, 8, 9, 10, 11, 12, 13, 14, 15, 16, 17, 18, 19, 20, 21, 22, 23, 24, 25, 26, 27, 28, 29, 30, 31, 32] (wL_m cI cL cZ qo f adC σ' adM τ') (wL_mf cI cL cZ qo f adC σ' adM τ') (by decide) (wL_h cI cL cZ qo f adC σ' adM τ') (by decide) (by decide) rfl rfl rfl (Nat.le_of_ble_eq_true rfl) d_La_law_607 ?_
      refine gw_eq (ws' := (wL cI cL cZ qo f adC σ' adM τ')) rfl rfl ?_
      refine gw_iload C d_La_law_610 0 rfl ?_
      refine gw_icmp_eq (tgt := 617) C d_La_law_612 (by decide) (fun _ => ?_) (fun h => absurd rfl h)
      refine gw_goto (tgt := 1144) C d_La_law_617 (by decide) ?_
      refine gw_less [1, 2, 3, 4, 5] rfl ?_
      exact kk _ _ _ hrel'
    · refine gw_callSH (n := 3) (As := [.ref (adC 0), .int v1, .int 1]) (st := []) CT hN (h_La_begin_2 l CT.2.2.2 D cI cL cZ adC h1) tbW_468 tb_466 tb_467 tbI_La (by decide +kernel) ⟨Nat.le_of_ble_eq_true rfl, Nat.le_of_ble_eq_true rfl⟩ ⟨hc1, hs1⟩ [1, 2, 3, 4, 5, 6, 7, 8, 9, 10, 11, 12, 13, 14, 15, 16, 17, 18, 19, 20, 21, 22, 23, 24, 25, 26, 27, 28, 29, 30, 31, 32] [0, 33, 34, 35, 36, 37, 38, 39, 40, 41, 42, 43, 44, 45, 46, 47, 48, 49, 50, 51, 52, 53, 54, 55, 56, 57, 58] (wL_c cI cL cZ qo f adC σ adM τ) (wL_cf cI cL cZ qo f adC σ adM τ) (by decide) (wL_r cI cL cZ qo f adC σ adM τ) (by decide) (by decide) rfl (Nat.le_of_ble_eq_true rfl) d_La_law_577 ?_
      refine gw_widen (cells' := cells + 1) (slots' := slots + 6) (Nat.add_le_add_left (by decide) _) (Nat.add_le_add_left (by decide) _) ?_
      refine gw_perm [0, 27, 28, 29, 30, 31, 32, 33, 34, 35, 36, 37, 38, 39, 40, 41, 42, 43, 44, 45, 46, 47, 48, 49, 50, 51, 52, 53, 54, 55, 56, 57, 58, 1, 2, 3, 4, 5, 6, 7, 8, 9, 10, 11, 12, 13, 14, 15, 16, 17, 18, 19, 20, 21, 22, 23, 24, 25, 26] (wL_pc cI cL cZ qo f adC σ' adM τ) (wL_pcm cI cL cZ qo f adC σ' adM τ) (by decide) ?_
      refine gw_istore (lv' := [(5, .int 2), (0, .ref b), (1, .ref (adC 0)), (2, .ref (adM 0)), (3, .ref qo), (4, .int x4)]) C d_La_law_580 (by decide) rfl ?_
      refine gw_aload_n C d_La_law_582 rfl 3 rfl ?_
      refine gw_aload_n C d_La_law_583 rfl 1 rfl ?_
      refine gw_iload C d_La_law_584 5 rfl ?_
      refine gw_iconst (v := 1) C d_La_law_586 (by decide) ?_
      refine gw_iadd C d_La_law_587 ?_
      refine gw_sld (v := v1) C hX hbl hbA h_1 e_1 d_La_law_588 ?_
      refine gw_aload_n C d_La_law_589 rfl 1 rfl ?_
      refine gw_iload C d_La_law_590 5 rfl ?_
      refine gw_iconst (v := 2) C d_La_law_592 (by decide) ?_
      refine gw_iadd C d_La_law_593 ?_
      refine gw_sld (v := v2) C hX hbl hbA h_2 e_2 d_La_law_594 ?_
      refine gw_if_eq (tgt := 602) C d_La_law_595 (by decide) (fun h => absurd h hz) (fun _ => ?_)
      refine gw_iconst (v := 1) C d_La_law_598 (by decide) ?_
      refine gw_goto (tgt := 603) C d_La_law_599 (by decide) ?_
      refine gw_callVF (T := T_Mo) (N := 48) (n := 2) (q0 := 0) (As := [.int v1, .int 1]) (st := []) C (c_Mo_begin l D cI cL cZ adM h2) tb_1066 tb_1063 tb_1064 tb_1065 tb_8 (by decide +kernel) ⟨Nat.le_of_ble_eq_true rfl, Nat.le_of_ble_eq_true rfl⟩ ⟨hc1, hs1⟩ rfl rfl [33, 34, 35, 36, 37, 38, 39, 40, 41, 42, 43, 44, 45, 46, 47, 48, 49, 50, 51, 52, 53, 54, 55, 56, 57, 58] [0, 1, 2, 3, 4, 5, 6, 7, 8, 9, 10, 11, 12, 13, 14, 15, 16, 17, 18, 19, 20, 21, 22, 23, 24, 25, 26, 27, 28, 29, 30, 31, 32] (wL_m cI cL cZ qo f adC σ' adM τ) (wL_mf cI cL cZ qo f adC σ' adM τ) (by decide) (wL_h cI cL cZ qo f adC σ' adM τ) (by decide) (by decide) rfl rfl rfl (Nat.le_of_ble_eq_true rfl) d_La_law_603 ?_
      refine gw_eq (ws' := (wL cI cL cZ qo f adC σ' adM τ')) rfl rfl ?_
      refine gw_aload_n C d_La_law_606 rfl 3 rfl ?_
      refine gw_callVF (T := T_Mo) (N := 48) (n := 0) (q0 := 0) (As := []) (st := []) C (c_Mo_thrown l D cI cL cZ adM h3) tb_1020 tb_1017 tb_1018 tb_1019 tb_8 (by decide +kernel) ⟨Nat.le_of_ble_eq_true rfl, Nat.le_of_ble_eq_true rfl⟩ ⟨hc1, hs1⟩ rfl rfl [33, 34, 35, 36, 37, 38, 39, 40, 41, 42, 43, 44, 45, 46, 47, 48, 49, 50, 51, 52, 53, 54, 55, 56, 57, 58] [0, 1, 2, 3, 4, 5, 6, 7, 8, 9, 10, 11, 12, 13, 14, 15, 16, 17, 18, 19, 20, 21, 22, 23, 24, 25, 26, 27, 28, 29, 30, 31, 32] (wL_m cI cL cZ qo f adC σ' adM τ') (wL_mf cI cL cZ qo f adC σ' adM τ') (by decide) (wL_h cI cL cZ qo f adC σ' adM τ') (by decide) (by decide) rfl rfl rfl (Nat.le_of_ble_eq_true rfl) d_La_law_607 ?_
      refine gw_eq (ws' := (wL cI cL cZ qo f adC σ' adM τ')) rfl rfl ?_
      refine gw_iload C d_La_law_610 0 rfl ?_
      refine gw_icmp_eq (tgt := 617) C d_La_law_612 (by decide) (fun _ => ?_) (fun h => absurd rfl h)
      refine gw_goto (tgt := 1144) C d_La_law_617 (by decide) ?_
      refine gw_less [1, 2, 3, 4, 5] rfl ?_
      exact kk _ _ _ hrel'
set_option maxRecDepth 100000 in
set_option maxHeartbeats 4000000 in
theorem law_run {Rel : Nat → St → St → Prop} (S : LawSim Rel) {p : Program} {l : Launch} {e : Env} {s : State} {m : MethodId} {below : List Frame} {meth : Method} {c : Code} {D : va_G} {A : Nat → Prop} {Q : State → Prop} {cI cL cZ : ClassId} {b L : Nat} {xs : Nat → Int32} (CT : gw_CT l p s m #[Value.ref b] meth c code 7 R_La D gw_cl (gw_ty cI cL cZ) A) (hN : gw_Nc s) (hX : va_X b L xs s s.heap) (hbl : b < s.heap.size) (hbA : ¬ A b) {qo : Nat} {f : Nat → Int64} {adC adM : Nat → Nat} {σ τ : St} {n cells slots : Nat} (hn : n < 512) (hrel : Rel n σ τ) (hc1 : cells + 1 ≤ room_1.cells) (hs1 : slots + 6 ≤ room_1.slots) {x4 v1 v2 v3 : Int32} (h_1 : vp_in (x4 + 1) L) (h_2 : vp_in (x4 + 2) L) (h_3 : vp_in (x4 + 3) L) (e_1 : xs (x4 + 1).toNatClampNeg = v1) (e_2 : xs (x4 + 2).toNatClampNeg = v2) (e_3 : xs (x4 + 3).toNatClampNeg = v3)
    (kk : ∀ (f' : Nat → Int64) (σ' τ' : St), Rel (n + 1) σ' τ' → gw_W p l e room_1 s m #[Value.ref b] below meth c D gw_cl A Q (cells + 1) (slots + 6) 7 (wL cI cL cZ qo f' adC σ' adM τ') [(0, .ref b), (1, .ref (adC 0)), (2, .ref (adM 0)), (3, .ref qo), (4, .int x4)] 1144 []) : gw_W p l e room_1 s m #[Value.ref b] below meth c D gw_cl A Q cells slots 7 (wL cI cL cZ qo f adC σ adM τ) [(0, .ref b), (1, .ref (adC 0)), (2, .ref (adM 0)), (3, .ref qo), (4, .int x4)] 620 [] := by
  have C := CT.1
  refine gw_aload_n C d_La_law_620 rfl 1 rfl ?_
  refine gw_aload_n C d_La_law_621 rfl 0 rfl ?_
  refine gw_iload C d_La_law_622 4 rfl ?_
  refine gw_iconst (v := 1) C d_La_law_624 (by decide) ?_
  refine gw_iadd C d_La_law_625 ?_
  refine gw_sld (v := v1) C hX hbl hbA h_1 e_1 d_La_law_626 ?_
  refine gw_aload_n C d_La_law_627 rfl 3 rfl ?_
  obtain ⟨k, r, σ', bv, τ', th, h1, h2, h3, hrel', hcs⟩ := S.2.2.2.2.2.2.2.2.1 n σ τ v1 hn hrel
  rcases hcs with ⟨rfl, rfl, rfl⟩ | ⟨rfl, rfl⟩ | ⟨rfl, rfl⟩
  · refine gw_callSH (n := 3) (As := [.ref (adC 0), .int v1, .ref qo]) (st := []) CT hN (h_La_run_0 l CT.2.2.2 D cI cL cZ adC qo f h1) tbW_504 tb_502 tb_503 tbI_La (by decide +kernel) ⟨Nat.le_of_ble_eq_true rfl, Nat.le_of_ble_eq_true rfl⟩ ⟨hc1, hs1⟩ [0, 1, 2, 3, 4, 5, 6, 7, 8, 9, 10, 11, 12, 13, 14, 15, 16, 17, 18, 19, 20, 21, 22, 23, 24, 25, 26, 27, 28, 29, 30, 31, 32] [33, 34, 35, 36, 37, 38, 39, 40, 41, 42, 43, 44, 45, 46, 47, 48, 49, 50, 51, 52, 53, 54, 55, 56, 57, 58] (wL_h cI cL cZ qo f adC σ adM τ) (wL_hf cI cL cZ qo f adC σ adM τ) (by decide) (wL_m cI cL cZ qo f adC σ adM τ) (by decide) (by decide) rfl (Nat.le_of_ble_eq_true rfl) d_La_law_628 ?_
    refine gw_widen (cells' := cells + 1) (slots' := slots + 6) (Nat.add_le_add_left (by decide) _) (Nat.add_le_add_left (by decide) _) ?_
    refine gw_perm [26, 27, 28, 29, 30, 31, 32, 33, 34, 35, 36, 37, 38, 39, 40, 41, 42, 43, 44, 45, 46, 47, 48, 49, 50, 51, 52, 53, 54, 55, 56, 57, 58, 0, 1, 2, 3, 4, 5, 6, 7, 8, 9, 10, 11, 12, 13, 14, 15, 16, 17, 18, 19, 20, 21, 22, 23, 24, 25] (wL_ph cI cL cZ qo (vp_updL f (0 : Int32).toNatClampNeg r.toInt64) adC σ' adM τ) (wL_phm cI cL cZ qo (vp_updL f (0 : Int32).toNatClampNeg r.toInt64) adC σ' adM τ) (by decide) ?_
    refine gw_istore (lv' := [(5, .int 0), (0, .ref b), (1, .ref (adC 0)), (2, .ref (adM 0)), (3, .ref qo), (4, .int x4)]) C d_La_law_631 (by decide) rfl ?_
    refine gw_aload_n C d_La_law_633 rfl 3 rfl ?_
    refine gw_aload_n C d_La_law_634 rfl 1 rfl ?_
    refine gw_iload C d_La_law_635 5 rfl ?_
    refine gw_iconst (v := 1) C d_La_law_637 (by decide) ?_
    refine gw_iadd C d_La_law_638 ?_
    refine gw_sld (v := v1) C hX hbl hbA h_1 e_1 d_La_law_639 ?_
    refine gw_callVF (T := T_Mo) (N := 48) (n := 1) (q0 := 0) (As := [.int v1]) (st := []) C (c_Mo_run l D cI cL cZ adM h2) tb_1074 tb_1071 tb_1072 tb_1073 tb_8 (by decide +kernel) ⟨Nat.le_of_ble_eq_true rfl, Nat.le_of_ble_eq_true rfl⟩ ⟨hc1, hs1⟩ rfl rfl [33, 34, 35, 36, 37, 38, 39, 40, 41, 42, 43, 44, 45, 46, 47, 48, 49, 50, 51, 52, 53, 54, 55, 56, 57, 58] [0, 1, 2, 3, 4, 5, 6, 7, 8, 9, 10, 11, 12, 13, 14, 15, 16, 17, 18, 19, 20, 21, 22, 23, 24, 25, 26, 27, 28, 29, 30, 31, 32] (wL_m cI cL cZ qo (vp_updL f (0 : Int32).toNatClampNeg r.toInt64) adC σ' adM τ) (wL_mf cI cL cZ qo (vp_updL f (0 : Int32).toNatClampNeg r.toInt64) adC σ' adM τ) (by decide) (wL_h cI cL cZ qo (vp_updL f (0 : Int32).toNatClampNeg r.toInt64) adC σ' adM τ) (by decide) (by decide) rfl rfl rfl (Nat.le_of_ble_eq_true rfl) d_La_law_640 ?_
    refine gw_eq (ws' := (wL cI cL cZ qo (vp_updL f (0 : Int32).toNatClampNeg r.toInt64) adC σ' adM τ')) rfl rfl ?_
    refine gw_istore (lv' := [(6, .int r), (5, .int 0), (0, .ref b), (1, .ref (adC 0)), (2, .ref (adM 0)), (3, .ref qo), (4, .int x4)]) C d_La_law_643 (by decide) rfl ?_
    refine gw_aload_n C d_La_law_645 rfl 4 rfl ?_
    refine gw_callVF (T := T_Mo) (N := 48) (n := 0) (q0 := 0) (As := []) (st := []) C (c_Mo_thrown l D cI cL cZ adM h3) tb_1020 tb_1017 tb_1018 tb_1019 tb_8 (by decide +kernel) ⟨Nat.le_of_ble_eq_true rfl, Nat.le_of_ble_eq_true rfl⟩ ⟨hc1, hs1⟩ rfl rfl [33, 34, 35, 36, 37, 38, 39, 40, 41, 42, 43, 44, 45, 46, 47, 48, 49, 50, 51, 52, 53, 54, 55, 56, 57, 58] [0, 1, 2, 3, 4, 5, 6, 7, 8, 9, 10, 11, 12, 13, 14, 15, 16, 17, 18, 19, 20, 21, 22, 23, 24, 25, 26, 27, 28, 29, 30, 31, 32] (wL_m cI cL cZ qo (vp_updL f (0 : Int32).toNatClampNeg r.toInt64) adC σ' adM τ') (wL_mf cI cL cZ qo (vp_updL f (0 : Int32).toNatClampNeg r.toInt64) adC σ' adM τ') (by decide) (wL_h cI cL cZ qo (vp_updL f (0 : Int32).toNatClampNeg r.toInt64) adC σ' adM τ') (by decide) (by decide) rfl rfl rfl (Nat.le_of_ble_eq_true rfl) d_La_law_646 ?_
    refine gw_eq (ws' := (wL cI cL cZ qo (vp_updL f (0 : Int32).toNatClampNeg r.toInt64) adC σ' adM τ')) rfl rfl ?_
    refine gw_iload C d_La_law_649 1 rfl ?_
    refine gw_icmp_eq (tgt := 656) C d_La_law_651 (by decide) (fun _ => ?_) (fun h => absurd rfl h)
    refine gw_iload C d_La_law_656 1 rfl ?_
    refine gw_if_ne (tgt := 673) C d_La_law_658 (by decide) (fun h => absurd rfl h) (fun _ => ?_)
    refine gw_aload_n C d_La_law_661 rfl 5 rfl ?_
    refine gw_iconst (v := 0) C d_La_law_662 (by decide) ?_
    refine gw_lald C 0 1 rfl rfl (vp_in_nI (n := 0) (N := 1) (by decide) (by decide)) d_La_law_663 ?_
    refine gw_iload C d_La_law_664 0 rfl ?_
    refine gw_i2l C d_La_law_666 ?_
    refine gw_lcmp C d_La_law_667 ?_
    refine gw_if_eq (tgt := 673) C d_La_law_668 (by decide) (fun _ => ?_) (fun h => absurd (gw_lc _ _ _) h)
    refine gw_goto (tgt := 1144) C d_La_law_673 (by decide) ?_
    refine gw_less [2, 3, 4, 5, 6] rfl ?_
    exact kk _ _ _ hrel'
  · refine gw_callSH (n := 3) (As := [.ref (adC 0), .int v1, .ref qo]) (st := []) CT hN (h_La_run_2 l CT.2.2.2 D cI cL cZ adC qo f h1) tbW_504 tb_502 tb_503 tbI_La (by decide +kernel) ⟨Nat.le_of_ble_eq_true rfl, Nat.le_of_ble_eq_true rfl⟩ ⟨hc1, hs1⟩ [0, 1, 2, 3, 4, 5, 6, 7, 8, 9, 10, 11, 12, 13, 14, 15, 16, 17, 18, 19, 20, 21, 22, 23, 24, 25, 26, 27, 28, 29, 30, 31, 32] [33, 34, 35, 36, 37, 38, 39, 40, 41, 42, 43, 44, 45, 46, 47, 48, 49, 50, 51, 52, 53, 54, 55, 56, 57, 58] (wL_h cI cL cZ qo f adC σ adM τ) (wL_hf cI cL cZ qo f adC σ adM τ) (by decide) (wL_m cI cL cZ qo f adC σ adM τ) (by decide) (by decide) rfl (Nat.le_of_ble_eq_true rfl) d_La_law_628 ?_
    refine gw_widen (cells' := cells + 1) (slots' := slots + 6) (Nat.add_le_add_left (by decide) _) (Nat.add_le_add_left (by decide) _) ?_
    refine gw_perm [26, 27, 28, 29, 30, 31, 32, 33, 34, 35, 36, 37, 38, 39, 40, 41, 42, 43, 44, 45, 46, 47, 48, 49, 50, 51, 52, 53, 54, 55, 56, 57, 58, 0, 1, 2, 3, 4, 5, 6, 7, 8, 9, 10, 11, 12, 13, 14, 15, 16, 17, 18, 19, 20, 21, 22, 23, 24, 25] (wL_ph cI cL cZ qo f adC σ' adM τ) (wL_phm cI cL cZ qo f adC σ' adM τ) (by decide) ?_
    refine gw_istore (lv' := [(5, .int 1), (0, .ref b), (1, .ref (adC 0)), (2, .ref (adM 0)), (3, .ref qo), (4, .int x4)]) C d_La_law_631 (by decide) rfl ?_
    refine gw_aload_n C d_La_law_633 rfl 3 rfl ?_
    refine gw_aload_n C d_La_law_634 rfl 1 rfl ?_
    refine gw_iload C d_La_law_635 5 rfl ?_
    refine gw_iconst (v := 1) C d_La_law_637 (by decide) ?_
    refine gw_iadd C d_La_law_638 ?_
    refine gw_sld (v := v1) C hX hbl hbA h_1 e_1 d_La_law_639 ?_
    refine gw_callVF (T := T_Mo) (N := 48) (n := 1) (q0 := 0) (As := [.int v1]) (st := []) C (c_Mo_run l D cI cL cZ adM h2) tb_1074 tb_1071 tb_1072 tb_1073 tb_8 (by decide +kernel) ⟨Nat.le_of_ble_eq_true rfl, Nat.le_of_ble_eq_true rfl⟩ ⟨hc1, hs1⟩ rfl rfl [33, 34, 35, 36, 37, 38, 39, 40, 41, 42, 43, 44, 45, 46, 47, 48, 49, 50, 51, 52, 53, 54, 55, 56, 57, 58] [0, 1, 2, 3, 4, 5, 6, 7, 8, 9, 10, 11, 12, 13, 14, 15, 16, 17, 18, 19, 20, 21, 22, 23, 24, 25, 26, 27, 28, 29, 30, 31, 32] (wL_m cI cL cZ qo f adC σ' adM τ) (wL_mf cI cL cZ qo f adC σ' adM τ) (by decide) (wL_h cI cL cZ qo f adC σ' adM τ) (by decide) (by decide) rfl rfl rfl (Nat.le_of_ble_eq_true rfl) d_La_law_640 ?_
    refine gw_eq (ws' := (wL cI cL cZ qo f adC σ' adM τ')) rfl rfl ?_
    refine gw_istore (lv' := [(6, .int bv), (5, .int 1), (0, .ref b), (1, .ref (adC 0)), (2, .ref (adM 0)), (3, .ref qo), (4, .int x4)]) C d_La_law_643 (by decide) rfl ?_
    refine gw_aload_n C d_La_law_645 rfl 4 rfl ?_
    refine gw_callVF (T := T_Mo) (N := 48) (n := 0) (q0 := 0) (As := []) (st := []) C (c_Mo_thrown l D cI cL cZ adM h3) tb_1020 tb_1017 tb_1018 tb_1019 tb_8 (by decide +kernel) ⟨Nat.le_of_ble_eq_true rfl, Nat.le_of_ble_eq_true rfl⟩ ⟨hc1, hs1⟩ rfl rfl [33, 34, 35, 36, 37, 38, 39, 40, 41, 42, 43, 44, 45, 46, 47, 48, 49, 50, 51, 52, 53, 54, 55, 56, 57, 58] [0, 1, 2, 3, 4, 5, 6, 7, 8, 9, 10, 11, 12, 13, 14, 15, 16, 17, 18, 19, 20, 21, 22, 23, 24, 25, 26, 27, 28, 29, 30, 31, 32] (wL_m cI cL cZ qo f adC σ' adM τ') (wL_mf cI cL cZ qo f adC σ' adM τ') (by decide) (wL_h cI cL cZ qo f adC σ' adM τ') (by decide) (by decide) rfl rfl rfl (Nat.le_of_ble_eq_true rfl) d_La_law_646 ?_
    refine gw_eq (ws' := (wL cI cL cZ qo f adC σ' adM τ')) rfl rfl ?_
    refine gw_iload C d_La_law_649 1 rfl ?_
    refine gw_icmp_eq (tgt := 656) C d_La_law_651 (by decide) (fun _ => ?_) (fun h => absurd rfl h)
    refine gw_iload C d_La_law_656 1 rfl ?_
    refine gw_if_ne (tgt := 673) C d_La_law_658 (by decide) (fun _ => ?_) (fun h => absurd h (by decide))
    refine gw_goto (tgt := 1144) C d_La_law_673 (by decide) ?_
    refine gw_less [2, 3, 4, 5, 6] rfl ?_
    exact kk _ _ _ hrel'
  · refine gw_callSH (n := 3) (As := [.ref (adC 0), .int v1, .ref qo]) (st := []) CT hN (h_La_run_3 l CT.2.2.2 D cI cL cZ adC qo f h1) tbW_504 tb_502 tb_503 tbI_La (by decide +kernel) ⟨Nat.le_of_ble_eq_true rfl, Nat.le_of_ble_eq_true rfl⟩ ⟨hc1, hs1⟩ [0, 1, 2, 3, 4, 5, 6, 7, 8, 9, 10, 11, 12, 13, 14, 15, 16, 17, 18, 19, 20, 21, 22, 23, 24, 25, 26, 27, 28, 29, 30, 31, 32] [33, 34, 35, 36, 37, 38, 39, 40, 41, 42, 43, 44, 45, 46, 47, 48, 49, 50, 51, 52, 53, 54, 55, 56, 57, 58] (wL_h cI cL cZ qo f adC σ adM τ) (wL_hf cI cL cZ qo f adC σ adM τ) (by decide) (wL_m cI cL cZ qo f adC σ adM τ) (by decide) (by decide) rfl (Nat.le_of_ble_eq_true rfl) d_La_law_628 ?_
    refine gw_widen (cells' := cells + 1) (slots' := slots + 6) (Nat.add_le_add_left (by decide) _) (Nat.add_le_add_left (by decide) _) ?_
    refine gw_perm [26, 27, 28, 29, 30, 31, 32, 33, 34, 35, 36, 37, 38, 39, 40, 41, 42, 43, 44, 45, 46, 47, 48, 49, 50, 51, 52, 53, 54, 55, 56, 57, 58, 0, 1, 2, 3, 4, 5, 6, 7, 8, 9, 10, 11, 12, 13, 14, 15, 16, 17, 18, 19, 20, 21, 22, 23, 24, 25] (wL_ph cI cL cZ qo f adC σ' adM τ) (wL_phm cI cL cZ qo f adC σ' adM τ) (by decide) ?_
    refine gw_istore (lv' := [(5, .int 2), (0, .ref b), (1, .ref (adC 0)), (2, .ref (adM 0)), (3, .ref qo), (4, .int x4)]) C d_La_law_631 (by decide) rfl ?_
    refine gw_aload_n C d_La_law_633 rfl 3 rfl ?_
    refine gw_aload_n C d_La_law_634 rfl 1 rfl ?_
    refine gw_iload C d_La_law_635 5 rfl ?_
    refine gw_iconst (v := 1) C d_La_law_637 (by decide) ?_
    refine gw_iadd C d_La_law_638 ?_
    refine gw_sld (v := v1) C hX hbl hbA h_1 e_1 d_La_law_639 ?_
    refine gw_callVF (T := T_Mo) (N := 48) (n := 1) (q0 := 0) (As := [.int v1]) (st := []) C (c_Mo_run l D cI cL cZ adM h2) tb_1074 tb_1071 tb_1072 tb_1073 tb_8 (by decide +kernel) ⟨Nat.le_of_ble_eq_true rfl, Nat.le_of_ble_eq_true rfl⟩ ⟨hc1, hs1⟩ rfl rfl [33, 34, 35, 36, 37, 38, 39, 40, 41, 42, 43, 44, 45, 46, 47, 48, 49, 50, 51, 52, 53, 54, 55, 56, 57, 58] [0, 1, 2, 3, 4, 5, 6, 7, 8, 9, 10, 11, 12, 13, 14, 15, 16, 17, 18, 19, 20, 21, 22, 23, 24, 25, 26, 27, 28, 29, 30, 31, 32] (wL_m cI cL cZ qo f adC σ' adM τ) (wL_mf cI cL cZ qo f adC σ' adM τ) (by decide) (wL_h cI cL cZ qo f adC σ' adM τ) (by decide) (by decide) rfl rfl rfl (Nat.le_of_ble_eq_true rfl) d_La_law_640 ?_
    refine gw_eq (ws' := (wL cI cL cZ qo f adC σ' adM τ')) rfl rfl ?_
    refine gw_istore (lv' := [(6, .int bv), (5, .int 2), (0, .ref b), (1, .ref (adC 0)), (2, .ref (adM 0)), (3, .ref qo), (4, .int x4)]) C d_La_law_643 (by decide) rfl ?_
    refine gw_aload_n C d_La_law_645 rfl 4 rfl ?_
    refine gw_callVF (T := T_Mo) (N := 48) (n := 0) (q0 := 0) (As := []) (st := []) C (c_Mo_thrown l D cI cL cZ adM h3) tb_1020 tb_1017 tb_1018 tb_1019 tb_8 (by decide +kernel) ⟨Nat.le_of_ble_eq_true rfl, Nat.le_of_ble_eq_true rfl⟩ ⟨hc1, hs1⟩ rfl rfl [33, 34, 35, 36, 37, 38, 39, 40, 41, 42, 43, 44, 45, 46, 47, 48, 49, 50, 51, 52, 53, 54, 55, 56, 57, 58] [0, 1, 2, 3, 4, 5, 6, 7, 8, 9, 10, 11, 12, 13, 14, 15, 16, 17, 18, 19, 20, 21, 22, 23, 24, 25, 26, 27, 28, 29, 30, 31, 32] (wL_m cI cL cZ qo f adC σ' adM τ') (wL_mf cI cL cZ qo f adC σ' adM τ') (by decide) (wL_h cI cL cZ qo f adC σ' adM τ') (by decide) (by decide) rfl rfl rfl (Nat.le_of_ble_eq_true rfl) d_La_law_646 ?_
    refine gw_eq (ws' := (wL cI cL cZ qo f adC σ' adM τ')) rfl rfl ?_
    refine gw_iload C d_La_law_649 1 rfl ?_
    refine gw_icmp_eq (tgt := 656) C d_La_law_651 (by decide) (fun _ => ?_) (fun h => absurd rfl h)
    refine gw_iload C d_La_law_656 1 rfl ?_
    refine gw_if_ne (tgt := 673) C d_La_law_658 (by decide) (fun _ => ?_) (fun h => absurd h (by decide))
    refine gw_goto (tgt := 1144) C d_La_law_673 (by decide) ?_
    refine gw_less [2, 3, 4, 5, 6] rfl ?_
    exact kk _ _ _ hrel'
set_option maxRecDepth 100000 in
set_option maxHeartbeats 4000000 in
theorem law_into {Rel : Nat → St → St → Prop} (S : LawSim Rel) {p : Program} {l : Launch} {e : Env} {s : State} {m : MethodId} {below : List Frame} {meth : Method} {c : Code} {D : va_G} {A : Nat → Prop} {Q : State → Prop} {cI cL cZ : ClassId} {b L : Nat} {xs : Nat → Int32} (CT : gw_CT l p s m #[Value.ref b] meth c code 7 R_La D gw_cl (gw_ty cI cL cZ) A) (hN : gw_Nc s) (hX : va_X b L xs s s.heap) (hbl : b < s.heap.size) (hbA : ¬ A b) {qo : Nat} {f : Nat → Int64} {adC adM : Nat → Nat} {σ τ : St} {n cells slots : Nat} (hn : n < 512) (hrel : Rel n σ τ) (hc1 : cells + 1 ≤ room_1.cells) (hs1 : slots + 6 ≤ room_1.slots) {x4 v1 v2 v3 : Int32} (h_1 : vp_in (x4 + 1) L) (h_2 : vp_in (x4 + 2) L) (h_3 : vp_in (x4 + 3) L) (e_1 : xs (x4 + 1).toNatClampNeg = v1) (e_2 : xs (x4 + 2).toNatClampNeg = v2) (e_3 : xs (x4 + 3).toNatClampNeg = v3)
    (kk : ∀ (f' : Nat → Int64) (σ' τ' : St), Rel (n + 1) σ' τ' → gw_W p l e room_1 s m #[Value.ref b] below meth c D gw_cl A Q (cells + 1) (slots + 6) 7 (wL cI cL cZ qo f' adC σ' adM τ') [(0, .ref b), (1, .ref (adC 0)), (2, .ref (adM 0)), (3, .ref qo), (4, .int x4)] 1144 []) : gw_W p l e room_1 s m #[Value.ref b] below meth c D gw_cl A Q cells slots 7 (wL cI cL cZ qo f adC σ adM τ) [(0, .ref b), (1, .ref (adC 0)), (2, .ref (adM 0)), (3, .ref qo), (4, .int x4)] 676 [] := by
  have C := CT.1
  refine gw_aload_n C d_La_law_676 rfl 1 rfl ?_
  refine gw_aload_n C d_La_law_677 rfl 0 rfl ?_
  refine gw_iload C d_La_law_678 4 rfl ?_
  refine gw_iconst (v := 1) C d_La_law_680 (by decide) ?_
  refine gw_iadd C d_La_law_681 ?_
  refine gw_sld (v := v1) C hX hbl hbA h_1 e_1 d_La_law_682 ?_
  obtain ⟨k, r, σ', τ', th, h1, h2, h3, hrel', hcs⟩ := S.2.2.2.2.2.2.2.2.2.1 n σ τ v1 hn hrel
  rcases hcs with ⟨rfl, rfl⟩ | ⟨rfl, rfl⟩ | ⟨rfl, rfl⟩
  · refine gw_callSH (n := 2) (As := [.ref (adC 0), .int v1]) (st := []) CT hN (h_La_into_0 l CT.2.2.2 D cI cL cZ adC h1) tbW_773 tb_771 tb_772 tbI_La (by decide +kernel) ⟨Nat.le_of_ble_eq_true rfl, Nat.le_of_ble_eq_true rfl⟩ ⟨hc1, hs1⟩ [1, 2, 3, 4, 5, 6, 7, 8, 9, 10, 11, 12, 13, 14, 15, 16, 17, 18, 19, 20, 21, 22, 23, 24, 25, 26, 27, 28, 29, 30, 31, 32] [0, 33, 34, 35, 36, 37, 38, 39, 40, 41, 42, 43, 44, 45, 46, 47, 48, 49, 50, 51, 52, 53, 54, 55, 56, 57, 58] (wL_c cI cL cZ qo f adC σ adM τ) (wL_cf cI cL cZ qo f adC σ adM τ) (by decide) (wL_r cI cL cZ qo f adC σ adM τ) (by decide) (by decide) rfl (Nat.le_of_ble_eq_true rfl) d_La_law_683 ?_
    refine gw_widen (cells' := cells + 1) (slots' := slots + 6) (Nat.add_le_add_left (by decide) _) (Nat.add_le_add_left (by decide) _) ?_
    refine gw_perm [0, 27, 28, 29, 30, 31, 32, 33, 34, 35, 36, 37, 38, 39, 40, 41, 42, 43, 44, 45, 46, 47, 48, 49, 50, 51, 52, 53, 54, 55, 56, 57, 58, 1, 2, 3, 4, 5, 6, 7, 8, 9, 10, 11, 12, 13, 14, 15, 16, 17, 18, 19, 20, 21, 22, 23, 24, 25, 26] (wL_pc cI cL cZ qo f adC σ' adM τ) (wL_pcm cI cL cZ qo f adC σ' adM τ) (by decide) ?_
    refine gw_istore (lv' := [(5, .int 0), (0, .ref b), (1, .ref (adC 0)), (2, .ref (adM 0)), (3, .ref qo), (4, .int x4)]) C d_La_law_686 (by decide) rfl ?_
    refine gw_aload_n C d_La_law_688 rfl 3 rfl ?_
    refine gw_aload_n C d_La_law_689 rfl 1 rfl ?_
    refine gw_iload C d_La_law_690 5 rfl ?_
    refine gw_iconst (v := 1) C d_La_law_692 (by decide) ?_
    refine gw_iadd C d_La_law_693 ?_
    refine gw_sld (v := v1) C hX hbl hbA h_1 e_1 d_La_law_694 ?_
    refine gw_callVF (T := T_Mo) (N := 48) (n := 1) (q0 := 0) (As := [.int v1]) (st := []) C (c_Mo_into l D cI cL cZ adM h2) tb_1154 tb_1151 tb_1152 tb_1153 tb_8 (by decide +kernel) ⟨Nat.le_of_ble_eq_true rfl, Nat.le_of_ble_eq_true rfl⟩ ⟨hc1, hs1⟩ rfl rfl [33, 34, 35, 36, 37, 38, 39, 40, 41, 42, 43, 44, 45, 46, 47, 48, 49, 50, 51, 52, 53, 54, 55, 56, 57, 58] [0, 1, 2, 3, 4, 5, 6, 7, 8, 9, 10, 11, 12, 13, 14, 15, 16, 17, 18, 19, 20, 21, 22, 23, 24, 25, 26, 27, 28, 29, 30, 31, 32] (wL_m cI cL cZ qo f adC σ' adM τ) (wL_mf cI cL cZ qo f adC σ' adM τ) (by decide) (wL_h cI cL cZ qo f adC σ' adM τ) (by decide) (by decide) rfl rfl rfl (Nat.le_of_ble_eq_true rfl) d_La_law_695 ?_
    refine gw_eq (ws' := (wL cI cL cZ qo f adC σ' adM τ')) rfl rfl ?_
    refine gw_aload_n C d_La_law_698 rfl 3 rfl ?_
    refine gw_callVF (T := T_Mo) (N := 48) (n := 0) (q0 := 0) (As := []) (st := []) C (c_Mo_thrown l D cI cL cZ adM h3) tb_1020 tb_1017 tb_1018 tb_1019 tb_8 (by decide +kernel) ⟨Nat.le_of_ble_eq_true rfl, Nat.le_of_ble_eq_true rfl⟩ ⟨hc1, hs1⟩ rfl rfl [33, 34, 35, 36, 37, 38, 39, 40, 41, 42, 43, 44, 45, 46, 47, 48, 49, 50, 51, 52, 53, 54, 55, 56, 57, 58] [0, 1, 2, 3, 4, 5, 6, 7, 8, 9, 10, 11, 12, 13, 14, 15, 16, 17, 18, 19, 20, 21, 22, 23, 24, 25, 26, 27, 28, 29, 30, 31, 32] (wL_m cI cL cZ qo f adC σ' adM τ') (wL_mf cI cL cZ qo f adC σ' adM τ') (by decide) (wL_h cI cL cZ qo f adC σ' adM τ') (by decide) (by decide) rfl rfl rfl (Nat.le_of_ble_eq_true rfl) d_La_law_699 ?_
    refine gw_eq (ws' := (wL cI cL cZ qo f adC σ' adM τ')) rfl rfl ?_
    refine gw_iload C d_La_law_702 0 rfl ?_
    refine gw_icmp_eq (tgt := 709) C d_La_law_704 (by decide) (fun _ => ?_) (fun h => absurd rfl h)
    refine gw_goto (tgt := 1144) C d_La_law_709 (by decide) ?_
    refine gw_less [1, 2, 3, 4, 5] rfl ?_
    exact kk _ _ _ hrel'
  · refine gw_callSH (n := 2) (As := [.ref (adC 0), .int v1]) (st := []) CT hN (h_La_into_2 l CT.2.2.2 D cI cL cZ adC h1) tbW_773 tb_771 tb_772 tbI_La (by decide +kernel) ⟨Nat.le_of_ble_eq_true rfl, Nat.le_of_ble_eq_true rfl⟩ ⟨hc1, hs1⟩ [1, 2, 3, 4, 5, 6, 7, 8, 9, 10, 11, 12, 13, 14, 15, 16, 17, 18, 19, 20, 21, 22, 23, 24, 25, 26, 27, 28, 29, 30, 31, 32] [0, 33, 34, 35, 36, 37, 38, 39, 40, 41, 42, 43, 44, 45, 46, 47, 48, 49, 50, 51, 52, 53, 54, 55, 56, 57, 58] (wL_c cI cL cZ qo f adC σ adM τ) (wL_cf cI cL cZ qo f adC σ adM τ) (by decide) (wL_r cI cL cZ qo f adC σ adM τ) (by decide) (by decide) rfl (Nat.le_of_ble_eq_true rfl) d_La_law_683 ?_
    refine gw_widen (cells' := cells + 1) (slots' := slots + 6) (Nat.add_le_add_left (by decide) _) (Nat.add_le_add_left (by decide) _) ?_
    refine gw_perm [0, 27, 28, 29, 30, 31, 32, 33, 34, 35, 36, 37, 38, 39, 40, 41, 42, 43, 44, 45, 46, 47, 48, 49, 50, 51, 52, 53, 54, 55, 56, 57, 58, 1, 2, 3, 4, 5, 6, 7, 8, 9, 10, 11, 12, 13, 14, 15, 16, 17, 18, 19, 20, 21, 22, 23, 24, 25, 26] (wL_pc cI cL cZ qo f adC σ' adM τ) (wL_pcm cI cL cZ qo f adC σ' adM τ) (by decide) ?_
    refine gw_istore (lv' := [(5, .int 1), (0, .ref b), (1, .ref (adC 0)), (2, .ref (adM 0)), (3, .ref qo), (4, .int x4)]) C d_La_law_686 (by decide) rfl ?_
    refine gw_aload_n C d_La_law_688 rfl 3 rfl ?_
    refine gw_aload_n C d_La_law_689 rfl 1 rfl ?_
    refine gw_iload C d_La_law_690 5 rfl ?_
    refine gw_iconst (v := 1) C d_La_law_692 (by decide) ?_
    refine gw_iadd C d_La_law_693 ?_
    refine gw_sld (v := v1) C hX hbl hbA h_1 e_1 d_La_law_694 ?_
    refine gw_callVF (T := T_Mo) (N := 48) (n := 1) (q0 := 0) (As := [.int v1]) (st := []) C (c_Mo_into l D cI cL cZ adM h2) tb_1154 tb_1151 tb_1152 tb_1153 tb_8 (by decide +kernel) ⟨Nat.le_of_ble_eq_true rfl, Nat.le_of_ble_eq_true rfl⟩ ⟨hc1, hs1⟩ rfl rfl [33, 34, 35, 36, 37, 38, 39, 40, 41, 42, 43, 44, 45, 46, 47, 48, 49, 50, 51, 52, 53, 54, 55, 56, 57, 58] [0, 1, 2, 3, 4, 5, 6, 7, 8, 9, 10, 11, 12, 13, 14, 15, 16, 17, 18, 19, 20, 21, 22, 23, 24, 25, 26, 27, 28, 29, 30, 31, 32] (wL_m cI cL cZ qo f adC σ' adM τ) (wL_mf cI cL cZ qo f adC σ' adM τ) (by decide) (wL_h cI cL cZ qo f adC σ' adM τ) (by decide) (by decide) rfl rfl rfl (Nat.le_of_ble_eq_true rfl) d_La_law_695 ?_
    refine gw_eq (ws' := (wL cI cL cZ qo f adC σ' adM τ')) rfl rfl ?_
    refine gw_aload_n C d_La_law_698 rfl 3 rfl ?_
    refine gw_callVF (T := T_Mo) (N := 48) (n := 0) (q0 := 0) (As := []) (st := []) C (c_Mo_thrown l D cI cL cZ adM h3) tb_1020 tb_1017 tb_1018 tb_1019 tb_8 (by decide +kernel) ⟨Nat.le_of_ble_eq_true rfl, Nat.le_of_ble_eq_true rfl⟩ ⟨hc1, hs1⟩ rfl rfl [33, 34, 35, 36, 37, 38, 39, 40, 41, 42, 43, 44, 45, 46, 47, 48, 49, 50, 51, 52, 53, 54, 55, 56, 57, 58] [0, 1, 2, 3, 4, 5, 6, 7, 8, 9, 10, 11, 12, 13, 14, 15, 16, 17, 18, 19, 20, 21, 22, 23, 24, 25, 26, 27, 28, 29, 30, 31, 32] (wL_m cI cL cZ qo f adC σ' adM τ') (wL_mf cI cL cZ qo f adC σ' adM τ') (by decide) (wL_h cI cL cZ qo f adC σ' adM τ') (by decide) (by decide) rfl rfl rfl (Nat.le_of_ble_eq_true rfl) d_La_law_699 ?_
    refine gw_eq (ws' := (wL cI cL cZ qo f adC σ' adM τ')) rfl rfl ?_
    refine gw_iload C d_La_law_702 0 rfl ?_
    refine gw_icmp_eq (tgt := 709) C d_La_law_704 (by decide) (fun _ => ?_) (fun h => absurd rfl h)
    refine gw_goto (tgt := 1144) C d_La_law_709 (by decide) ?_
    refine gw_less [1, 2, 3, 4, 5] rfl ?_
    exact kk _ _ _ hrel'
  · refine gw_callSH (n := 2) (As := [.ref (adC 0), .int v1]) (st := []) CT hN (h_La_into_3 l CT.2.2.2 D cI cL cZ adC h1) tbW_773 tb_771 tb_772 tbI_La (by decide +kernel) ⟨Nat.le_of_ble_eq_true rfl, Nat.le_of_ble_eq_true rfl⟩ ⟨hc1, hs1⟩ [1, 2, 3, 4, 5, 6, 7, 8, 9, 10, 11, 12, 13, 14, 15, 16, 17, 18, 19, 20, 21, 22, 23, 24, 25, 26, 27, 28, 29, 30, 31, 32] [0, 33, 34, 35, 36, 37, 38, 39, 40, 41, 42, 43, 44, 45, 46, 47, 48, 49, 50, 51, 52, 53, 54, 55, 56, 57, 58] (wL_c cI cL cZ qo f adC σ adM τ) (wL_cf cI cL cZ qo f adC σ adM τ) (by decide) (wL_r cI cL cZ qo f adC σ adM τ) (by decide) (by decide) rfl (Nat.le_of_ble_eq_true rfl) d_La_law_683 ?_
    refine gw_widen (cells' := cells + 1) (slots' := slots + 6) (Nat.add_le_add_left (by decide) _) (Nat.add_le_add_left (by decide) _) ?_
    refine gw_perm [0, 27, 28, 29, 30, 31, 32, 33, 34, 35, 36, 37, 38, 39, 40, 41, 42, 43, 44, 45, 46, 47, 48, 49, 50, 51, 52, 53, 54, 55, 56, 57, 58, 1, 2, 3, 4, 5, 6, 7, 8, 9, 10, 11, 12, 13, 14, 15, 16, 17, 18, 19, 20, 21, 22, 23, 24, 25, 26] (wL_pc cI cL cZ qo f adC σ' adM τ) (wL_pcm cI cL cZ qo f adC σ' adM τ) (by decide) ?_
    refine gw_istore (lv' := [(5, .int 2), (0, .ref b), (1, .ref (adC 0)), (2, .ref (adM 0)), (3, .ref qo), (4, .int x4)]) C d_La_law_686 (by decide) rfl ?_
    refine gw_aload_n C d_La_law_688 rfl 3 rfl ?_
    refine gw_aload_n C d_La_law_689 rfl 1 rfl ?_
    refine gw_iload C d_La_law_690 5 rfl ?_
    refine gw_iconst (v := 1) C d_La_law_692 (by decide) ?_
    refine gw_iadd C d_La_law_693 ?_
    refine gw_sld (v := v1) C hX hbl hbA h_1 e_1 d_La_law_694 ?_
    refine gw_callVF (T := T_Mo) (N := 48) (n := 1) (q0 := 0) (As := [.int v1]) (st := []) C (c_Mo_into l D cI cL cZ adM h2) tb_1154 tb_1151 tb_1152 tb_1153 tb_8 (by decide +kernel) ⟨Nat.le_of_ble_eq_true rfl, Nat.le_of_ble_eq_true rfl⟩ ⟨hc1, hs1⟩ rfl rfl [33, 34, 35, 36, 37, 38, 39, 40, 41, 42, 43, 44, 45, 46, 47, 48, 49, 50, 51, 52, 53, 54, 55, 56, 57, 58] [0, 1, 2, 3, 4, 5, 6, 7, 8, 9, 10, 11, 12, 13, 14, 15, 16, 17, 18, 19, 20, 21, 22, 23, 24, 25, 26, 27, 28, 29, 30, 31, 32] (wL_m cI cL cZ qo f adC σ' adM τ) (wL_mf cI cL cZ qo f adC σ' adM τ) (by decide) (wL_h cI cL cZ qo f adC σ' adM τ) (by decide) (by decide) rfl rfl rfl (Nat.le_of_ble_eq_true rfl) d_La_law_695 ?_
    refine gw_eq (ws' := (wL cI cL cZ qo f adC σ' adM τ')) rfl rfl ?_
    refine gw_aload_n C d_La_law_698 rfl 3 rfl ?_
    refine gw_callVF (T := T_Mo) (N := 48) (n := 0) (q0 := 0) (As := []) (st := []) C (c_Mo_thrown l D cI cL cZ adM h3) tb_1020 tb_1017 tb_1018 tb_1019 tb_8 (by decide +kernel) ⟨Nat.le_of_ble_eq_true rfl, Nat.le_of_ble_eq_true rfl⟩ ⟨hc1, hs1⟩ rfl rfl [33, 34, 35, 36, 37, 38, 39, 40, 41, 42, 43, 44, 45, 46, 47, 48, 49, 50, 51, 52, 53, 54, 55, 56, 57, 58] [0, 1, 2, 3, 4, 5, 6, 7, 8, 9, 10, 11, 12, 13, 14, 15, 16, 17, 18, 19, 20, 21, 22, 23, 24, 25, 26, 27, 28, 29, 30, 31, 32] (wL_m cI cL cZ qo f adC σ' adM τ') (wL_mf cI cL cZ qo f adC σ' adM τ') (by decide) (wL_h cI cL cZ qo f adC σ' adM τ') (by decide) (by decide) rfl rfl rfl (Nat.le_of_ble_eq_true rfl) d_La_law_699 ?_
    refine gw_eq (ws' := (wL cI cL cZ qo f adC σ' adM τ')) rfl rfl ?_
    refine gw_iload C d_La_law_702 0 rfl ?_
    refine gw_icmp_eq (tgt := 709) C d_La_law_704 (by decide) (fun _ => ?_) (fun h => absurd rfl h)
    refine gw_goto (tgt := 1144) C d_La_law_709 (by decide) ?_
    refine gw_less [1, 2, 3, 4, 5] rfl ?_
    exact kk _ _ _ hrel'
set_option maxRecDepth 100000 in
set_option maxHeartbeats 4000000 in
theorem law_outcome {Rel : Nat → St → St → Prop} (S : LawSim Rel) {p : Program} {l : Launch} {e : Env} {s : State} {m : MethodId} {below : List Frame} {meth : Method} {c : Code} {D : va_G} {A : Nat → Prop} {Q : State → Prop} {cI cL cZ : ClassId} {b L : Nat} {xs : Nat → Int32} (CT : gw_CT l p s m #[Value.ref b] meth c code 7 R_La D gw_cl (gw_ty cI cL cZ) A) (hN : gw_Nc s) (hX : va_X b L xs s s.heap) (hbl : b < s.heap.size) (hbA : ¬ A b) {qo : Nat} {f : Nat → Int64} {adC adM : Nat → Nat} {σ τ : St} {n cells slots : Nat} (hn : n < 512) (hrel : Rel n σ τ) (hc1 : cells + 1 ≤ room_1.cells) (hs1 : slots + 6 ≤ room_1.slots) {x4 v1 v2 v3 : Int32} (h_1 : vp_in (x4 + 1) L) (h_2 : vp_in (x4 + 2) L) (h_3 : vp_in (x4 + 3) L) (e_1 : xs (x4 + 1).toNatClampNeg = v1) (e_2 : xs (x4 + 2).toNatClampNeg = v2) (e_3 : xs (x4 + 3).toNatClampNeg = v3)
    (kk : ∀ (f' : Nat → Int64) (σ' τ' : St), Rel (n + 1) σ' τ' → gw_W p l e room_1 s m #[Value.ref b] below meth c D gw_cl A Q (cells + 1) (slots + 6) 7 (wL cI cL cZ qo f' adC σ' adM τ') [(0, .ref b), (1, .ref (adC 0)), (2, .ref (adM 0)), (3, .ref qo), (4, .int x4)] 1144 []) : gw_W p l e room_1 s m #[Value.ref b] below meth c D gw_cl A Q cells slots 7 (wL cI cL cZ qo f adC σ adM τ) [(0, .ref b), (1, .ref (adC 0)), (2, .ref (adM 0)), (3, .ref qo), (4, .int x4)] 712 [] := by
  have C := CT.1
  refine gw_aload_n C d_La_law_712 rfl 1 rfl ?_
  obtain ⟨r, σ', τ', h1, h2, hrel'⟩ := S.2.2.2.2.2.2.2.2.2.2.1 n σ τ hn hrel
  refine gw_widen (cells' := cells + 1) (slots' := slots + 6) (Nat.le_add_right _ _) (Nat.le_add_right _ _) ?_
  refine gw_callVF (T := T_Gw) (N := 1) (n := 0) (q0 := 0) (As := []) (st := []) C (c_Gw_outcome l D cI cL cZ adC h1) tb_258 tb_255 tb_256 tb_257 tb_1 (by decide +kernel) ⟨Nat.le_of_ble_eq_true rfl, Nat.le_of_ble_eq_true rfl⟩ ⟨hc1, hs1⟩ rfl rfl [1, 2, 3, 4, 5, 6, 7, 8, 9, 10, 11, 12, 13, 14, 15, 16, 17, 18, 19, 20, 21, 22, 23, 24, 25, 26, 27, 28, 29, 30, 31, 32] [0, 33, 34, 35, 36, 37, 38, 39, 40, 41, 42, 43, 44, 45, 46, 47, 48, 49, 50, 51, 52, 53, 54, 55, 56, 57, 58] (wL_c cI cL cZ qo f adC σ adM τ) (wL_cf cI cL cZ qo f adC σ adM τ) (by decide) (wL_r cI cL cZ qo f adC σ adM τ) (by decide) (by decide) rfl rfl rfl (Nat.le_of_ble_eq_true rfl) d_La_law_713 ?_
  refine gw_perm [0, 27, 28, 29, 30, 31, 32, 33, 34, 35, 36, 37, 38, 39, 40, 41, 42, 43, 44, 45, 46, 47, 48, 49, 50, 51, 52, 53, 54, 55, 56, 57, 58, 1, 2, 3, 4, 5, 6, 7, 8, 9, 10, 11, 12, 13, 14, 15, 16, 17, 18, 19, 20, 21, 22, 23, 24, 25, 26] (wL_pc cI cL cZ qo f adC σ' adM τ) (wL_pcm cI cL cZ qo f adC σ' adM τ) (by decide) ?_
  refine gw_aload_n C d_La_law_716 rfl 2 rfl ?_
  refine gw_callVF (T := T_Mo) (N := 48) (n := 0) (q0 := 0) (As := []) (st := [.int r]) C (c_Mo_outcome l D cI cL cZ adM h2) tb_1158 tb_1155 tb_1156 tb_1157 tb_8 (by decide +kernel) ⟨Nat.le_of_ble_eq_true rfl, Nat.le_of_ble_eq_true rfl⟩ ⟨hc1, hs1⟩ rfl rfl [33, 34, 35, 36, 37, 38, 39, 40, 41, 42, 43, 44, 45, 46, 47, 48, 49, 50, 51, 52, 53, 54, 55, 56, 57, 58] [0, 1, 2, 3, 4, 5, 6, 7, 8, 9, 10, 11, 12, 13, 14, 15, 16, 17, 18, 19, 20, 21, 22, 23, 24, 25, 26, 27, 28, 29, 30, 31, 32] (wL_m cI cL cZ qo f adC σ' adM τ) (wL_mf cI cL cZ qo f adC σ' adM τ) (by decide) (wL_h cI cL cZ qo f adC σ' adM τ) (by decide) (by decide) rfl rfl rfl (Nat.le_of_ble_eq_true rfl) d_La_law_717 ?_
  refine gw_eq (ws' := (wL cI cL cZ qo f adC σ' adM τ')) rfl rfl ?_
  refine gw_icmp_eq (tgt := 1144) C d_La_law_720 (by decide) (fun _ => ?_) (fun h => absurd rfl h)
  exact kk _ _ _ hrel'
set_option maxRecDepth 100000 in
set_option maxHeartbeats 4000000 in
theorem law_sort {Rel : Nat → St → St → Prop} (S : LawSim Rel) {p : Program} {l : Launch} {e : Env} {s : State} {m : MethodId} {below : List Frame} {meth : Method} {c : Code} {D : va_G} {A : Nat → Prop} {Q : State → Prop} {cI cL cZ : ClassId} {b L : Nat} {xs : Nat → Int32} (CT : gw_CT l p s m #[Value.ref b] meth c code 7 R_La D gw_cl (gw_ty cI cL cZ) A) (hN : gw_Nc s) (hX : va_X b L xs s s.heap) (hbl : b < s.heap.size) (hbA : ¬ A b) {qo : Nat} {f : Nat → Int64} {adC adM : Nat → Nat} {σ τ : St} {n cells slots : Nat} (hn : n < 512) (hrel : Rel n σ τ) (hc1 : cells + 1 ≤ room_1.cells) (hs1 : slots + 6 ≤ room_1.slots) {x4 v1 v2 v3 : Int32} (h_1 : vp_in (x4 + 1) L) (h_2 : vp_in (x4 + 2) L) (h_3 : vp_in (x4 + 3) L) (e_1 : xs (x4 + 1).toNatClampNeg = v1) (e_2 : xs (x4 + 2).toNatClampNeg = v2) (e_3 : xs (x4 + 3).toNatClampNeg = v3)
    (kk : ∀ (f' : Nat → Int64) (σ' τ' : St), Rel (n + 1) σ' τ' → gw_W p l e room_1 s m #[Value.ref b] below meth c D gw_cl A Q (cells + 1) (slots + 6) 7 (wL cI cL cZ qo f' adC σ' adM τ') [(0, .ref b), (1, .ref (adC 0)), (2, .ref (adM 0)), (3, .ref qo), (4, .int x4)] 1144 []) : gw_W p l e room_1 s m #[Value.ref b] below meth c D gw_cl A Q cells slots 7 (wL cI cL cZ qo f adC σ adM τ) [(0, .ref b), (1, .ref (adC 0)), (2, .ref (adM 0)), (3, .ref qo), (4, .int x4)] 725 [] := by
  have C := CT.1
  refine gw_aload_n C d_La_law_725 rfl 1 rfl ?_
  obtain ⟨r, σ', τ', h1, h2, hrel'⟩ := S.2.2.2.2.2.2.2.2.2.2.2.1 n σ τ hn hrel
  refine gw_widen (cells' := cells + 1) (slots' := slots + 6) (Nat.le_add_right _ _) (Nat.le_add_right _ _) ?_
  refine gw_callVF (T := T_Gw) (N := 1) (n := 0) (q0 := 0) (As := []) (st := []) C (c_Gw_sort l D cI cL cZ adC h1) tb_262 tb_259 tb_260 tb_261 tb_1 (by decide +kernel) ⟨Nat.le_of_ble_eq_true rfl, Nat.le_of_ble_eq_true rfl⟩ ⟨hc1, hs1⟩ rfl rfl [1, 2, 3, 4, 5, 6, 7, 8, 9, 10, 11, 12, 13, 14, 15, 16, 17, 18, 19, 20, 21, 22, 23, 24, 25, 26, 27, 28, 29, 30, 31, 32] [0, 33, 34, 35, 36, 37, 38, 39, 40, 41, 42, 43, 44, 45, 46, 47, 48, 49, 50, 51, 52, 53, 54, 55, 56, 57, 58] (wL_c cI cL cZ qo f adC σ adM τ) (wL_cf cI cL cZ qo f adC σ adM τ) (by decide) (wL_r cI cL cZ qo f adC σ adM τ) (by decide) (by decide) rfl rfl rfl (Nat.le_of_ble_eq_true rfl) d_La_law_726 ?_
  refine gw_perm [0, 27, 28, 29, 30, 31, 32, 33, 34, 35, 36, 37, 38, 39, 40, 41, 42, 43, 44, 45, 46, 47, 48, 49, 50, 51, 52, 53, 54, 55, 56, 57, 58, 1, 2, 3, 4, 5, 6, 7, 8, 9, 10, 11, 12, 13, 14, 15, 16, 17, 18, 19, 20, 21, 22, 23, 24, 25, 26] (wL_pc cI cL cZ qo f adC σ' adM τ) (wL_pcm cI cL cZ qo f adC σ' adM τ) (by decide) ?_
  refine gw_aload_n C d_La_law_729 rfl 2 rfl ?_
  refine gw_callVF (T := T_Mo) (N := 48) (n := 0) (q0 := 0) (As := []) (st := [.int r]) C (c_Mo_sort l D cI cL cZ adM h2) tb_1162 tb_1159 tb_1160 tb_1161 tb_8 (by decide +kernel) ⟨Nat.le_of_ble_eq_true rfl, Nat.le_of_ble_eq_true rfl⟩ ⟨hc1, hs1⟩ rfl rfl [33, 34, 35, 36, 37, 38, 39, 40, 41, 42, 43, 44, 45, 46, 47, 48, 49, 50, 51, 52, 53, 54, 55, 56, 57, 58] [0, 1, 2, 3, 4, 5, 6, 7, 8, 9, 10, 11, 12, 13, 14, 15, 16, 17, 18, 19, 20, 21, 22, 23, 24, 25, 26, 27, 28, 29, 30, 31, 32] (wL_m cI cL cZ qo f adC σ' adM τ) (wL_mf cI cL cZ qo f adC σ' adM τ) (by decide) (wL_h cI cL cZ qo f adC σ' adM τ) (by decide) (by decide) rfl rfl rfl (Nat.le_of_ble_eq_true rfl) d_La_law_730 ?_
  refine gw_eq (ws' := (wL cI cL cZ qo f adC σ' adM τ')) rfl rfl ?_
  refine gw_icmp_eq (tgt := 1144) C d_La_law_733 (by decide) (fun _ => ?_) (fun h => absurd rfl h)
  exact kk _ _ _ hrel'
set_option maxRecDepth 100000 in
set_option maxHeartbeats 4000000 in
theorem law_value {Rel : Nat → St → St → Prop} (S : LawSim Rel) {p : Program} {l : Launch} {e : Env} {s : State} {m : MethodId} {below : List Frame} {meth : Method} {c : Code} {D : va_G} {A : Nat → Prop} {Q : State → Prop} {cI cL cZ : ClassId} {b L : Nat} {xs : Nat → Int32} (CT : gw_CT l p s m #[Value.ref b] meth c code 7 R_La D gw_cl (gw_ty cI cL cZ) A) (hN : gw_Nc s) (hX : va_X b L xs s s.heap) (hbl : b < s.heap.size) (hbA : ¬ A b) {qo : Nat} {f : Nat → Int64} {adC adM : Nat → Nat} {σ τ : St} {n cells slots : Nat} (hn : n < 512) (hrel : Rel n σ τ) (hc1 : cells + 1 ≤ room_1.cells) (hs1 : slots + 6 ≤ room_1.slots) {x4 v1 v2 v3 : Int32} (h_1 : vp_in (x4 + 1) L) (h_2 : vp_in (x4 + 2) L) (h_3 : vp_in (x4 + 3) L) (e_1 : xs (x4 + 1).toNatClampNeg = v1) (e_2 : xs (x4 + 2).toNatClampNeg = v2) (e_3 : xs (x4 + 3).toNatClampNeg = v3)
    (kk : ∀ (f' : Nat → Int64) (σ' τ' : St), Rel (n + 1) σ' τ' → gw_W p l e room_1 s m #[Value.ref b] below meth c D gw_cl A Q (cells + 1) (slots + 6) 7 (wL cI cL cZ qo f' adC σ' adM τ') [(0, .ref b), (1, .ref (adC 0)), (2, .ref (adM 0)), (3, .ref qo), (4, .int x4)] 1144 []) : gw_W p l e room_1 s m #[Value.ref b] below meth c D gw_cl A Q cells slots 7 (wL cI cL cZ qo f adC σ adM τ) [(0, .ref b), (1, .ref (adC 0)), (2, .ref (adM 0)), (3, .ref qo), (4, .int x4)] 738 [] := by
  have C := CT.1
  refine gw_aload_n C d_La_law_738 rfl 1 rfl ?_
  obtain ⟨r, σ', τ', h1, h2, hrel'⟩ := S.2.2.2.2.2.2.2.2.2.2.2.2.1 n σ τ hn hrel
  refine gw_widen (cells' := cells + 1) (slots' := slots + 6) (Nat.le_add_right _ _) (Nat.le_add_right _ _) ?_
  refine gw_callVF (T := T_Gw) (N := 1) (n := 0) (q0 := 0) (As := []) (st := []) C (c_Gw_value l D cI cL cZ adC h1) tb_266 tb_263 tb_264 tb_265 tb_1 (by decide +kernel) ⟨Nat.le_of_ble_eq_true rfl, Nat.le_of_ble_eq_true rfl⟩ ⟨hc1, hs1⟩ rfl rfl [1, 2, 3, 4, 5, 6, 7, 8, 9, 10, 11, 12, 13, 14, 15, 16, 17, 18, 19, 20, 21, 22, 23, 24, 25, 26, 27, 28, 29, 30, 31, 32] [0, 33, 34, 35, 36, 37, 38, 39, 40, 41, 42, 43, 44, 45, 46, 47, 48, 49, 50, 51, 52, 53, 54, 55, 56, 57, 58] (wL_c cI cL cZ qo f adC σ adM τ) (wL_cf cI cL cZ qo f adC σ adM τ) (by decide) (wL_r cI cL cZ qo f adC σ adM τ) (by decide) (by decide) rfl rfl rfl (Nat.le_of_ble_eq_true rfl) d_La_law_739 ?_
  refine gw_perm [0, 27, 28, 29, 30, 31, 32, 33, 34, 35, 36, 37, 38, 39, 40, 41, 42, 43, 44, 45, 46, 47, 48, 49, 50, 51, 52, 53, 54, 55, 56, 57, 58, 1, 2, 3, 4, 5, 6, 7, 8, 9, 10, 11, 12, 13, 14, 15, 16, 17, 18, 19, 20, 21, 22, 23, 24, 25, 26] (wL_pc cI cL cZ qo f adC σ' adM τ) (wL_pcm cI cL cZ qo f adC σ' adM τ) (by decide) ?_
  refine gw_aload_n C d_La_law_742 rfl 2 rfl ?_
  refine gw_callVF (T := T_Mo) (N := 48) (n := 0) (q0 := 0) (As := []) (st := [.long r]) C (c_Mo_value l D cI cL cZ adM h2) tb_1166 tb_1163 tb_1164 tb_1165 tb_8 (by decide +kernel) ⟨Nat.le_of_ble_eq_true rfl, Nat.le_of_ble_eq_true rfl⟩ ⟨hc1, hs1⟩ rfl rfl [33, 34, 35, 36, 37, 38, 39, 40, 41, 42, 43, 44, 45, 46, 47, 48, 49, 50, 51, 52, 53, 54, 55, 56, 57, 58] [0, 1, 2, 3, 4, 5, 6, 7, 8, 9, 10, 11, 12, 13, 14, 15, 16, 17, 18, 19, 20, 21, 22, 23, 24, 25, 26, 27, 28, 29, 30, 31, 32] (wL_m cI cL cZ qo f adC σ' adM τ) (wL_mf cI cL cZ qo f adC σ' adM τ) (by decide) (wL_h cI cL cZ qo f adC σ' adM τ) (by decide) (by decide) rfl rfl rfl (Nat.le_of_ble_eq_true rfl) d_La_law_743 ?_
  refine gw_eq (ws' := (wL cI cL cZ qo f adC σ' adM τ')) rfl rfl ?_
  refine gw_lcmp C d_La_law_746 ?_
  refine gw_if_eq (tgt := 1144) C d_La_law_747 (by decide) (fun _ => ?_) (fun h => absurd (gw_lc2 _) h)
  exact kk _ _ _ hrel'
set_option maxRecDepth 100000 in
set_option maxHeartbeats 4000000 in
theorem law_told {Rel : Nat → St → St → Prop} (S : LawSim Rel) {p : Program} {l : Launch} {e : Env} {s : State} {m : MethodId} {below : List Frame} {meth : Method} {c : Code} {D : va_G} {A : Nat → Prop} {Q : State → Prop} {cI cL cZ : ClassId} {b L : Nat} {xs : Nat → Int32} (CT : gw_CT l p s m #[Value.ref b] meth c code 7 R_La D gw_cl (gw_ty cI cL cZ) A) (hN : gw_Nc s) (hX : va_X b L xs s s.heap) (hbl : b < s.heap.size) (hbA : ¬ A b) {qo : Nat} {f : Nat → Int64} {adC adM : Nat → Nat} {σ τ : St} {n cells slots : Nat} (hn : n < 512) (hrel : Rel n σ τ) (hc1 : cells + 1 ≤ room_1.cells) (hs1 : slots + 6 ≤ room_1.slots) {x4 v1 v2 v3 : Int32} (h_1 : vp_in (x4 + 1) L) (h_2 : vp_in (x4 + 2) L) (h_3 : vp_in (x4 + 3) L) (e_1 : xs (x4 + 1).toNatClampNeg = v1) (e_2 : xs (x4 + 2).toNatClampNeg = v2) (e_3 : xs (x4 + 3).toNatClampNeg = v3)
    (kk : ∀ (f' : Nat → Int64) (σ' τ' : St), Rel (n + 1) σ' τ' → gw_W p l e room_1 s m #[Value.ref b] below meth c D gw_cl A Q (cells + 1) (slots + 6) 7 (wL cI cL cZ qo f' adC σ' adM τ') [(0, .ref b), (1, .ref (adC 0)), (2, .ref (adM 0)), (3, .ref qo), (4, .int x4)] 1144 []) : gw_W p l e room_1 s m #[Value.ref b] below meth c D gw_cl A Q cells slots 7 (wL cI cL cZ qo f adC σ adM τ) [(0, .ref b), (1, .ref (adC 0)), (2, .ref (adM 0)), (3, .ref qo), (4, .int x4)] 752 [] := by
  have C := CT.1
  refine gw_aload_n C d_La_law_752 rfl 1 rfl ?_
  refine gw_aload_n C d_La_law_753 rfl 0 rfl ?_
  refine gw_iload C d_La_law_754 4 rfl ?_
  refine gw_iconst (v := 1) C d_La_law_756 (by decide) ?_
  refine gw_iadd C d_La_law_757 ?_
  refine gw_sld (v := v1) C hX hbl hbA h_1 e_1 d_La_law_758 ?_
  refine gw_aload_n C d_La_law_759 rfl 3 rfl ?_
  obtain ⟨k, r, σ', bv, τ', th, h1, h2, h3, hrel', hcs⟩ := S.2.2.2.2.2.2.2.2.2.2.2.2.2.1 n σ τ v1 hn hrel
  rcases hcs with ⟨rfl, rfl, rfl⟩ | ⟨rfl, rfl⟩
  · refine gw_callSH (n := 3) (As := [.ref (adC 0), .int v1, .ref qo]) (st := []) CT hN (h_La_told_0 l CT.2.2.2 D cI cL cZ adC qo f h1) tbW_786 tb_784 tb_785 tbI_La (by decide +kernel) ⟨Nat.le_of_ble_eq_true rfl, Nat.le_of_ble_eq_true rfl⟩ ⟨hc1, hs1⟩ [0, 1, 2, 3, 4, 5, 6, 7, 8, 9, 10, 11, 12, 13, 14, 15, 16, 17, 18, 19, 20, 21, 22, 23, 24, 25, 26, 27, 28, 29, 30, 31, 32] [33, 34, 35, 36, 37, 38, 39, 40, 41, 42, 43, 44, 45, 46, 47, 48, 49, 50, 51, 52, 53, 54, 55, 56, 57, 58] (wL_h cI cL cZ qo f adC σ adM τ) (wL_hf cI cL cZ qo f adC σ adM τ) (by decide) (wL_m cI cL cZ qo f adC σ adM τ) (by decide) (by decide) rfl (Nat.le_of_ble_eq_true rfl) d_La_law_760 ?_
    refine gw_widen (cells' := cells + 1) (slots' := slots + 6) (Nat.add_le_add_left (by decide) _) (Nat.add_le_add_left (by decide) _) ?_
    refine gw_perm [26, 27, 28, 29, 30, 31, 32, 33, 34, 35, 36, 37, 38, 39, 40, 41, 42, 43, 44, 45, 46, 47, 48, 49, 50, 51, 52, 53, 54, 55, 56, 57, 58, 0, 1, 2, 3, 4, 5, 6, 7, 8, 9, 10, 11, 12, 13, 14, 15, 16, 17, 18, 19, 20, 21, 22, 23, 24, 25] (wL_ph cI cL cZ qo (vp_updL f (0 : Int32).toNatClampNeg r.toInt64) adC σ' adM τ) (wL_phm cI cL cZ qo (vp_updL f (0 : Int32).toNatClampNeg r.toInt64) adC σ' adM τ) (by decide) ?_
    refine gw_istore (lv' := [(5, .int 0), (0, .ref b), (1, .ref (adC 0)), (2, .ref (adM 0)), (3, .ref qo), (4, .int x4)]) C d_La_law_763 (by decide) rfl ?_
    refine gw_aload_n C d_La_law_765 rfl 3 rfl ?_
    refine gw_aload_n C d_La_law_766 rfl 1 rfl ?_
    refine gw_iload C d_La_law_767 5 rfl ?_
    refine gw_iconst (v := 1) C d_La_law_769 (by decide) ?_
    refine gw_iadd C d_La_law_770 ?_
    refine gw_sld (v := v1) C hX hbl hbA h_1 e_1 d_La_law_771 ?_
    refine gw_callVF (T := T_Mo) (N := 48) (n := 1) (q0 := 0) (As := [.int v1]) (st := []) C (c_Mo_told l D cI cL cZ adM h2) tb_1170 tb_1167 tb_1168 tb_1169 tb_8 (by decide +kernel) ⟨Nat.le_of_ble_eq_true rfl, Nat.le_of_ble_eq_true rfl⟩ ⟨hc1, hs1⟩ rfl rfl [33, 34, 35, 36, 37, 38, 39, 40, 41, 42, 43, 44, 45, 46, 47, 48, 49, 50, 51, 52, 53, 54, 55, 56, 57, 58] [0, 1, 2, 3, 4, 5, 6, 7, 8, 9, 10, 11, 12, 13, 14, 15, 16, 17, 18, 19, 20, 21, 22, 23, 24, 25, 26, 27, 28, 29, 30, 31, 32] (wL_m cI cL cZ qo (vp_updL f (0 : Int32).toNatClampNeg r.toInt64) adC σ' adM τ) (wL_mf cI cL cZ qo (vp_updL f (0 : Int32).toNatClampNeg r.toInt64) adC σ' adM τ) (by decide) (wL_h cI cL cZ qo (vp_updL f (0 : Int32).toNatClampNeg r.toInt64) adC σ' adM τ) (by decide) (by decide) rfl rfl rfl (Nat.le_of_ble_eq_true rfl) d_La_law_772 ?_
    refine gw_eq (ws' := (wL cI cL cZ qo (vp_updL f (0 : Int32).toNatClampNeg r.toInt64) adC σ' adM τ')) rfl rfl ?_
    refine gw_istore (lv' := [(6, .int r), (5, .int 0), (0, .ref b), (1, .ref (adC 0)), (2, .ref (adM 0)), (3, .ref qo), (4, .int x4)]) C d_La_law_775 (by decide) rfl ?_
    refine gw_aload_n C d_La_law_777 rfl 4 rfl ?_
    refine gw_callVF (T := T_Mo) (N := 48) (n := 0) (q0 := 0) (As := []) (st := []) C (c_Mo_thrown l D cI cL cZ adM h3) tb_1020 tb_1017 tb_1018 tb_1019 tb_8 (by decide +kernel) ⟨Nat.le_of_ble_eq_true rfl, Nat.le_of_ble_eq_true rfl⟩ ⟨hc1, hs1⟩ rfl rfl [33, 34, 35, 36, 37, 38, 39, 40, 41, 42, 43, 44, 45, 46, 47, 48, 49, 50, 51, 52, 53, 54, 55, 56, 57, 58] [0, 1, 2, 3, 4, 5, 6, 7, 8, 9, 10, 11, 12, 13, 14, 15, 16, 17, 18, 19, 20, 21, 22, 23, 24, 25, 26, 27, 28, 29, 30, 31, 32] (wL_m cI cL cZ qo (vp_updL f (0 : Int32).toNatClampNeg r.toInt64) adC σ' adM τ') (wL_mf cI cL cZ qo (vp_updL f (0 : Int32).toNatClampNeg r.toInt64) adC σ' adM τ') (by decide) (wL_h cI cL cZ qo (vp_updL f (0 : Int32).toNatClampNeg r.toInt64) adC σ' adM τ') (by decide) (by decide) rfl rfl rfl (Nat.le_of_ble_eq_true rfl) d_La_law_778 ?_
    refine gw_eq (ws' := (wL cI cL cZ qo (vp_updL f (0 : Int32).toNatClampNeg r.toInt64) adC σ' adM τ')) rfl rfl ?_
    refine gw_iload C d_La_law_781 1 rfl ?_
    refine gw_icmp_eq (tgt := 788) C d_La_law_783 (by decide) (fun _ => ?_) (fun h => absurd rfl h)
    refine gw_iload C d_La_law_788 1 rfl ?_
    refine gw_if_ne (tgt := 805) C d_La_law_790 (by decide) (fun h => absurd rfl h) (fun _ => ?_)
    refine gw_aload_n C d_La_law_793 rfl 5 rfl ?_
    refine gw_iconst (v := 0) C d_La_law_794 (by decide) ?_
    refine gw_lald C 0 1 rfl rfl (vp_in_nI (n := 0) (N := 1) (by decide) (by decide)) d_La_law_795 ?_
    refine gw_iload C d_La_law_796 0 rfl ?_
    refine gw_i2l C d_La_law_798 ?_
    refine gw_lcmp C d_La_law_799 ?_
    refine gw_if_eq (tgt := 805) C d_La_law_800 (by decide) (fun _ => ?_) (fun h => absurd (gw_lc _ _ _) h)
    refine gw_goto (tgt := 1144) C d_La_law_805 (by decide) ?_
    refine gw_less [2, 3, 4, 5, 6] rfl ?_
    exact kk _ _ _ hrel'
  · refine gw_callSH (n := 3) (As := [.ref (adC 0), .int v1, .ref qo]) (st := []) CT hN (h_La_told_3 l CT.2.2.2 D cI cL cZ adC qo f h1) tbW_786 tb_784 tb_785 tbI_La (by decide +kernel) ⟨Nat.le_of_ble_eq_true rfl, Nat.le_of_ble_eq_true rfl⟩ ⟨hc1, hs1⟩ [0, 1, 2, 3, 4, 5, 6, 7, 8, 9, 10, 11, 12, 13, 14, 15, 16, 17, 18, 19, 20, 21, 22, 23, 24, 25, 26, 27, 28, 29, 30, 31, 32] [33, 34, 35, 36, 37, 38, 39, 40, 41, 42, 43, 44, 45, 46, 47, 48, 49, 50, 51, 52, 53, 54, 55, 56, 57, 58] (wL_h cI cL cZ qo f adC σ adM τ) (wL_hf cI cL cZ qo f adC σ adM τ) (by decide) (wL_m cI cL cZ qo f adC σ adM τ) (by decide) (by decide) rfl (Nat.le_of_ble_eq_true rfl) d_La_law_760 ?_
    refine gw_widen (cells' := cells + 1) (slots' := slots + 6) (Nat.add_le_add_left (by decide) _) (Nat.add_le_add_left (by decide) _) ?_
    refine gw_perm [26, 27, 28, 29, 30, 31, 32, 33, 34, 35, 36, 37, 38, 39, 40, 41, 42, 43, 44, 45, 46, 47, 48, 49, 50, 51, 52, 53, 54, 55, 56, 57, 58, 0, 1, 2, 3, 4, 5, 6, 7, 8, 9, 10, 11, 12, 13, 14, 15, 16, 17, 18, 19, 20, 21, 22, 23, 24, 25] (wL_ph cI cL cZ qo f adC σ' adM τ) (wL_phm cI cL cZ qo f adC σ' adM τ) (by decide) ?_
    refine gw_istore (lv' := [(5, .int 1), (0, .ref b), (1, .ref (adC 0)), (2, .ref (adM 0)), (3, .ref qo), (4, .int x4)]) C d_La_law_763 (by decide) rfl ?_
    refine gw_aload_n C d_La_law_765 rfl 3 rfl ?_
    refine gw_aload_n C d_La_law_766 rfl 1 rfl ?_
    refine gw_iload C d_La_law_767 5 rfl ?_
    refine gw_iconst (v := 1) C d_La_law_769 (by decide) ?_
    refine gw_iadd C d_La_law_770 ?_
    refine gw_sld (v := v1) C hX hbl hbA h_1 e_1 d_La_law_771 ?_
    refine gw_callVF (T := T_Mo) (N := 48) (n := 1) (q0 := 0) (As := [.int v1]) (st := []) C (c_Mo_told l D cI cL cZ adM h2) tb_1170 tb_1167 tb_1168 tb_1169 tb_8 (by decide +kernel) ⟨Nat.le_of_ble_eq_true rfl, Nat.le_of_ble_eq_true rfl⟩ ⟨hc1, hs1⟩ rfl rfl [33, 34, 35, 36, 37, 38, 39, 40, 41, 42, 43, 44, 45, 46, 47, 48, 49, 50, 51, 52, 53, 54, 55, 56, 57, 58] [0, 1, 2, 3, 4, 5, 6, 7, 8, 9, 10, 11, 12, 13, 14, 15, 16, 17, 18, 19, 20, 21, 22, 23, 24, 25, 26, 27, 28, 29, 30, 31, 32] (wL_m cI cL cZ qo f adC σ' adM τ) (wL_mf cI cL cZ qo f adC σ' adM τ) (by decide) (wL_h cI cL cZ qo f adC σ' adM τ) (by decide) (by decide) rfl rfl rfl (Nat.le_of_ble_eq_true rfl) d_La_law_772 ?_
    refine gw_eq (ws' := (wL cI cL cZ qo f adC σ' adM τ')) rfl rfl ?_
    refine gw_istore (lv' := [(6, .int bv), (5, .int 1), (0, .ref b), (1, .ref (adC 0)), (2, .ref (adM 0)), (3, .ref qo), (4, .int x4)]) C d_La_law_775 (by decide) rfl ?_
    refine gw_aload_n C d_La_law_777 rfl 4 rfl ?_
    refine gw_callVF (T := T_Mo) (N := 48) (n := 0) (q0 := 0) (As := []) (st := []) C (c_Mo_thrown l D cI cL cZ adM h3) tb_1020 tb_1017 tb_1018 tb_1019 tb_8 (by decide +kernel) ⟨Nat.le_of_ble_eq_true rfl, Nat.le_of_ble_eq_true rfl⟩ ⟨hc1, hs1⟩ rfl rfl [33, 34, 35, 36, 37, 38, 39, 40, 41, 42, 43, 44, 45, 46, 47, 48, 49, 50, 51, 52, 53, 54, 55, 56, 57, 58] [0, 1, 2, 3, 4, 5, 6, 7, 8, 9, 10, 11, 12, 13, 14, 15, 16, 17, 18, 19, 20, 21, 22, 23, 24, 25, 26, 27, 28, 29, 30, 31, 32] (wL_m cI cL cZ qo f adC σ' adM τ') (wL_mf cI cL cZ qo f adC σ' adM τ') (by decide) (wL_h cI cL cZ qo f adC σ' adM τ') (by decide) (by decide) rfl rfl rfl (Nat.le_of_ble_eq_true rfl) d_La_law_778 ?_
    refine gw_eq (ws' := (wL cI cL cZ qo f adC σ' adM τ')) rfl rfl ?_
    refine gw_iload C d_La_law_781 1 rfl ?_
    refine gw_icmp_eq (tgt := 788) C d_La_law_783 (by decide) (fun _ => ?_) (fun h => absurd rfl h)
    refine gw_iload C d_La_law_788 1 rfl ?_
    refine gw_if_ne (tgt := 805) C d_La_law_790 (by decide) (fun _ => ?_) (fun h => absurd h (by decide))
    refine gw_goto (tgt := 1144) C d_La_law_805 (by decide) ?_
    refine gw_less [2, 3, 4, 5, 6] rfl ?_
    exact kk _ _ _ hrel'
set_option maxRecDepth 100000 in
set_option maxHeartbeats 4000000 in
theorem law_thing {Rel : Nat → St → St → Prop} (S : LawSim Rel) {p : Program} {l : Launch} {e : Env} {s : State} {m : MethodId} {below : List Frame} {meth : Method} {c : Code} {D : va_G} {A : Nat → Prop} {Q : State → Prop} {cI cL cZ : ClassId} {b L : Nat} {xs : Nat → Int32} (CT : gw_CT l p s m #[Value.ref b] meth c code 7 R_La D gw_cl (gw_ty cI cL cZ) A) (hN : gw_Nc s) (hX : va_X b L xs s s.heap) (hbl : b < s.heap.size) (hbA : ¬ A b) {qo : Nat} {f : Nat → Int64} {adC adM : Nat → Nat} {σ τ : St} {n cells slots : Nat} (hn : n < 512) (hrel : Rel n σ τ) (hc1 : cells + 1 ≤ room_1.cells) (hs1 : slots + 6 ≤ room_1.slots) {x4 v1 v2 v3 : Int32} (h_1 : vp_in (x4 + 1) L) (h_2 : vp_in (x4 + 2) L) (h_3 : vp_in (x4 + 3) L) (e_1 : xs (x4 + 1).toNatClampNeg = v1) (e_2 : xs (x4 + 2).toNatClampNeg = v2) (e_3 : xs (x4 + 3).toNatClampNeg = v3)
    (kk : ∀ (f' : Nat → Int64) (σ' τ' : St), Rel (n + 1) σ' τ' → gw_W p l e room_1 s m #[Value.ref b] below meth c D gw_cl A Q (cells + 1) (slots + 6) 7 (wL cI cL cZ qo f' adC σ' adM τ') [(0, .ref b), (1, .ref (adC 0)), (2, .ref (adM 0)), (3, .ref qo), (4, .int x4)] 1144 []) : gw_W p l e room_1 s m #[Value.ref b] below meth c D gw_cl A Q cells slots 7 (wL cI cL cZ qo f adC σ adM τ) [(0, .ref b), (1, .ref (adC 0)), (2, .ref (adM 0)), (3, .ref qo), (4, .int x4)] 808 [] := by
  have C := CT.1
  refine gw_aload_n C d_La_law_808 rfl 1 rfl ?_
  refine gw_aload_n C d_La_law_809 rfl 0 rfl ?_
  refine gw_iload C d_La_law_810 4 rfl ?_
  refine gw_iconst (v := 1) C d_La_law_812 (by decide) ?_
  refine gw_iadd C d_La_law_813 ?_
  refine gw_sld (v := v1) C hX hbl hbA h_1 e_1 d_La_law_814 ?_
  refine gw_aload_n C d_La_law_815 rfl 3 rfl ?_
  obtain ⟨k, r, σ', bv, τ', th, h1, h2, h3, hrel', hcs⟩ := S.2.2.2.2.2.2.2.2.2.2.2.2.2.2.1 n σ τ v1 hn hrel
  rcases hcs with ⟨rfl, rfl, rfl⟩ | ⟨rfl, rfl⟩
  · refine gw_callSH (n := 3) (As := [.ref (adC 0), .int v1, .ref qo]) (st := []) CT hN (h_La_thing_0 l CT.2.2.2 D cI cL cZ adC qo f h1) tbW_798 tb_796 tb_797 tbI_La (by decide +kernel) ⟨Nat.le_of_ble_eq_true rfl, Nat.le_of_ble_eq_true rfl⟩ ⟨hc1, hs1⟩ [0, 1, 2, 3, 4, 5, 6, 7, 8, 9, 10, 11, 12, 13, 14, 15, 16, 17, 18, 19, 20, 21, 22, 23, 24, 25, 26, 27, 28, 29, 30, 31, 32] [33, 34, 35, 36, 37, 38, 39, 40, 41, 42, 43, 44, 45, 46, 47, 48, 49, 50, 51, 52, 53, 54, 55, 56, 57, 58] (wL_h cI cL cZ qo f adC σ adM τ) (wL_hf cI cL cZ qo f adC σ adM τ) (by decide) (wL_m cI cL cZ qo f adC σ adM τ) (by decide) (by decide) rfl (Nat.le_of_ble_eq_true rfl) d_La_law_816 ?_
    refine gw_widen (cells' := cells + 1) (slots' := slots + 6) (Nat.add_le_add_left (by decide) _) (Nat.add_le_add_left (by decide) _) ?_
    refine gw_perm [26, 27, 28, 29, 30, 31, 32, 33, 34, 35, 36, 37, 38, 39, 40, 41, 42, 43, 44, 45, 46, 47, 48, 49, 50, 51, 52, 53, 54, 55, 56, 57, 58, 0, 1, 2, 3, 4, 5, 6, 7, 8, 9, 10, 11, 12, 13, 14, 15, 16, 17, 18, 19, 20, 21, 22, 23, 24, 25] (wL_ph cI cL cZ qo (vp_updL f (0 : Int32).toNatClampNeg r.toInt64) adC σ' adM τ) (wL_phm cI cL cZ qo (vp_updL f (0 : Int32).toNatClampNeg r.toInt64) adC σ' adM τ) (by decide) ?_
    refine gw_istore (lv' := [(5, .int 0), (0, .ref b), (1, .ref (adC 0)), (2, .ref (adM 0)), (3, .ref qo), (4, .int x4)]) C d_La_law_819 (by decide) rfl ?_
    refine gw_aload_n C d_La_law_821 rfl 3 rfl ?_
    refine gw_aload_n C d_La_law_822 rfl 1 rfl ?_
    refine gw_iload C d_La_law_823 5 rfl ?_
    refine gw_iconst (v := 1) C d_La_law_825 (by decide) ?_
    refine gw_iadd C d_La_law_826 ?_
    refine gw_sld (v := v1) C hX hbl hbA h_1 e_1 d_La_law_827 ?_
    refine gw_callVF (T := T_Mo) (N := 48) (n := 1) (q0 := 0) (As := [.int v1]) (st := []) C (c_Mo_thing l D cI cL cZ adM h2) tb_1174 tb_1171 tb_1172 tb_1173 tb_8 (by decide +kernel) ⟨Nat.le_of_ble_eq_true rfl, Nat.le_of_ble_eq_true rfl⟩ ⟨hc1, hs1⟩ rfl rfl [33, 34, 35, 36, 37, 38, 39, 40, 41, 42, 43, 44, 45, 46, 47, 48, 49, 50, 51, 52, 53, 54, 55, 56, 57, 58] [0, 1, 2, 3, 4, 5, 6, 7, 8, 9, 10, 11, 12, 13, 14, 15, 16, 17, 18, 19, 20, 21, 22, 23, 24, 25, 26, 27, 28, 29, 30, 31, 32] (wL_m cI cL cZ qo (vp_updL f (0 : Int32).toNatClampNeg r.toInt64) adC σ' adM τ) (wL_mf cI cL cZ qo (vp_updL f (0 : Int32).toNatClampNeg r.toInt64) adC σ' adM τ) (by decide) (wL_h cI cL cZ qo (vp_updL f (0 : Int32).toNatClampNeg r.toInt64) adC σ' adM τ) (by decide) (by decide) rfl rfl rfl (Nat.le_of_ble_eq_true rfl) d_La_law_828 ?_
    refine gw_eq (ws' := (wL cI cL cZ qo (vp_updL f (0 : Int32).toNatClampNeg r.toInt64) adC σ' adM τ')) rfl rfl ?_
    refine gw_istore (lv' := [(6, .int r), (5, .int 0), (0, .ref b), (1, .ref (adC 0)), (2, .ref (adM 0)), (3, .ref qo), (4, .int x4)]) C d_La_law_831 (by decide) rfl ?_
    refine gw_aload_n C d_La_law_833 rfl 4 rfl ?_
    refine gw_callVF (T := T_Mo) (N := 48) (n := 0) (q0 := 0) (As := []) (st := []) C (c_Mo_thrown l D cI cL cZ adM h3) tb_1020 tb_1017 tb_1018 tb_1019 tb_8 (by decide +kernel) ⟨Nat.le_of_ble_eq_true rfl, Nat.le_of_ble_eq_true rfl⟩ ⟨hc1, hs1⟩ rfl rfl [33, 34, 35, 36, 37, 38, 39, 40, 41, 42, 43, 44, 45, 46, 47, 48, 49, 50, 51, 52, 53, 54, 55, 56, 57, 58] [0, 1, 2, 3, 4, 5, 6, 7, 8, 9, 10, 11, 12, 13, 14, 15, 16, 17, 18, 19, 20, 21, 22, 23, 24, 25, 26, 27, 28, 29, 30, 31, 32] (wL_m cI cL cZ qo (vp_updL f (0 : Int32).toNatClampNeg r.toInt64) adC σ' adM τ') (wL_mf cI cL cZ qo (vp_updL f (0 : Int32).toNatClampNeg r.toInt64) adC σ' adM τ') (by decide) (wL_h cI cL cZ qo (vp_updL f (0 : Int32).toNatClampNeg r.toInt64) adC σ' adM τ') (by decide) (by decide) rfl rfl rfl (Nat.le_of_ble_eq_true rfl) d_La_law_834 ?_
    refine gw_eq (ws' := (wL cI cL cZ qo (vp_updL f (0 : Int32).toNatClampNeg r.toInt64) adC σ' adM τ')) rfl rfl ?_
    refine gw_iload C d_La_law_837 1 rfl ?_
    refine gw_icmp_eq (tgt := 844) C d_La_law_839 (by decide) (fun _ => ?_) (fun h => absurd rfl h)
    refine gw_iload C d_La_law_844 1 rfl ?_
    refine gw_if_ne (tgt := 861) C d_La_law_846 (by decide) (fun h => absurd rfl h) (fun _ => ?_)
    refine gw_aload_n C d_La_law_849 rfl 5 rfl ?_
    refine gw_iconst (v := 0) C d_La_law_850 (by decide) ?_
    refine gw_lald C 0 1 rfl rfl (vp_in_nI (n := 0) (N := 1) (by decide) (by decide)) d_La_law_851 ?_
    refine gw_iload C d_La_law_852 0 rfl ?_
    refine gw_i2l C d_La_law_854 ?_
    refine gw_lcmp C d_La_law_855 ?_
    refine gw_if_eq (tgt := 861) C d_La_law_856 (by decide) (fun _ => ?_) (fun h => absurd (gw_lc _ _ _) h)
    refine gw_goto (tgt := 1144) C d_La_law_861 (by decide) ?_
    refine gw_less [2, 3, 4, 5, 6] rfl ?_
    exact kk _ _ _ hrel'
  · refine gw_callSH (n := 3) (As := [.ref (adC 0), .int v1, .ref qo]) (st := []) CT hN (h_La_thing_1 l CT.2.2.2 D cI cL cZ adC qo f h1) tbW_798 tb_796 tb_797 tbI_La (by decide +kernel) ⟨Nat.le_of_ble_eq_true rfl, Nat.le_of_ble_eq_true rfl⟩ ⟨hc1, hs1⟩ [0, 1, 2, 3, 4, 5, 6, 7, 8, 9, 10, 11, 12, 13, 14, 15, 16, 17, 18, 19, 20, 21, 22, 23, 24, 25, 26, 27, 28, 29, 30, 31, 32] [33, 34, 35, 36, 37, 38, 39, 40, 41, 42, 43, 44, 45, 46, 47, 48, 49, 50, 51, 52, 53, 54, 55, 56, 57, 58] (wL_h cI cL cZ qo f adC σ adM τ) (wL_hf cI cL cZ qo f adC σ adM τ) (by decide) (wL_m cI cL cZ qo f adC σ adM τ) (by decide) (by decide) rfl (Nat.le_of_ble_eq_true rfl) d_La_law_816 ?_
    refine gw_widen (cells' := cells + 1) (slots' := slots + 6) (Nat.add_le_add_left (by decide) _) (Nat.add_le_add_left (by decide) _) ?_
    refine gw_perm [26, 27, 28, 29, 30, 31, 32, 33, 34, 35, 36, 37, 38, 39, 40, 41, 42, 43, 44, 45, 46, 47, 48, 49, 50, 51, 52, 53, 54, 55, 56, 57, 58, 0, 1, 2, 3, 4, 5, 6, 7, 8, 9, 10, 11, 12, 13, 14, 15, 16, 17, 18, 19, 20, 21, 22, 23, 24, 25] (wL_ph cI cL cZ qo f adC σ' adM τ) (wL_phm cI cL cZ qo f adC σ' adM τ) (by decide) ?_
    refine gw_istore (lv' := [(5, .int 1), (0, .ref b), (1, .ref (adC 0)), (2, .ref (adM 0)), (3, .ref qo), (4, .int x4)]) C d_La_law_819 (by decide) rfl ?_
    refine gw_aload_n C d_La_law_821 rfl 3 rfl ?_
    refine gw_aload_n C d_La_law_822 rfl 1 rfl ?_
    refine gw_iload C d_La_law_823 5 rfl ?_
    refine gw_iconst (v := 1) C d_La_law_825 (by decide) ?_
    refine gw_iadd C d_La_law_826 ?_
    refine gw_sld (v := v1) C hX hbl hbA h_1 e_1 d_La_law_827 ?_
    refine gw_callVF (T := T_Mo) (N := 48) (n := 1) (q0 := 0) (As := [.int v1]) (st := []) C (c_Mo_thing l D cI cL cZ adM h2) tb_1174 tb_1171 tb_1172 tb_1173 tb_8 (by decide +kernel) ⟨Nat.le_of_ble_eq_true rfl, Nat.le_of_ble_eq_true rfl⟩ ⟨hc1, hs1⟩ rfl rfl [33, 34, 35, 36, 37, 38, 39, 40, 41, 42, 43, 44, 45, 46, 47, 48, 49, 50, 51, 52, 53, 54, 55, 56, 57, 58] [0, 1, 2, 3, 4, 5, 6, 7, 8, 9, 10, 11, 12, 13, 14, 15, 16, 17, 18, 19, 20, 21, 22, 23, 24, 25, 26, 27, 28, 29, 30, 31, 32] (wL_m cI cL cZ qo f adC σ' adM τ) (wL_mf cI cL cZ qo f adC σ' adM τ) (by decide) (wL_h cI cL cZ qo f adC σ' adM τ) (by decide) (by decide) rfl rfl rfl (Nat.le_of_ble_eq_true rfl) d_La_law_828 ?_
    refine gw_eq (ws' := (wL cI cL cZ qo f adC σ' adM τ')) rfl rfl ?_
    refine gw_istore (lv' := [(6, .int bv), (5, .int 1), (0, .ref b), (1, .ref (adC 0)), (2, .ref (adM 0)), (3, .ref qo), (4, .int x4)]) C d_La_law_831 (by decide) rfl ?_
    refine gw_aload_n C d_La_law_833 rfl 4 rfl ?_
    refine gw_callVF (T := T_Mo) (N := 48) (n := 0) (q0 := 0) (As := []) (st := []) C (c_Mo_thrown l D cI cL cZ adM h3) tb_1020 tb_1017 tb_1018 tb_1019 tb_8 (by decide +kernel) ⟨Nat.le_of_ble_eq_true rfl, Nat.le_of_ble_eq_true rfl⟩ ⟨hc1, hs1⟩ rfl rfl [33, 34, 35, 36, 37, 38, 39, 40, 41, 42, 43, 44, 45, 46, 47, 48, 49, 50, 51, 52, 53, 54, 55, 56, 57, 58] [0, 1, 2, 3, 4, 5, 6, 7, 8, 9, 10, 11, 12, 13, 14, 15, 16, 17, 18, 19, 20, 21, 22, 23, 24, 25, 26, 27, 28, 29, 30, 31, 32] (wL_m cI cL cZ qo f adC σ' adM τ') (wL_mf cI cL cZ qo f adC σ' adM τ') (by decide) (wL_h cI cL cZ qo f adC σ' adM τ') (by decide) (by decide) rfl rfl rfl (Nat.le_of_ble_eq_true rfl) d_La_law_834 ?_
    refine gw_eq (ws' := (wL cI cL cZ qo f adC σ' adM τ')) rfl rfl ?_
    refine gw_iload C d_La_law_837 1 rfl ?_
    refine gw_icmp_eq (tgt := 844) C d_La_law_839 (by decide) (fun _ => ?_) (fun h => absurd rfl h)
    refine gw_iload C d_La_law_844 1 rfl ?_
    refine gw_if_ne (tgt := 861) C d_La_law_846 (by decide) (fun _ => ?_) (fun h => absurd h (by decide))
    refine gw_goto (tgt := 1144) C d_La_law_861 (by decide) ?_
    refine gw_less [2, 3, 4, 5, 6] rfl ?_
    exact kk _ _ _ hrel'
set_option maxRecDepth 100000 in
set_option maxHeartbeats 4000000 in
theorem law_worked {Rel : Nat → St → St → Prop} (S : LawSim Rel) {p : Program} {l : Launch} {e : Env} {s : State} {m : MethodId} {below : List Frame} {meth : Method} {c : Code} {D : va_G} {A : Nat → Prop} {Q : State → Prop} {cI cL cZ : ClassId} {b L : Nat} {xs : Nat → Int32} (CT : gw_CT l p s m #[Value.ref b] meth c code 7 R_La D gw_cl (gw_ty cI cL cZ) A) (hN : gw_Nc s) (hX : va_X b L xs s s.heap) (hbl : b < s.heap.size) (hbA : ¬ A b) {qo : Nat} {f : Nat → Int64} {adC adM : Nat → Nat} {σ τ : St} {n cells slots : Nat} (hn : n < 512) (hrel : Rel n σ τ) (hc1 : cells + 1 ≤ room_1.cells) (hs1 : slots + 6 ≤ room_1.slots) {x4 v1 v2 v3 : Int32} (h_1 : vp_in (x4 + 1) L) (h_2 : vp_in (x4 + 2) L) (h_3 : vp_in (x4 + 3) L) (e_1 : xs (x4 + 1).toNatClampNeg = v1) (e_2 : xs (x4 + 2).toNatClampNeg = v2) (e_3 : xs (x4 + 3).toNatClampNeg = v3)
    (kk : ∀ (f' : Nat → Int64) (σ' τ' : St), Rel (n + 1) σ' τ' → gw_W p l e room_1 s m #[Value.ref b] below meth c D gw_cl A Q (cells + 1) (slots + 6) 7 (wL cI cL cZ qo f' adC σ' adM τ') [(0, .ref b), (1, .ref (adC 0)), (2, .ref (adM 0)), (3, .ref qo), (4, .int x4)] 1144 []) : gw_W p l e room_1 s m #[Value.ref b] below meth c D gw_cl A Q cells slots 7 (wL cI cL cZ qo f adC σ adM τ) [(0, .ref b), (1, .ref (adC 0)), (2, .ref (adM 0)), (3, .ref qo), (4, .int x4)] 864 [] := by
  have C := CT.1
  refine gw_aload_n C d_La_law_864 rfl 1 rfl ?_
  refine gw_aload_n C d_La_law_865 rfl 0 rfl ?_
  refine gw_iload C d_La_law_866 4 rfl ?_
  refine gw_iconst (v := 1) C d_La_law_868 (by decide) ?_
  refine gw_iadd C d_La_law_869 ?_
  refine gw_sld (v := v1) C hX hbl hbA h_1 e_1 d_La_law_870 ?_
  refine gw_aload_n C d_La_law_871 rfl 0 rfl ?_
  refine gw_iload C d_La_law_872 4 rfl ?_
  refine gw_iconst (v := 2) C d_La_law_874 (by decide) ?_
  refine gw_iadd C d_La_law_875 ?_
  refine gw_sld (v := v2) C hX hbl hbA h_2 e_2 d_La_law_876 ?_
  refine gw_aload_n C d_La_law_877 rfl 3 rfl ?_
  obtain ⟨k, r, σ', bv, τ', th, h1, h2, h3, hrel', hcs⟩ := S.2.2.2.2.2.2.2.2.2.2.2.2.2.2.2.1 n σ τ v1 v2 hn hrel
  rcases hcs with ⟨rfl, rfl, rfl⟩ | ⟨rfl, rfl⟩ | ⟨rfl, rfl⟩
  · refine gw_callSH (n := 4) (As := [.ref (adC 0), .int v1, .int v2, .ref qo]) (st := []) CT hN (h_La_worked_0 l CT.2.2.2 D cI cL cZ adC qo f h1) tbW_812 tb_810 tb_811 tbI_La (by decide +kernel) ⟨Nat.le_of_ble_eq_true rfl, Nat.le_of_ble_eq_true rfl⟩ ⟨hc1, hs1⟩ [0, 1, 2, 3, 4, 5, 6, 7, 8, 9, 10, 11, 12, 13, 14, 15, 16, 17, 18, 19, 20, 21, 22, 23, 24, 25, 26, 27, 28, 29, 30, 31, 32] [33, 34, 35, 36, 37, 38, 39, 40, 41, 42, 43, 44, 45, 46, 47, 48, 49, 50, 51, 52, 53, 54, 55, 56, 57, 58] (wL_h cI cL cZ qo f adC σ adM τ) (wL_hf cI cL cZ qo f adC σ adM τ) (by decide) (wL_m cI cL cZ qo f adC σ adM τ) (by decide) (by decide) rfl (Nat.le_of_ble_eq_true rfl) d_La_law_878 ?_
    refine gw_widen (cells' := cells + 1) (slots' := slots + 6) (Nat.add_le_add_left (by decide) _) (Nat.add_le_add_left (by decide) _) ?_
    refine gw_perm [26, 27, 28, 29, 30, 31, 32, 33, 34, 35, 36, 37, 38, 39, 40, 41, 42, 43, 44, 45, 46, 47, 48, 49, 50, 51, 52, 53, 54, 55, 56, 57, 58, 0, 1, 2, 3, 4, 5, 6, 7, 8, 9, 10, 11, 12, 13, 14, 15, 16, 17, 18, 19, 20, 21, 22, 23, 24, 25] (wL_ph cI cL cZ qo (vp_updL f (0 : Int32).toNatClampNeg r.toInt64) adC σ' adM τ) (wL_phm cI cL cZ qo (vp_updL f (0 : Int32).toNatClampNeg r.toInt64) adC σ' adM τ) (by decide) ?_
    refine gw_istore (lv' := [(5, .int 0), (0, .ref b), (1, .ref (adC 0)), (2, .ref (adM 0)), (3, .ref qo), (4, .int x4)]) C d_La_law_881 (by decide) rfl ?_
    refine gw_aload_n C d_La_law_883 rfl 3 rfl ?_
    refine gw_aload_n C d_La_law_884 rfl 1 rfl ?_
    refine gw_iload C d_La_law_885 5 rfl ?_
    refine gw_iconst (v := 1) C d_La_law_887 (by decide) ?_
    refine gw_iadd C d_La_law_888 ?_
    refine gw_sld (v := v1) C hX hbl hbA h_1 e_1 d_La_law_889 ?_
    refine gw_aload_n C d_La_law_890 rfl 1 rfl ?_
    refine gw_iload C d_La_law_891 5 rfl ?_
    refine gw_iconst (v := 2) C d_La_law_893 (by decide) ?_
    refine gw_iadd C d_La_law_894 ?_
    refine gw_sld (v := v2) C hX hbl hbA h_2 e_2 d_La_law_895 ?_
    refine gw_callVF (T := T_Mo) (N := 48) (n := 2) (q0 := 0) (As := [.int v1, .int v2]) (st := []) C (c_Mo_worked l D cI cL cZ adM h2) tb_1182 tb_1179 tb_1180 tb_1181 tb_8 (by decide +kernel) ⟨Nat.le_of_ble_eq_true rfl, Nat.le_of_ble_eq_true rfl⟩ ⟨hc1, hs1⟩ rfl rfl [33, 34, 35, 36, 37, 38, 39, 40, 41, 42, 43, 44, 45, 46, 47, 48, 49, 50, 51, 52, 53, 54, 55, 56, 57, 58] [0, 1, 2, 3, 4, 5, 6, 7, 8, 9, 10, 11, 12, 13, 14, 15, 16, 17, 18, 19, 20, 21, 22, 23, 24, 25, 26, 27, 28, 29, 30, 31, 32] (wL_m cI cL cZ qo (vp_updL f (0 : Int32).toNatClampNeg r.toInt64) adC σ' adM τ) (wL_mf cI cL cZ qo (vp_updL f (0 : Int32).toNatClampNeg r.toInt64) adC σ' adM τ) (by decide) (wL_h cI cL cZ qo (vp_updL f (0 : Int32).toNatClampNeg r.toInt64) adC σ' adM τ) (by decide) (by decide) rfl rfl rfl (Nat.le_of_ble_eq_true rfl) d_La_law_896 ?_
    refine gw_eq (ws' := (wL cI cL cZ qo (vp_updL f (0 : Int32).toNatClampNeg r.toInt64) adC σ' adM τ')) rfl rfl ?_
    refine gw_istore (lv' := [(6, .int r), (5, .int 0), (0, .ref b), (1, .ref (adC 0)), (2, .ref (adM 0)), (3, .ref qo), (4, .int x4)]) C d_La_law_899 (by decide) rfl ?_
    refine gw_aload_n C d_La_law_901 rfl 4 rfl ?_
    refine gw_callVF (T := T_Mo) (N := 48) (n := 0) (q0 := 0) (As := []) (st := []) C (c_Mo_thrown l D cI cL cZ adM h3) tb_1020 tb_1017 tb_1018 tb_1019 tb_8 (by decide +kernel) ⟨Nat.le_of_ble_eq_true rfl, Nat.le_of_ble_eq_true rfl⟩ ⟨hc1, hs1⟩ rfl rfl [33, 34, 35, 36, 37, 38, 39, 40, 41, 42, 43, 44, 45, 46, 47, 48, 49, 50, 51, 52, 53, 54, 55, 56, 57, 58] [0, 1, 2, 3, 4, 5, 6, 7, 8, 9, 10, 11, 12, 13, 14, 15, 16, 17, 18, 19, 20, 21, 22, 23, 24, 25, 26, 27, 28, 29, 30, 31, 32] (wL_m cI cL cZ qo (vp_updL f (0 : Int32).toNatClampNeg r.toInt64) adC σ' adM τ') (wL_mf cI cL cZ qo (vp_updL f (0 : Int32).toNatClampNeg r.toInt64) adC σ' adM τ') (by decide) (wL_h cI cL cZ qo (vp_updL f (0 : Int32).toNatClampNeg r.toInt64) adC σ' adM τ') (by decide) (by decide) rfl rfl rfl (Nat.le_of_ble_eq_true rfl) d_La_law_902 ?_
    refine gw_eq (ws' := (wL cI cL cZ qo (vp_updL f (0 : Int32).toNatClampNeg r.toInt64) adC σ' adM τ')) rfl rfl ?_
    refine gw_iload C d_La_law_905 1 rfl ?_
    refine gw_icmp_eq (tgt := 912) C d_La_law_907 (by decide) (fun _ => ?_) (fun h => absurd rfl h)
    refine gw_iload C d_La_law_912 1 rfl ?_
    refine gw_if_ne (tgt := 929) C d_La_law_914 (by decide) (fun h => absurd rfl h) (fun _ => ?_)
    refine gw_aload_n C d_La_law_917 rfl 5 rfl ?_
    refine gw_iconst (v := 0) C d_La_law_918 (by decide) ?_
    refine gw_lald C 0 1 rfl rfl (vp_in_nI (n := 0) (N := 1) (by decide) (by decide)) d_La_law_919 ?_
    refine gw_iload C d_La_law_920 0 rfl ?_
    refine gw_i2l C d_La_law_922 ?_
    refine gw_lcmp C d_La_law_923 ?_
    refine gw_if_eq (tgt := 929) C d_La_law_924 (by decide) (fun _ => ?_) (fun h => absurd (gw_lc _ _ _) h)
    refine gw_goto (tgt := 1144) C d_La_law_929 (by decide) ?_
    refine gw_less [2, 3, 4, 5, 6] rfl ?_
    exact kk _ _ _ hrel'
  · refine gw_callSH (n := 4) (As := [.ref (adC 0), .int v1, .int v2, .ref qo]) (st := []) CT hN (h_La_worked_1 l CT.2.2.2 D cI cL cZ adC qo f h1) tbW_812 tb_810 tb_811 tbI_La (by decide +kernel) ⟨Nat.le_of_ble_eq_true rfl, Nat.le_of_ble_eq_true rfl⟩ ⟨hc1, hs1⟩ [0, 1, 2, 3, 4, 5, 6, 7, 8, 9, 10, 11, 12, 13, 14, 15, 16, 17, 18, 19, 20, 21, 22, 23, 24, 25, 26, 27, 28, 29, 30, 31, 32] [33, 34, 35, 36, 37, 38, 39, 40, 41, 42, 43, 44, 45, 46, 47, 48, 49, 50, 51, 52, 53, 54, 55, 56, 57, 58] (wL_h cI cL cZ qo f adC σ adM τ) (wL_hf cI cL cZ qo f adC σ adM τ) (by decide) (wL_m cI cL cZ qo f adC σ adM τ) (by decide) (by decide) rfl (Nat.le_of_ble_eq_true rfl) d_La_law_878 ?_
    refine gw_widen (cells' := cells + 1) (slots' := slots + 6) (Nat.add_le_add_left (by decide) _) (Nat.add_le_add_left (by decide) _) ?_
    refine gw_perm [26, 27, 28, 29, 30, 31, 32, 33, 34, 35, 36, 37, 38, 39, 40, 41, 42, 43, 44, 45, 46, 47, 48, 49, 50, 51, 52, 53, 54, 55, 56, 57, 58, 0, 1, 2, 3, 4, 5, 6, 7, 8, 9, 10, 11, 12, 13, 14, 15, 16, 17, 18, 19, 20, 21, 22, 23, 24, 25] (wL_ph cI cL cZ qo f adC σ' adM τ) (wL_phm cI cL cZ qo f adC σ' adM τ) (by decide) ?_
    refine gw_istore (lv' := [(5, .int 1), (0, .ref b), (1, .ref (adC 0)), (2, .ref (adM 0)), (3, .ref qo), (4, .int x4)]) C d_La_law_881 (by decide) rfl ?_
    refine gw_aload_n C d_La_law_883 rfl 3 rfl ?_
    refine gw_aload_n C d_La_law_884 rfl 1 rfl ?_
    refine gw_iload C d_La_law_885 5 rfl ?_
    refine gw_iconst (v := 1) C d_La_law_887 (by decide) ?_
    refine gw_iadd C d_La_law_888 ?_
    refine gw_sld (v := v1) C hX hbl hbA h_1 e_1 d_La_law_889 ?_
    refine gw_aload_n C d_La_law_890 rfl 1 rfl ?_
    refine gw_iload C d_La_law_891 5 rfl ?_
    refine gw_iconst (v := 2) C d_La_law_893 (by decide) ?_
    refine gw_iadd C d_La_law_894 ?_
    refine gw_sld (v := v2) C hX hbl hbA h_2 e_2 d_La_law_895 ?_
    refine gw_callVF (T := T_Mo) (N := 48) (n := 2) (q0 := 0) (As := [.int v1, .int v2]) (st := []) C (c_Mo_worked l D cI cL cZ adM h2) tb_1182 tb_1179 tb_1180 tb_1181 tb_8 (by decide +kernel) ⟨Nat.le_of_ble_eq_true rfl, Nat.le_of_ble_eq_true rfl⟩ ⟨hc1, hs1⟩ rfl rfl [33, 34, 35, 36, 37, 38, 39, 40, 41, 42, 43, 44, 45, 46, 47, 48, 49, 50, 51, 52, 53, 54, 55, 56, 57, 58] [0, 1, 2, 3, 4, 5, 6, 7, 8, 9, 10, 11, 12, 13, 14, 15, 16, 17, 18, 19, 20, 21, 22, 23, 24, 25, 26, 27, 28, 29, 30, 31, 32] (wL_m cI cL cZ qo f adC σ' adM τ) (wL_mf cI cL cZ qo f adC σ' adM τ) (by decide) (wL_h cI cL cZ qo f adC σ' adM τ) (by decide) (by decide) rfl rfl rfl (Nat.le_of_ble_eq_true rfl) d_La_law_896 ?_
    refine gw_eq (ws' := (wL cI cL cZ qo f adC σ' adM τ')) rfl rfl ?_
    refine gw_istore (lv' := [(6, .int bv), (5, .int 1), (0, .ref b), (1, .ref (adC 0)), (2, .ref (adM 0)), (3, .ref qo), (4, .int x4)]) C d_La_law_899 (by decide) rfl ?_
    refine gw_aload_n C d_La_law_901 rfl 4 rfl ?_
    refine gw_callVF (T := T_Mo) (N := 48) (n := 0) (q0 := 0) (As := []) (st := []) C (c_Mo_thrown l D cI cL cZ adM h3) tb_1020 tb_1017 tb_1018 tb_1019 tb_8 (by decide +kernel) ⟨Nat.le_of_ble_eq_true rfl, Nat.le_of_ble_eq_true rfl⟩ ⟨hc1, hs1⟩ rfl rfl [33, 34, 35, 36, 37, 38, 39, 40, 41, 42, 43, 44, 45, 46, 47, 48, 49, 50, 51, 52, 53, 54, 55, 56, 57, 58] [0, 1, 2, 3, 4, 5, 6, 7, 8, 9, 10, 11, 12, 13, 14, 15, 16, 17, 18, 19, 20, 21, 22, 23, 24, 25, 26, 27, 28, 29, 30, 31, 32] (wL_m cI cL cZ qo f adC σ' adM τ') (wL_mf cI cL cZ qo f adC σ' adM τ') (by decide) (wL_h cI cL cZ qo f adC σ' adM τ') (by decide) (by decide) rfl rfl rfl (Nat.le_of_ble_eq_true rfl) d_La_law_902 ?_
    refine gw_eq (ws' := (wL cI cL cZ qo f adC σ' adM τ')) rfl rfl ?_
    refine gw_iload C d_La_law_905 1 rfl ?_
    refine gw_icmp_eq (tgt := 912) C d_La_law_907 (by decide) (fun _ => ?_) (fun h => absurd rfl h)
    refine gw_iload C d_La_law_912 1 rfl ?_
    refine gw_if_ne (tgt := 929) C d_La_law_914 (by decide) (fun _ => ?_) (fun h => absurd h (by decide))
    refine gw_goto (tgt := 1144) C d_La_law_929 (by decide) ?_
    refine gw_less [2, 3, 4, 5, 6] rfl ?_
    exact kk _ _ _ hrel'
  · refine gw_callSH (n := 4) (As := [.ref (adC 0), .int v1, .int v2, .ref qo]) (st := []) CT hN (h_La_worked_3 l CT.2.2.2 D cI cL cZ adC qo f h1) tbW_812 tb_810 tb_811 tbI_La (by decide +kernel) ⟨Nat.le_of_ble_eq_true rfl, Nat.le_of_ble_eq_true rfl⟩ ⟨hc1, hs1⟩ [0, 1, 2, 3, 4, 5, 6, 7, 8, 9, 10, 11, 12, 13, 14, 15, 16, 17, 18, 19, 20, 21, 22, 23, 24, 25, 26, 27, 28, 29, 30, 31, 32] [33, 34, 35, 36, 37, 38, 39, 40, 41, 42, 43, 44, 45, 46, 47, 48, 49, 50, 51, 52, 53, 54, 55, 56, 57, 58] (wL_h cI cL cZ qo f adC σ adM τ) (wL_hf cI cL cZ qo f adC σ adM τ) (by decide) (wL_m cI cL cZ qo f adC σ adM τ) (by decide) (by decide) rfl (Nat.le_of_ble_eq_true rfl) d_La_law_878 ?_
    refine gw_widen (cells' := cells + 1) (slots' := slots + 6) (Nat.add_le_add_left (by decide) _) (Nat.add_le_add_left (by decide) _) ?_
    refine gw_perm [26, 27, 28, 29, 30, 31, 32, 33, 34, 35, 36, 37, 38, 39, 40, 41, 42, 43, 44, 45, 46, 47, 48, 49, 50, 51, 52, 53, 54, 55, 56, 57, 58, 0, 1, 2, 3, 4, 5, 6, 7, 8, 9, 10, 11, 12, 13, 14, 15, 16, 17, 18, 19, 20, 21, 22, 23, 24, 25] (wL_ph cI cL cZ qo f adC σ' adM τ) (wL_phm cI cL cZ qo f adC σ' adM τ) (by decide) ?_
    refine gw_istore (lv' := [(5, .int 2), (0, .ref b), (1, .ref (adC 0)), (2, .ref (adM 0)), (3, .ref qo), (4, .int x4)]) C d_La_law_881 (by decide) rfl ?_
    refine gw_aload_n C d_La_law_883 rfl 3 rfl ?_
    refine gw_aload_n C d_La_law_884 rfl 1 rfl ?_
    refine gw_iload C d_La_law_885 5 rfl ?_
    refine gw_iconst (v := 1) C d_La_law_887 (by decide) ?_
    refine gw_iadd C d_La_law_888 ?_
    refine gw_sld (v := v1) C hX hbl hbA h_1 e_1 d_La_law_889 ?_
    refine gw_aload_n C d_La_law_890 rfl 1 rfl ?_
    refine gw_iload C d_La_law_891 5 rfl ?_
    refine gw_iconst (v := 2) C d_La_law_893 (by decide) ?_
    refine gw_iadd C d_La_law_894 ?_
    refine gw_sld (v := v2) C hX hbl hbA h_2 e_2 d_La_law_895 ?_
    refine gw_callVF (T := T_Mo) (N := 48) (n := 2) (q0 := 0) (As := [.int v1, .int v2]) (st := []) C (c_Mo_worked l D cI cL cZ adM h2) tb_1182 tb_1179 tb_1180 tb_1181 tb_8 (by decide +kernel) ⟨Nat.le_of_ble_eq_true rfl, Nat.le_of_ble_eq_true rfl⟩ ⟨hc1, hs1⟩ rfl rfl [33, 34, 35, 36, 37, 38, 39, 40, 41, 42, 43, 44, 45, 46, 47, 48, 49, 50, 51, 52, 53, 54, 55, 56, 57, 58] [0, 1, 2, 3, 4, 5, 6, 7, 8, 9, 10, 11, 12, 13, 14, 15, 16, 17, 18, 19, 20, 21, 22, 23, 24, 25, 26, 27, 28, 29, 30, 31, 32] (wL_m cI cL cZ qo f adC σ' adM τ) (wL_mf cI cL cZ qo f adC σ' adM τ) (by decide) (wL_h cI cL cZ qo f adC σ' adM τ) (by decide) (by decide) rfl rfl rfl (Nat.le_of_ble_eq_true rfl) d_La_law_896 ?_
    refine gw_eq (ws' := (wL cI cL cZ qo f adC σ' adM τ')) rfl rfl ?_
    refine gw_istore (lv' := [(6, .int bv), (5, .int 2), (0, .ref b), (1, .ref (adC 0)), (2, .ref (adM 0)), (3, .ref qo), (4, .int x4)]) C d_La_law_899 (by decide) rfl ?_
    refine gw_aload_n C d_La_law_901 rfl 4 rfl ?_
    refine gw_callVF (T := T_Mo) (N := 48) (n := 0) (q0 := 0) (As := []) (st := []) C (c_Mo_thrown l D cI cL cZ adM h3) tb_1020 tb_1017 tb_1018 tb_1019 tb_8 (by decide +kernel) ⟨Nat.le_of_ble_eq_true rfl, Nat.le_of_ble_eq_true rfl⟩ ⟨hc1, hs1⟩ rfl rfl [33, 34, 35, 36, 37, 38, 39, 40, 41, 42, 43, 44, 45, 46, 47, 48, 49, 50, 51, 52, 53, 54, 55, 56, 57, 58] [0, 1, 2, 3, 4, 5, 6, 7, 8, 9, 10, 11, 12, 13, 14, 15, 16, 17, 18, 19, 20, 21, 22, 23, 24, 25, 26, 27, 28, 29, 30, 31, 32] (wL_m cI cL cZ qo f adC σ' adM τ') (wL_mf cI cL cZ qo f adC σ' adM τ') (by decide) (wL_h cI cL cZ qo f adC σ' adM τ') (by decide) (by decide) rfl rfl rfl (Nat.le_of_ble_eq_true rfl) d_La_law_902 ?_
    refine gw_eq (ws' := (wL cI cL cZ qo f adC σ' adM τ')) rfl rfl ?_
    refine gw_iload C d_La_law_905 1 rfl ?_
    refine gw_icmp_eq (tgt := 912) C d_La_law_907 (by decide) (fun _ => ?_) (fun h => absurd rfl h)
    refine gw_iload C d_La_law_912 1 rfl ?_
    refine gw_if_ne (tgt := 929) C d_La_law_914 (by decide) (fun _ => ?_) (fun h => absurd h (by decide))
    refine gw_goto (tgt := 1144) C d_La_law_929 (by decide) ?_
    refine gw_less [2, 3, 4, 5, 6] rfl ?_
    exact kk _ _ _ hrel'
set_option maxRecDepth 100000 in
set_option maxHeartbeats 4000000 in
theorem law_ring {Rel : Nat → St → St → Prop} (S : LawSim Rel) {p : Program} {l : Launch} {e : Env} {s : State} {m : MethodId} {below : List Frame} {meth : Method} {c : Code} {D : va_G} {A : Nat → Prop} {Q : State → Prop} {cI cL cZ : ClassId} {b L : Nat} {xs : Nat → Int32} (CT : gw_CT l p s m #[Value.ref b] meth c code 7 R_La D gw_cl (gw_ty cI cL cZ) A) (hN : gw_Nc s) (hX : va_X b L xs s s.heap) (hbl : b < s.heap.size) (hbA : ¬ A b) {qo : Nat} {f : Nat → Int64} {adC adM : Nat → Nat} {σ τ : St} {n cells slots : Nat} (hn : n < 512) (hrel : Rel n σ τ) (hc1 : cells + 1 ≤ room_1.cells) (hs1 : slots + 6 ≤ room_1.slots) {x4 v1 v2 v3 : Int32} (h_1 : vp_in (x4 + 1) L) (h_2 : vp_in (x4 + 2) L) (h_3 : vp_in (x4 + 3) L) (e_1 : xs (x4 + 1).toNatClampNeg = v1) (e_2 : xs (x4 + 2).toNatClampNeg = v2) (e_3 : xs (x4 + 3).toNatClampNeg = v3)
    (kk : ∀ (f' : Nat → Int64) (σ' τ' : St), Rel (n + 1) σ' τ' → gw_W p l e room_1 s m #[Value.ref b] below meth c D gw_cl A Q (cells + 1) (slots + 6) 7 (wL cI cL cZ qo f' adC σ' adM τ') [(0, .ref b), (1, .ref (adC 0)), (2, .ref (adM 0)), (3, .ref qo), (4, .int x4)] 1144 []) : gw_W p l e room_1 s m #[Value.ref b] below meth c D gw_cl A Q cells slots 7 (wL cI cL cZ qo f adC σ adM τ) [(0, .ref b), (1, .ref (adC 0)), (2, .ref (adM 0)), (3, .ref qo), (4, .int x4)] 932 [] := by
  have C := CT.1
  refine gw_aload_n C d_La_law_932 rfl 1 rfl ?_
  refine gw_aload_n C d_La_law_933 rfl 0 rfl ?_
  refine gw_iload C d_La_law_934 4 rfl ?_
  refine gw_iconst (v := 1) C d_La_law_936 (by decide) ?_
  refine gw_iadd C d_La_law_937 ?_
  refine gw_sld (v := v1) C hX hbl hbA h_1 e_1 d_La_law_938 ?_
  refine gw_aload_n C d_La_law_939 rfl 3 rfl ?_
  obtain ⟨k, r, σ', bv, τ', th, h1, h2, h3, hrel', hcs⟩ := S.2.2.2.2.2.2.2.2.2.2.2.2.2.2.2.2.1 n σ τ v1 hn hrel
  rcases hcs with ⟨rfl, rfl, rfl⟩ | ⟨rfl, rfl⟩
  · refine gw_callSH (n := 3) (As := [.ref (adC 0), .int v1, .ref qo]) (st := []) CT hN (h_La_ring_0 l CT.2.2.2 D cI cL cZ adC qo f h1) tbW_829 tb_827 tb_828 tbI_La (by decide +kernel) ⟨Nat.le_of_ble_eq_true rfl, Nat.le_of_ble_eq_true rfl⟩ ⟨hc1, hs1⟩ [0, 1, 2, 3, 4, 5, 6, 7, 8, 9, 10, 11, 12, 13, 14, 15, 16, 17, 18, 19, 20, 21, 22, 23, 24, 25, 26, 27, 28, 29, 30, 31, 32] [33, 34, 35, 36, 37, 38, 39, 40, 41, 42, 43, 44, 45, 46, 47, 48, 49, 50, 51, 52, 53, 54, 55, 56, 57, 58] (wL_h cI cL cZ qo f adC σ adM τ) (wL_hf cI cL cZ qo f adC σ adM τ) (by decide) (wL_m cI cL cZ qo f adC σ adM τ) (by decide) (by decide) rfl (Nat.le_of_ble_eq_true rfl) d_La_law_940 ?_
    refine gw_widen (cells' := cells + 1) (slots' := slots + 6) (Nat.add_le_add_left (by decide) _) (Nat.add_le_add_left (by decide) _) ?_
    refine gw_perm [26, 27, 28, 29, 30, 31, 32, 33, 34, 35, 36, 37, 38, 39, 40, 41, 42, 43, 44, 45, 46, 47, 48, 49, 50, 51, 52, 53, 54, 55, 56, 57, 58, 0, 1, 2, 3, 4, 5, 6, 7, 8, 9, 10, 11, 12, 13, 14, 15, 16, 17, 18, 19, 20, 21, 22, 23, 24, 25] (wL_ph cI cL cZ qo (vp_updL f (0 : Int32).toNatClampNeg r.toInt64) adC σ' adM τ) (wL_phm cI cL cZ qo (vp_updL f (0 : Int32).toNatClampNeg r.toInt64) adC σ' adM τ) (by decide) ?_
    refine gw_istore (lv' := [(5, .int 0), (0, .ref b), (1, .ref (adC 0)), (2, .ref (adM 0)), (3, .ref qo), (4, .int x4)]) C d_La_law_943 (by decide) rfl ?_
    refine gw_aload_n C d_La_law_945 rfl 3 rfl ?_
    refine gw_aload_n C d_La_law_946 rfl 1 rfl ?_
    refine gw_iload C d_La_law_947 5 rfl ?_
    refine gw_iconst (v := 1) C d_La_law_949 (by decide) ?_
    refine gw_iadd C d_La_law_950 ?_
    refine gw_sld (v := v1) C hX hbl hbA h_1 e_1 d_La_law_951 ?_
    refine gw_callVF (T := T_Mo) (N := 48) (n := 1) (q0 := 0) (As := [.int v1]) (st := []) C (c_Mo_ring l D cI cL cZ adM h2) tb_1186 tb_1183 tb_1184 tb_1185 tb_8 (by decide +kernel) ⟨Nat.le_of_ble_eq_true rfl, Nat.le_of_ble_eq_true rfl⟩ ⟨hc1, hs1⟩ rfl rfl [33, 34, 35, 36, 37, 38, 39, 40, 41, 42, 43, 44, 45, 46, 47, 48, 49, 50, 51, 52, 53, 54, 55, 56, 57, 58] [0, 1, 2, 3, 4, 5, 6, 7, 8, 9, 10, 11, 12, 13, 14, 15, 16, 17, 18, 19, 20, 21, 22, 23, 24, 25, 26, 27, 28, 29, 30, 31, 32] (wL_m cI cL cZ qo (vp_updL f (0 : Int32).toNatClampNeg r.toInt64) adC σ' adM τ) (wL_mf cI cL cZ qo (vp_updL f (0 : Int32).toNatClampNeg r.toInt64) adC σ' adM τ) (by decide) (wL_h cI cL cZ qo (vp_updL f (0 : Int32).toNatClampNeg r.toInt64) adC σ' adM τ) (by decide) (by decide) rfl rfl rfl (Nat.le_of_ble_eq_true rfl) d_La_law_952 ?_
    refine gw_eq (ws' := (wL cI cL cZ qo (vp_updL f (0 : Int32).toNatClampNeg r.toInt64) adC σ' adM τ')) rfl rfl ?_
    refine gw_istore (lv' := [(6, .int r), (5, .int 0), (0, .ref b), (1, .ref (adC 0)), (2, .ref (adM 0)), (3, .ref qo), (4, .int x4)]) C d_La_law_955 (by decide) rfl ?_
    refine gw_aload_n C d_La_law_957 rfl 4 rfl ?_
    refine gw_callVF (T := T_Mo) (N := 48) (n := 0) (q0 := 0) (As := []) (st := []) C (c_Mo_thrown l D cI cL cZ adM h3) tb_1020 tb_1017 tb_1018 tb_1019 tb_8 (by decide +kernel) ⟨Nat.le_of_ble_eq_true rfl, Nat.le_of_ble_eq_true rfl⟩ ⟨hc1, hs1⟩ rfl rfl [33, 34, 35, 36, 37, 38, 39, 40, 41, 42, 43, 44, 45, 46, 47, 48, 49, 50, 51, 52, 53, 54, 55, 56, 57, 58] [0, 1, 2, 3, 4, 5, 6, 7, 8, 9, 10, 11, 12, 13, 14, 15, 16, 17, 18, 19, 20, 21, 22, 23, 24, 25, 26, 27, 28, 29, 30, 31, 32] (wL_m cI cL cZ qo (vp_updL f (0 : Int32).toNatClampNeg r.toInt64) adC σ' adM τ') (wL_mf cI cL cZ qo (vp_updL f (0 : Int32).toNatClampNeg r.toInt64) adC σ' adM τ') (by decide) (wL_h cI cL cZ qo (vp_updL f (0 : Int32).toNatClampNeg r.toInt64) adC σ' adM τ') (by decide) (by decide) rfl rfl rfl (Nat.le_of_ble_eq_true rfl) d_La_law_958 ?_
    refine gw_eq (ws' := (wL cI cL cZ qo (vp_updL f (0 : Int32).toNatClampNeg r.toInt64) adC σ' adM τ')) rfl rfl ?_
    refine gw_iload C d_La_law_961 1 rfl ?_
    refine gw_icmp_eq (tgt := 968) C d_La_law_963 (by decide) (fun _ => ?_) (fun h => absurd rfl h)
    refine gw_iload C d_La_law_968 1 rfl ?_
    refine gw_if_ne (tgt := 985) C d_La_law_970 (by decide) (fun h => absurd rfl h) (fun _ => ?_)
    refine gw_aload_n C d_La_law_973 rfl 5 rfl ?_
    refine gw_iconst (v := 0) C d_La_law_974 (by decide) ?_
    refine gw_lald C 0 1 rfl rfl (vp_in_nI (n := 0) (N := 1) (by decide) (by decide)) d_La_law_975 ?_
    refine gw_iload C d_La_law_976 0 rfl ?_
    refine gw_i2l C d_La_law_978 ?_
    refine gw_lcmp C d_La_law_979 ?_
    refine gw_if_eq (tgt := 985) C d_La_law_980 (by decide) (fun _ => ?_) (fun h => absurd (gw_lc _ _ _) h)
    refine gw_goto (tgt := 1144) C d_La_law_985 (by decide) ?_
    refine gw_less [2, 3, 4, 5, 6] rfl ?_
    exact kk _ _ _ hrel'
  · refine gw_callSH (n := 3) (As := [.ref (adC 0), .int v1, .ref qo]) (st := []) CT hN (h_La_ring_1 l CT.2.2.2 D cI cL cZ adC qo f h1) tbW_829 tb_827 tb_828 tbI_La (by decide +kernel) ⟨Nat.le_of_ble_eq_true rfl, Nat.le_of_ble_eq_true rfl⟩ ⟨hc1, hs1⟩ [0, 1, 2, 3, 4, 5, 6, 7, 8, 9, 10, 11, 12, 13, 14, 15, 16, 17, 18, 19, 20, 21, 22, 23, 24, 25, 26, 27, 28, 29, 30, 31, 32] [33, 34, 35, 36, 37, 38, 39, 40, 41, 42, 43, 44, 45, 46, 47, 48, 49, 50, 51, 52, 53, 54, 55, 56, 57, 58] (wL_h cI cL cZ qo f adC σ adM τ) (wL_hf cI cL cZ qo f adC σ adM τ) (by decide) (wL_m cI cL cZ qo f adC σ adM τ) (by decide) (by decide) rfl (Nat.le_of_ble_eq_true rfl) d_La_law_940 ?_
    refine gw_widen (cells' := cells + 1) (slots' := slots + 6) (Nat.add_le_add_left (by decide) _) (Nat.add_le_add_left (by decide) _) ?_
    refine gw_perm [26, 27, 28, 29, 30, 31, 32, 33, 34, 35, 36, 37, 38, 39, 40, 41, 42, 43, 44, 45, 46, 47, 48, 49, 50, 51, 52, 53, 54, 55, 56, 57, 58, 0, 1, 2, 3, 4, 5, 6, 7, 8, 9, 10, 11, 12, 13, 14, 15, 16, 17, 18, 19, 20, 21, 22, 23, 24, 25] (wL_ph cI cL cZ qo f adC σ' adM τ) (wL_phm cI cL cZ qo f adC σ' adM τ) (by decide) ?_
    refine gw_istore (lv' := [(5, .int 1), (0, .ref b), (1, .ref (adC 0)), (2, .ref (adM 0)), (3, .ref qo), (4, .int x4)]) C d_La_law_943 (by decide) rfl ?_
    refine gw_aload_n C d_La_law_945 rfl 3 rfl ?_
    refine gw_aload_n C d_La_law_946 rfl 1 rfl ?_
    refine gw_iload C d_La_law_947 5 rfl ?_
    refine gw_iconst (v := 1) C d_La_law_949 (by decide) ?_
    refine gw_iadd C d_La_law_950 ?_
    refine gw_sld (v := v1) C hX hbl hbA h_1 e_1 d_La_law_951 ?_
    refine gw_callVF (T := T_Mo) (N := 48) (n := 1) (q0 := 0) (As := [.int v1]) (st := []) C (c_Mo_ring l D cI cL cZ adM h2) tb_1186 tb_1183 tb_1184 tb_1185 tb_8 (by decide +kernel) ⟨Nat.le_of_ble_eq_true rfl, Nat.le_of_ble_eq_true rfl⟩ ⟨hc1, hs1⟩ rfl rfl [33, 34, 35, 36, 37, 38, 39, 40, 41, 42, 43, 44, 45, 46, 47, 48, 49, 50, 51, 52, 53, 54, 55, 56, 57, 58] [0, 1, 2, 3, 4, 5, 6, 7, 8, 9, 10, 11, 12, 13, 14, 15, 16, 17, 18, 19, 20, 21, 22, 23, 24, 25, 26, 27, 28, 29, 30, 31, 32] (wL_m cI cL cZ qo f adC σ' adM τ) (wL_mf cI cL cZ qo f adC σ' adM τ) (by decide) (wL_h cI cL cZ qo f adC σ' adM τ) (by decide) (by decide) rfl rfl rfl (Nat.le_of_ble_eq_true rfl) d_La_law_952 ?_
    refine gw_eq (ws' := (wL cI cL cZ qo f adC σ' adM τ')) rfl rfl ?_
    refine gw_istore (lv' := [(6, .int bv), (5, .int 1), (0, .ref b), (1, .ref (adC 0)), (2, .ref (adM 0)), (3, .ref qo), (4, .int x4)]) C d_La_law_955 (by decide) rfl ?_
    refine gw_aload_n C d_La_law_957 rfl 4 rfl ?_
    refine gw_callVF (T := T_Mo) (N := 48) (n := 0) (q0 := 0) (As := []) (st := []) C (c_Mo_thrown l D cI cL cZ adM h3) tb_1020 tb_1017 tb_1018 tb_1019 tb_8 (by decide +kernel) ⟨Nat.le_of_ble_eq_true rfl, Nat.le_of_ble_eq_true rfl⟩ ⟨hc1, hs1⟩ rfl rfl [33, 34, 35, 36, 37, 38, 39, 40, 41, 42, 43, 44, 45, 46, 47, 48, 49, 50, 51, 52, 53, 54, 55, 56, 57, 58] [0, 1, 2, 3, 4, 5, 6, 7, 8, 9, 10, 11, 12, 13, 14, 15, 16, 17, 18, 19, 20, 21, 22, 23, 24, 25, 26, 27, 28, 29, 30, 31, 32] (wL_m cI cL cZ qo f adC σ' adM τ') (wL_mf cI cL cZ qo f adC σ' adM τ') (by decide) (wL_h cI cL cZ qo f adC σ' adM τ') (by decide) (by decide) rfl rfl rfl (Nat.le_of_ble_eq_true rfl) d_La_law_958 ?_
    refine gw_eq (ws' := (wL cI cL cZ qo f adC σ' adM τ')) rfl rfl ?_
    refine gw_iload C d_La_law_961 1 rfl ?_
    refine gw_icmp_eq (tgt := 968) C d_La_law_963 (by decide) (fun _ => ?_) (fun h => absurd rfl h)
    refine gw_iload C d_La_law_968 1 rfl ?_
    refine gw_if_ne (tgt := 985) C d_La_law_970 (by decide) (fun _ => ?_) (fun h => absurd h (by decide))
    refine gw_goto (tgt := 1144) C d_La_law_985 (by decide) ?_
    refine gw_less [2, 3, 4, 5, 6] rfl ?_
    exact kk _ _ _ hrel'
set_option maxRecDepth 100000 in
set_option maxHeartbeats 4000000 in
theorem law_entry {Rel : Nat → St → St → Prop} (S : LawSim Rel) {p : Program} {l : Launch} {e : Env} {s : State} {m : MethodId} {below : List Frame} {meth : Method} {c : Code} {D : va_G} {A : Nat → Prop} {Q : State → Prop} {cI cL cZ : ClassId} {b L : Nat} {xs : Nat → Int32} (CT : gw_CT l p s m #[Value.ref b] meth c code 7 R_La D gw_cl (gw_ty cI cL cZ) A) (hN : gw_Nc s) (hX : va_X b L xs s s.heap) (hbl : b < s.heap.size) (hbA : ¬ A b) {qo : Nat} {f : Nat → Int64} {adC adM : Nat → Nat} {σ τ : St} {n cells slots : Nat} (hn : n < 512) (hrel : Rel n σ τ) (hc1 : cells + 1 ≤ room_1.cells) (hs1 : slots + 6 ≤ room_1.slots) {x4 v1 v2 v3 : Int32} (h_1 : vp_in (x4 + 1) L) (h_2 : vp_in (x4 + 2) L) (h_3 : vp_in (x4 + 3) L) (e_1 : xs (x4 + 1).toNatClampNeg = v1) (e_2 : xs (x4 + 2).toNatClampNeg = v2) (e_3 : xs (x4 + 3).toNatClampNeg = v3)
    (kk : ∀ (f' : Nat → Int64) (σ' τ' : St), Rel (n + 1) σ' τ' → gw_W p l e room_1 s m #[Value.ref b] below meth c D gw_cl A Q (cells + 1) (slots + 6) 7 (wL cI cL cZ qo f' adC σ' adM τ') [(0, .ref b), (1, .ref (adC 0)), (2, .ref (adM 0)), (3, .ref qo), (4, .int x4)] 1144 []) : gw_W p l e room_1 s m #[Value.ref b] below meth c D gw_cl A Q cells slots 7 (wL cI cL cZ qo f adC σ adM τ) [(0, .ref b), (1, .ref (adC 0)), (2, .ref (adM 0)), (3, .ref qo), (4, .int x4)] 988 [] := by
  have C := CT.1
  refine gw_aload_n C d_La_law_988 rfl 1 rfl ?_
  refine gw_aload_n C d_La_law_989 rfl 0 rfl ?_
  refine gw_iload C d_La_law_990 4 rfl ?_
  refine gw_iconst (v := 1) C d_La_law_992 (by decide) ?_
  refine gw_iadd C d_La_law_993 ?_
  refine gw_sld (v := v1) C hX hbl hbA h_1 e_1 d_La_law_994 ?_
  refine gw_aload_n C d_La_law_995 rfl 3 rfl ?_
  obtain ⟨k, r, σ', bv, τ', th, h1, h2, h3, hrel', hcs⟩ := S.2.2.2.2.2.2.2.2.2.2.2.2.2.2.2.2.2.1 n σ τ v1 hn hrel
  rcases hcs with ⟨rfl, rfl, rfl⟩ | ⟨rfl, rfl⟩
  · refine gw_callSH (n := 3) (As := [.ref (adC 0), .int v1, .ref qo]) (st := []) CT hN (h_La_entry_0 l CT.2.2.2 D cI cL cZ adC qo f h1) tbW_841 tb_839 tb_840 tbI_La (by decide +kernel) ⟨Nat.le_of_ble_eq_true rfl, Nat.le_of_ble_eq_true rfl⟩ ⟨hc1, hs1⟩ [0, 1, 2, 3, 4, 5, 6, 7, 8, 9, 10, 11, 12, 13, 14, 15, 16, 17, 18, 19, 20, 21, 22, 23, 24, 25, 26, 27, 28, 29, 30, 31, 32] [33, 34, 35, 36, 37, 38, 39, 40, 41, 42, 43, 44, 45, 46, 47, 48, 49, 50, 51, 52, 53, 54, 55, 56, 57, 58] (wL_h cI cL cZ qo f adC σ adM τ) (wL_hf cI cL cZ qo f adC σ adM τ) (by decide) (wL_m cI cL cZ qo f adC σ adM τ) (by decide) (by decide) rfl (Nat.le_of_ble_eq_true rfl) d_La_law_996 ?_
    refine gw_widen (cells' := cells + 1) (slots' := slots + 6) (Nat.add_le_add_left (by decide) _) (Nat.add_le_add_left (by decide) _) ?_
    refine gw_perm [26, 27, 28, 29, 30, 31, 32, 33, 34, 35, 36, 37, 38, 39, 40, 41, 42, 43, 44, 45, 46, 47, 48, 49, 50, 51, 52, 53, 54, 55, 56, 57, 58, 0, 1, 2, 3, 4, 5, 6, 7, 8, 9, 10, 11, 12, 13, 14, 15, 16, 17, 18, 19, 20, 21, 22, 23, 24, 25] (wL_ph cI cL cZ qo (vp_updL f (0 : Int32).toNatClampNeg r.toInt64) adC σ' adM τ) (wL_phm cI cL cZ qo (vp_updL f (0 : Int32).toNatClampNeg r.toInt64) adC σ' adM τ) (by decide) ?_
    refine gw_istore (lv' := [(5, .int 0), (0, .ref b), (1, .ref (adC 0)), (2, .ref (adM 0)), (3, .ref qo), (4, .int x4)]) C d_La_law_999 (by decide) rfl ?_
    refine gw_aload_n C d_La_law_1001 rfl 3 rfl ?_
    refine gw_aload_n C d_La_law_1002 rfl 1 rfl ?_
    refine gw_iload C d_La_law_1003 5 rfl ?_
    refine gw_iconst (v := 1) C d_La_law_1005 (by decide) ?_
    refine gw_iadd C d_La_law_1006 ?_
    refine gw_sld (v := v1) C hX hbl hbA h_1 e_1 d_La_law_1007 ?_
    refine gw_callVF (T := T_Mo) (N := 48) (n := 1) (q0 := 0) (As := [.int v1]) (st := []) C (c_Mo_entry l D cI cL cZ adM h2) tb_1190 tb_1187 tb_1188 tb_1189 tb_8 (by decide +kernel) ⟨Nat.le_of_ble_eq_true rfl, Nat.le_of_ble_eq_true rfl⟩ ⟨hc1, hs1⟩ rfl rfl [33, 34, 35, 36, 37, 38, 39, 40, 41, 42, 43, 44, 45, 46, 47, 48, 49, 50, 51, 52, 53, 54, 55, 56, 57, 58] [0, 1, 2, 3, 4, 5, 6, 7, 8, 9, 10, 11, 12, 13, 14, 15, 16, 17, 18, 19, 20, 21, 22, 23, 24, 25, 26, 27, 28, 29, 30, 31, 32] (wL_m cI cL cZ qo (vp_updL f (0 : Int32).toNatClampNeg r.toInt64) adC σ' adM τ) (wL_mf cI cL cZ qo (vp_updL f (0 : Int32).toNatClampNeg r.toInt64) adC σ' adM τ) (by decide) (wL_h cI cL cZ qo (vp_updL f (0 : Int32).toNatClampNeg r.toInt64) adC σ' adM τ) (by decide) (by decide) rfl rfl rfl (Nat.le_of_ble_eq_true rfl) d_La_law_1008 ?_
    refine gw_eq (ws' := (wL cI cL cZ qo (vp_updL f (0 : Int32).toNatClampNeg r.toInt64) adC σ' adM τ')) rfl rfl ?_
    refine gw_istore (lv' := [(6, .int r), (5, .int 0), (0, .ref b), (1, .ref (adC 0)), (2, .ref (adM 0)), (3, .ref qo), (4, .int x4)]) C d_La_law_1011 (by decide) rfl ?_
    refine gw_aload_n C d_La_law_1013 rfl 4 rfl ?_
    refine gw_callVF (T := T_Mo) (N := 48) (n := 0) (q0 := 0) (As := []) (st := []) C (c_Mo_thrown l D cI cL cZ adM h3) tb_1020 tb_1017 tb_1018 tb_1019 tb_8 (by decide +kernel) ⟨Nat.le_of_ble_eq_true rfl, Nat.le_of_ble_eq_true rfl⟩ ⟨hc1, hs1⟩ rfl rfl [33, 34, 35, 36, 37, 38, 39, 40, 41, 42, 43, 44, 45, 46, 47, 48, 49, 50, 51, 52, 53, 54, 55, 56, 57, 58] [0, 1, 2, 3, 4, 5, 6, 7, 8, 9, 10, 11, 12, 13, 14, 15, 16, 17, 18, 19, 20, 21, 22, 23, 24, 25, 26, 27, 28, 29, 30, 31, 32] (wL_m cI cL cZ qo (vp_updL f (0 : Int32).toNatClampNeg r.toInt64) adC σ' adM τ') (wL_mf cI cL cZ qo (vp_updL f (0 : Int32).toNatClampNeg r.toInt64) adC σ' adM τ') (by decide) (wL_h cI cL cZ qo (vp_updL f (0 : Int32).toNatClampNeg r.toInt64) adC σ' adM τ') (by decide) (by decide) rfl rfl rfl (Nat.le_of_ble_eq_true rfl) d_La_law_1014 ?_
    refine gw_eq (ws' := (wL cI cL cZ qo (vp_updL f (0 : Int32).toNatClampNeg r.toInt64) adC σ' adM τ')) rfl rfl ?_
    refine gw_iload C d_La_law_1017 1 rfl ?_
    refine gw_icmp_eq (tgt := 1024) C d_La_law_1019 (by decide) (fun _ => ?_) (fun h => absurd rfl h)
    refine gw_iload C d_La_law_1024 1 rfl ?_
    refine gw_if_ne (tgt := 1041) C d_La_law_1026 (by decide) (fun h => absurd rfl h) (fun _ => ?_)
    refine gw_aload_n C d_La_law_1029 rfl 5 rfl ?_
    refine gw_iconst (v := 0) C d_La_law_1030 (by decide) ?_
    refine gw_lald C 0 1 rfl rfl (vp_in_nI (n := 0) (N := 1) (by decide) (by decide)) d_La_law_1031 ?_
    refine gw_iload C d_La_law_1032 0 rfl ?_
    refine gw_i2l C d_La_law_1034 ?_
    refine gw_lcmp C d_La_law_1035 ?_
    refine gw_if_eq (tgt := 1041) C d_La_law_1036 (by decide) (fun _ => ?_) (fun h => absurd (gw_lc _ _ _) h)
    refine gw_goto (tgt := 1144) C d_La_law_1041 (by decide) ?_
    refine gw_less [2, 3, 4, 5, 6] rfl ?_
    exact kk _ _ _ hrel'
  · refine gw_callSH (n := 3) (As := [.ref (adC 0), .int v1, .ref qo]) (st := []) CT hN (h_La_entry_1 l CT.2.2.2 D cI cL cZ adC qo f h1) tbW_841 tb_839 tb_840 tbI_La (by decide +kernel) ⟨Nat.le_of_ble_eq_true rfl, Nat.le_of_ble_eq_true rfl⟩ ⟨hc1, hs1⟩ [0, 1, 2, 3, 4, 5, 6, 7, 8, 9, 10, 11, 12, 13, 14, 15, 16, 17, 18, 19, 20, 21, 22, 23, 24, 25, 26, 27, 28, 29, 30, 31, 32] [33, 34, 35, 36, 37, 38, 39, 40, 41, 42, 43, 44, 45, 46, 47, 48, 49, 50, 51, 52, 53, 54, 55, 56, 57, 58] (wL_h cI cL cZ qo f adC σ adM τ) (wL_hf cI cL cZ qo f adC σ adM τ) (by decide) (wL_m cI cL cZ qo f adC σ adM τ) (by decide) (by decide) rfl (Nat.le_of_ble_eq_true rfl) d_La_law_996 ?_
    refine gw_widen (cells' := cells + 1) (slots' := slots + 6) (Nat.add_le_add_left (by decide) _) (Nat.add_le_add_left (by decide) _) ?_
    refine gw_perm [26, 27, 28, 29, 30, 31, 32, 33, 34, 35, 36, 37, 38, 39, 40, 41, 42, 43, 44, 45, 46, 47, 48, 49, 50, 51, 52, 53, 54, 55, 56, 57, 58, 0, 1, 2, 3, 4, 5, 6, 7, 8, 9, 10, 11, 12, 13, 14, 15, 16, 17, 18, 19, 20, 21, 22, 23, 24, 25] (wL_ph cI cL cZ qo f adC σ' adM τ) (wL_phm cI cL cZ qo f adC σ' adM τ) (by decide) ?_
    refine gw_istore (lv' := [(5, .int 1), (0, .ref b), (1, .ref (adC 0)), (2, .ref (adM 0)), (3, .ref qo), (4, .int x4)]) C d_La_law_999 (by decide) rfl ?_
    refine gw_aload_n C d_La_law_1001 rfl 3 rfl ?_
    refine gw_aload_n C d_La_law_1002 rfl 1 rfl ?_
    refine gw_iload C d_La_law_1003 5 rfl ?_
    refine gw_iconst (v := 1) C d_La_law_1005 (by decide) ?_
    refine gw_iadd C d_La_law_1006 ?_
    refine gw_sld (v := v1) C hX hbl hbA h_1 e_1 d_La_law_1007 ?_
    refine gw_callVF (T := T_Mo) (N := 48) (n := 1) (q0 := 0) (As := [.int v1]) (st := []) C (c_Mo_entry l D cI cL cZ adM h2) tb_1190 tb_1187 tb_1188 tb_1189 tb_8 (by decide +kernel) ⟨Nat.le_of_ble_eq_true rfl, Nat.le_of_ble_eq_true rfl⟩ ⟨hc1, hs1⟩ rfl rfl [33, 34, 35, 36, 37, 38, 39, 40, 41, 42, 43, 44, 45, 46, 47, 48, 49, 50, 51, 52, 53, 54, 55, 56, 57, 58] [0, 1, 2, 3, 4, 5, 6, 7, 8, 9, 10, 11, 12, 13, 14, 15, 16, 17, 18, 19, 20, 21, 22, 23, 24, 25, 26, 27, 28, 29, 30, 31, 32] (wL_m cI cL cZ qo f adC σ' adM τ) (wL_mf cI cL cZ qo f adC σ' adM τ) (by decide) (wL_h cI cL cZ qo f adC σ' adM τ) (by decide) (by decide) rfl rfl rfl (Nat.le_of_ble_eq_true rfl) d_La_law_1008 ?_
    refine gw_eq (ws' := (wL cI cL cZ qo f adC σ' adM τ')) rfl rfl ?_
    refine gw_istore (lv' := [(6, .int bv), (5, .int 1), (0, .ref b), (1, .ref (adC 0)), (2, .ref (adM 0)), (3, .ref qo), (4, .int x4)]) C d_La_law_1011 (by decide) rfl ?_
    refine gw_aload_n C d_La_law_1013 rfl 4 rfl ?_
    refine gw_callVF (T := T_Mo) (N := 48) (n := 0) (q0 := 0) (As := []) (st := []) C (c_Mo_thrown l D cI cL cZ adM h3) tb_1020 tb_1017 tb_1018 tb_1019 tb_8 (by decide +kernel) ⟨Nat.le_of_ble_eq_true rfl, Nat.le_of_ble_eq_true rfl⟩ ⟨hc1, hs1⟩ rfl rfl [33, 34, 35, 36, 37, 38, 39, 40, 41, 42, 43, 44, 45, 46, 47, 48, 49, 50, 51, 52, 53, 54, 55, 56, 57, 58] [0, 1, 2, 3, 4, 5, 6, 7, 8, 9, 10, 11, 12, 13, 14, 15, 16, 17, 18, 19, 20, 21, 22, 23, 24, 25, 26, 27, 28, 29, 30, 31, 32] (wL_m cI cL cZ qo f adC σ' adM τ') (wL_mf cI cL cZ qo f adC σ' adM τ') (by decide) (wL_h cI cL cZ qo f adC σ' adM τ') (by decide) (by decide) rfl rfl rfl (Nat.le_of_ble_eq_true rfl) d_La_law_1014 ?_
    refine gw_eq (ws' := (wL cI cL cZ qo f adC σ' adM τ')) rfl rfl ?_
    refine gw_iload C d_La_law_1017 1 rfl ?_
    refine gw_icmp_eq (tgt := 1024) C d_La_law_1019 (by decide) (fun _ => ?_) (fun h => absurd rfl h)
    refine gw_iload C d_La_law_1024 1 rfl ?_
    refine gw_if_ne (tgt := 1041) C d_La_law_1026 (by decide) (fun _ => ?_) (fun h => absurd h (by decide))
    refine gw_goto (tgt := 1144) C d_La_law_1041 (by decide) ?_
    refine gw_less [2, 3, 4, 5, 6] rfl ?_
    exact kk _ _ _ hrel'
set_option maxRecDepth 100000 in
set_option maxHeartbeats 4000000 in
theorem law_collect {Rel : Nat → St → St → Prop} (S : LawSim Rel) {p : Program} {l : Launch} {e : Env} {s : State} {m : MethodId} {below : List Frame} {meth : Method} {c : Code} {D : va_G} {A : Nat → Prop} {Q : State → Prop} {cI cL cZ : ClassId} {b L : Nat} {xs : Nat → Int32} (CT : gw_CT l p s m #[Value.ref b] meth c code 7 R_La D gw_cl (gw_ty cI cL cZ) A) (hN : gw_Nc s) (hX : va_X b L xs s s.heap) (hbl : b < s.heap.size) (hbA : ¬ A b) {qo : Nat} {f : Nat → Int64} {adC adM : Nat → Nat} {σ τ : St} {n cells slots : Nat} (hn : n < 512) (hrel : Rel n σ τ) (hc1 : cells + 1 ≤ room_1.cells) (hs1 : slots + 6 ≤ room_1.slots) {x4 v1 v2 v3 : Int32} (h_1 : vp_in (x4 + 1) L) (h_2 : vp_in (x4 + 2) L) (h_3 : vp_in (x4 + 3) L) (e_1 : xs (x4 + 1).toNatClampNeg = v1) (e_2 : xs (x4 + 2).toNatClampNeg = v2) (e_3 : xs (x4 + 3).toNatClampNeg = v3)
    (kk : ∀ (f' : Nat → Int64) (σ' τ' : St), Rel (n + 1) σ' τ' → gw_W p l e room_1 s m #[Value.ref b] below meth c D gw_cl A Q (cells + 1) (slots + 6) 7 (wL cI cL cZ qo f' adC σ' adM τ') [(0, .ref b), (1, .ref (adC 0)), (2, .ref (adM 0)), (3, .ref qo), (4, .int x4)] 1144 []) : gw_W p l e room_1 s m #[Value.ref b] below meth c D gw_cl A Q cells slots 7 (wL cI cL cZ qo f adC σ adM τ) [(0, .ref b), (1, .ref (adC 0)), (2, .ref (adM 0)), (3, .ref qo), (4, .int x4)] 1044 [] := by
  have C := CT.1
  refine gw_aload_n C d_La_law_1044 rfl 1 rfl ?_
  refine gw_aload_n C d_La_law_1045 rfl 3 rfl ?_
  obtain ⟨k, r, σ', bv, τ', th, h1, h2, h3, hrel', hcs⟩ := S.2.2.2.2.2.2.2.2.2.2.2.2.2.2.2.2.2.2.1 n σ τ  hn hrel
  rcases hcs with ⟨rfl, rfl, rfl⟩ | ⟨rfl, rfl⟩
  · refine gw_callSH (n := 2) (As := [.ref (adC 0), .ref qo]) (st := []) CT hN (h_La_collect_0 l CT.2.2.2 D cI cL cZ adC qo f h1) tbW_851 tb_849 tb_850 tbI_La (by decide +kernel) ⟨Nat.le_of_ble_eq_true rfl, Nat.le_of_ble_eq_true rfl⟩ ⟨hc1, hs1⟩ [0, 1, 2, 3, 4, 5, 6, 7, 8, 9, 10, 11, 12, 13, 14, 15, 16, 17, 18, 19, 20, 21, 22, 23, 24, 25, 26, 27, 28, 29, 30, 31, 32] [33, 34, 35, 36, 37, 38, 39, 40, 41, 42, 43, 44, 45, 46, 47, 48, 49, 50, 51, 52, 53, 54, 55, 56, 57, 58] (wL_h cI cL cZ qo f adC σ adM τ) (wL_hf cI cL cZ qo f adC σ adM τ) (by decide) (wL_m cI cL cZ qo f adC σ adM τ) (by decide) (by decide) rfl (Nat.le_of_ble_eq_true rfl) d_La_law_1046 ?_
    refine gw_widen (cells' := cells + 1) (slots' := slots + 6) (Nat.add_le_add_left (by decide) _) (Nat.add_le_add_left (by decide) _) ?_
    refine gw_perm [26, 27, 28, 29, 30, 31, 32, 33, 34, 35, 36, 37, 38, 39, 40, 41, 42, 43, 44, 45, 46, 47, 48, 49, 50, 51, 52, 53, 54, 55, 56, 57, 58, 0, 1, 2, 3, 4, 5, 6, 7, 8, 9, 10, 11, 12, 13, 14, 15, 16, 17, 18, 19, 20, 21, 22, 23, 24, 25] (wL_ph cI cL cZ qo (vp_updL f (0 : Int32).toNatClampNeg r.toInt64) adC σ' adM τ) (wL_phm cI cL cZ qo (vp_updL f (0 : Int32).toNatClampNeg r.toInt64) adC σ' adM τ) (by decide) ?_
    refine gw_istore (lv' := [(5, .int 0), (0, .ref b), (1, .ref (adC 0)), (2, .ref (adM 0)), (3, .ref qo), (4, .int x4)]) C d_La_law_1049 (by decide) rfl ?_
    refine gw_aload_n C d_La_law_1051 rfl 3 rfl ?_
    refine gw_callVF (T := T_Mo) (N := 48) (n := 0) (q0 := 0) (As := []) (st := []) C (c_Mo_collect l D cI cL cZ adM h2) tb_1194 tb_1191 tb_1192 tb_1193 tb_8 (by decide +kernel) ⟨Nat.le_of_ble_eq_true rfl, Nat.le_of_ble_eq_true rfl⟩ ⟨hc1, hs1⟩ rfl rfl [33, 34, 35, 36, 37, 38, 39, 40, 41, 42, 43, 44, 45, 46, 47, 48, 49, 50, 51, 52, 53, 54, 55, 56, 57, 58] [0, 1, 2, 3, 4, 5, 6, 7, 8, 9, 10, 11, 12, 13, 14, 15, 16, 17, 18, 19, 20, 21, 22, 23, 24, 25, 26, 27, 28, 29, 30, 31, 32] (wL_m cI cL cZ qo (vp_updL f (0 : Int32).toNatClampNeg r.toInt64) adC σ' adM τ) (wL_mf cI cL cZ qo (vp_updL f (0 : Int32).toNatClampNeg r.toInt64) adC σ' adM τ) (by decide) (wL_h cI cL cZ qo (vp_updL f (0 : Int32).toNatClampNeg r.toInt64) adC σ' adM τ) (by decide) (by decide) rfl rfl rfl (Nat.le_of_ble_eq_true rfl) d_La_law_1052 ?_
    refine gw_eq (ws' := (wL cI cL cZ qo (vp_updL f (0 : Int32).toNatClampNeg r.toInt64) adC σ' adM τ')) rfl rfl ?_
    refine gw_istore (lv' := [(6, .int r), (5, .int 0), (0, .ref b), (1, .ref (adC 0)), (2, .ref (adM 0)), (3, .ref qo), (4, .int x4)]) C d_La_law_1055 (by decide) rfl ?_
    refine gw_aload_n C d_La_law_1057 rfl 4 rfl ?_
    refine gw_callVF (T := T_Mo) (N := 48) (n := 0) (q0 := 0) (As := []) (st := []) C (c_Mo_thrown l D cI cL cZ adM h3) tb_1020 tb_1017 tb_1018 tb_1019 tb_8 (by decide +kernel) ⟨Nat.le_of_ble_eq_true rfl, Nat.le_of_ble_eq_true rfl⟩ ⟨hc1, hs1⟩ rfl rfl [33, 34, 35, 36, 37, 38, 39, 40, 41, 42, 43, 44, 45, 46, 47, 48, 49, 50, 51, 52, 53, 54, 55, 56, 57, 58] [0, 1, 2, 3, 4, 5, 6, 7, 8, 9, 10, 11, 12, 13, 14, 15, 16, 17, 18, 19, 20, 21, 22, 23, 24, 25, 26, 27, 28, 29, 30, 31, 32] (wL_m cI cL cZ qo (vp_updL f (0 : Int32).toNatClampNeg r.toInt64) adC σ' adM τ') (wL_mf cI cL cZ qo (vp_updL f (0 : Int32).toNatClampNeg r.toInt64) adC σ' adM τ') (by decide) (wL_h cI cL cZ qo (vp_updL f (0 : Int32).toNatClampNeg r.toInt64) adC σ' adM τ') (by decide) (by decide) rfl rfl rfl (Nat.le_of_ble_eq_true rfl) d_La_law_1058 ?_
    refine gw_eq (ws' := (wL cI cL cZ qo (vp_updL f (0 : Int32).toNatClampNeg r.toInt64) adC σ' adM τ')) rfl rfl ?_
    refine gw_iload C d_La_law_1061 1 rfl ?_
    refine gw_icmp_eq (tgt := 1068) C d_La_law_1063 (by decide) (fun _ => ?_) (fun h => absurd rfl h)
    refine gw_iload C d_La_law_1068 1 rfl ?_
    refine gw_if_ne (tgt := 1085) C d_La_law_1070 (by decide) (fun h => absurd rfl h) (fun _ => ?_)
    refine gw_aload_n C d_La_law_1073 rfl 5 rfl ?_
    refine gw_iconst (v := 0) C d_La_law_1074 (by decide) ?_
    refine gw_lald C 0 1 rfl rfl (vp_in_nI (n := 0) (N := 1) (by decide) (by decide)) d_La_law_1075 ?_
    refine gw_iload C d_La_law_1076 0 rfl ?_
    refine gw_i2l C d_La_law_1078 ?_
    refine gw_lcmp C d_La_law_1079 ?_
    refine gw_if_eq (tgt := 1085) C d_La_law_1080 (by decide) (fun _ => ?_) (fun h => absurd (gw_lc _ _ _) h)
    refine gw_goto (tgt := 1144) C d_La_law_1085 (by decide) ?_
    refine gw_less [2, 3, 4, 5, 6] rfl ?_
    exact kk _ _ _ hrel'
  · refine gw_callSH (n := 2) (As := [.ref (adC 0), .ref qo]) (st := []) CT hN (h_La_collect_2 l CT.2.2.2 D cI cL cZ adC qo f h1) tbW_851 tb_849 tb_850 tbI_La (by decide +kernel) ⟨Nat.le_of_ble_eq_true rfl, Nat.le_of_ble_eq_true rfl⟩ ⟨hc1, hs1⟩ [0, 1, 2, 3, 4, 5, 6, 7, 8, 9, 10, 11, 12, 13, 14, 15, 16, 17, 18, 19, 20, 21, 22, 23, 24, 25, 26, 27, 28, 29, 30, 31, 32] [33, 34, 35, 36, 37, 38, 39, 40, 41, 42, 43, 44, 45, 46, 47, 48, 49, 50, 51, 52, 53, 54, 55, 56, 57, 58] (wL_h cI cL cZ qo f adC σ adM τ) (wL_hf cI cL cZ qo f adC σ adM τ) (by decide) (wL_m cI cL cZ qo f adC σ adM τ) (by decide) (by decide) rfl (Nat.le_of_ble_eq_true rfl) d_La_law_1046 ?_
    refine gw_widen (cells' := cells + 1) (slots' := slots + 6) (Nat.add_le_add_left (by decide) _) (Nat.add_le_add_left (by decide) _) ?_
    refine gw_perm [26, 27, 28, 29, 30, 31, 32, 33, 34, 35, 36, 37, 38, 39, 40, 41, 42, 43, 44, 45, 46, 47, 48, 49, 50, 51, 52, 53, 54, 55, 56, 57, 58, 0, 1, 2, 3, 4, 5, 6, 7, 8, 9, 10, 11, 12, 13, 14, 15, 16, 17, 18, 19, 20, 21, 22, 23, 24, 25] (wL_ph cI cL cZ qo f adC σ' adM τ) (wL_phm cI cL cZ qo f adC σ' adM τ) (by decide) ?_
    refine gw_istore (lv' := [(5, .int 1), (0, .ref b), (1, .ref (adC 0)), (2, .ref (adM 0)), (3, .ref qo), (4, .int x4)]) C d_La_law_1049 (by decide) rfl ?_
    refine gw_aload_n C d_La_law_1051 rfl 3 rfl ?_
    refine gw_callVF (T := T_Mo) (N := 48) (n := 0) (q0 := 0) (As := []) (st := []) C (c_Mo_collect l D cI cL cZ adM h2) tb_1194 tb_1191 tb_1192 tb_1193 tb_8 (by decide +kernel) ⟨Nat.le_of_ble_eq_true rfl, Nat.le_of_ble_eq_true rfl⟩ ⟨hc1, hs1⟩ rfl rfl [33, 34, 35, 36, 37, 38, 39, 40, 41, 42, 43, 44, 45, 46, 47, 48, 49, 50, 51, 52, 53, 54, 55, 56, 57, 58] [0, 1, 2, 3, 4, 5, 6, 7, 8, 9, 10, 11, 12, 13, 14, 15, 16, 17, 18, 19, 20, 21, 22, 23, 24, 25, 26, 27, 28, 29, 30, 31, 32] (wL_m cI cL cZ qo f adC σ' adM τ) (wL_mf cI cL cZ qo f adC σ' adM τ) (by decide) (wL_h cI cL cZ qo f adC σ' adM τ) (by decide) (by decide) rfl rfl rfl (Nat.le_of_ble_eq_true rfl) d_La_law_1052 ?_
    refine gw_eq (ws' := (wL cI cL cZ qo f adC σ' adM τ')) rfl rfl ?_
    refine gw_istore (lv' := [(6, .int bv), (5, .int 1), (0, .ref b), (1, .ref (adC 0)), (2, .ref (adM 0)), (3, .ref qo), (4, .int x4)]) C d_La_law_1055 (by decide) rfl ?_
    refine gw_aload_n C d_La_law_1057 rfl 4 rfl ?_
    refine gw_callVF (T := T_Mo) (N := 48) (n := 0) (q0 := 0) (As := []) (st := []) C (c_Mo_thrown l D cI cL cZ adM h3) tb_1020 tb_1017 tb_1018 tb_1019 tb_8 (by decide +kernel) ⟨Nat.le_of_ble_eq_true rfl, Nat.le_of_ble_eq_true rfl⟩ ⟨hc1, hs1⟩ rfl rfl [33, 34, 35, 36, 37, 38, 39, 40, 41, 42, 43, 44, 45, 46, 47, 48, 49, 50, 51, 52, 53, 54, 55, 56, 57, 58] [0, 1, 2, 3, 4, 5, 6, 7, 8, 9, 10, 11, 12, 13, 14, 15, 16, 17, 18, 19, 20, 21, 22, 23, 24, 25, 26, 27, 28, 29, 30, 31, 32] (wL_m cI cL cZ qo f adC σ' adM τ') (wL_mf cI cL cZ qo f adC σ' adM τ') (by decide) (wL_h cI cL cZ qo f adC σ' adM τ') (by decide) (by decide) rfl rfl rfl (Nat.le_of_ble_eq_true rfl) d_La_law_1058 ?_
    refine gw_eq (ws' := (wL cI cL cZ qo f adC σ' adM τ')) rfl rfl ?_
    refine gw_iload C d_La_law_1061 1 rfl ?_
    refine gw_icmp_eq (tgt := 1068) C d_La_law_1063 (by decide) (fun _ => ?_) (fun h => absurd rfl h)
    refine gw_iload C d_La_law_1068 1 rfl ?_
    refine gw_if_ne (tgt := 1085) C d_La_law_1070 (by decide) (fun _ => ?_) (fun h => absurd h (by decide))
    refine gw_goto (tgt := 1144) C d_La_law_1085 (by decide) ?_
    refine gw_less [2, 3, 4, 5, 6] rfl ?_
    exact kk _ _ _ hrel'
set_option maxRecDepth 100000 in
set_option maxHeartbeats 4000000 in
theorem law_every {Rel : Nat → St → St → Prop} (S : LawSim Rel) {p : Program} {l : Launch} {e : Env} {s : State} {m : MethodId} {below : List Frame} {meth : Method} {c : Code} {D : va_G} {A : Nat → Prop} {Q : State → Prop} {cI cL cZ : ClassId} {b L : Nat} {xs : Nat → Int32} (CT : gw_CT l p s m #[Value.ref b] meth c code 7 R_La D gw_cl (gw_ty cI cL cZ) A) (hN : gw_Nc s) (hX : va_X b L xs s s.heap) (hbl : b < s.heap.size) (hbA : ¬ A b) {qo : Nat} {f : Nat → Int64} {adC adM : Nat → Nat} {σ τ : St} {n cells slots : Nat} (hn : n < 512) (hrel : Rel n σ τ) (hc1 : cells + 1 ≤ room_1.cells) (hs1 : slots + 6 ≤ room_1.slots) {x4 v1 v2 v3 : Int32} (h_1 : vp_in (x4 + 1) L) (h_2 : vp_in (x4 + 2) L) (h_3 : vp_in (x4 + 3) L) (e_1 : xs (x4 + 1).toNatClampNeg = v1) (e_2 : xs (x4 + 2).toNatClampNeg = v2) (e_3 : xs (x4 + 3).toNatClampNeg = v3)
    (kk : ∀ (f' : Nat → Int64) (σ' τ' : St), Rel (n + 1) σ' τ' → gw_W p l e room_1 s m #[Value.ref b] below meth c D gw_cl A Q (cells + 1) (slots + 6) 7 (wL cI cL cZ qo f' adC σ' adM τ') [(0, .ref b), (1, .ref (adC 0)), (2, .ref (adM 0)), (3, .ref qo), (4, .int x4)] 1144 []) : gw_W p l e room_1 s m #[Value.ref b] below meth c D gw_cl A Q cells slots 7 (wL cI cL cZ qo f adC σ adM τ) [(0, .ref b), (1, .ref (adC 0)), (2, .ref (adM 0)), (3, .ref qo), (4, .int x4)] 1088 [] := by
  have C := CT.1
  refine gw_aload_n C d_La_law_1088 rfl 1 rfl ?_
  refine gw_aload_n C d_La_law_1089 rfl 0 rfl ?_
  refine gw_iload C d_La_law_1090 4 rfl ?_
  refine gw_iconst (v := 1) C d_La_law_1092 (by decide) ?_
  refine gw_iadd C d_La_law_1093 ?_
  refine gw_sld (v := v1) C hX hbl hbA h_1 e_1 d_La_law_1094 ?_
  refine gw_aload_n C d_La_law_1095 rfl 3 rfl ?_
  obtain ⟨k, r, σ', bv, τ', th, h1, h2, h3, hrel', hcs⟩ := S.2.2.2.2.2.2.2.2.2.2.2.2.2.2.2.2.2.2.2 n σ τ v1 hn hrel
  rcases hcs with ⟨rfl, rfl, rfl⟩ | ⟨rfl, rfl⟩
  · refine gw_callSH (n := 3) (As := [.ref (adC 0), .int v1, .ref qo]) (st := []) CT hN (h_La_every_0 l CT.2.2.2 D cI cL cZ adC qo f h1) tbW_859 tb_857 tb_858 tbI_La (by decide +kernel) ⟨Nat.le_of_ble_eq_true rfl, Nat.le_of_ble_eq_true rfl⟩ ⟨hc1, hs1⟩ [0, 1, 2, 3, 4, 5, 6, 7, 8, 9, 10, 11, 12, 13, 14, 15, 16, 17, 18, 19, 20, 21, 22, 23, 24, 25, 26, 27, 28, 29, 30, 31, 32] [33, 34, 35, 36, 37, 38, 39, 40, 41, 42, 43, 44, 45, 46, 47, 48, 49, 50, 51, 52, 53, 54, 55, 56, 57, 58] (wL_h cI cL cZ qo f adC σ adM τ) (wL_hf cI cL cZ qo f adC σ adM τ) (by decide) (wL_m cI cL cZ qo f adC σ adM τ) (by decide) (by decide) rfl (Nat.le_of_ble_eq_true rfl) d_La_law_1096 ?_
    refine gw_widen (cells' := cells + 1) (slots' := slots + 6) (Nat.add_le_add_left (by decide) _) (Nat.add_le_add_left (by decide) _) ?_
    refine gw_perm [26, 27, 28, 29, 30, 31, 32, 33, 34, 35, 36, 37, 38, 39, 40, 41, 42, 43, 44, 45, 46, 47, 48, 49, 50, 51, 52, 53, 54, 55, 56, 57, 58, 0, 1, 2, 3, 4, 5, 6, 7, 8, 9, 10, 11, 12, 13, 14, 15, 16, 17, 18, 19, 20, 21, 22, 23, 24, 25] (wL_ph cI cL cZ qo (vp_updL f (0 : Int32).toNatClampNeg r.toInt64) adC σ' adM τ) (wL_phm cI cL cZ qo (vp_updL f (0 : Int32).toNatClampNeg r.toInt64) adC σ' adM τ) (by decide) ?_
    refine gw_istore (lv' := [(5, .int 0), (0, .ref b), (1, .ref (adC 0)), (2, .ref (adM 0)), (3, .ref qo), (4, .int x4)]) C d_La_law_1099 (by decide) rfl ?_
    refine gw_aload_n C d_La_law_1101 rfl 3 rfl ?_
    refine gw_aload_n C d_La_law_1102 rfl 1 rfl ?_
    refine gw_iload C d_La_law_1103 5 rfl ?_
    refine gw_iconst (v := 1) C d_La_law_1105 (by decide) ?_
    refine gw_iadd C d_La_law_1106 ?_
    refine gw_sld (v := v1) C hX hbl hbA h_1 e_1 d_La_law_1107 ?_
    refine gw_callVF (T := T_Mo) (N := 48) (n := 1) (q0 := 0) (As := [.int v1]) (st := []) C (c_Mo_every l D cI cL cZ adM h2) tb_1198 tb_1195 tb_1196 tb_1197 tb_8 (by decide +kernel) ⟨Nat.le_of_ble_eq_true rfl, Nat.le_of_ble_eq_true rfl⟩ ⟨hc1, hs1⟩ rfl rfl [33, 34, 35, 36, 37, 38, 39, 40, 41, 42, 43, 44, 45, 46, 47, 48, 49, 50, 51, 52, 53, 54, 55, 56, 57, 58] [0, 1, 2, 3, 4, 5, 6, 7, 8, 9, 10, 11, 12, 13, 14, 15, 16, 17, 18, 19, 20, 21, 22, 23, 24, 25, 26, 27, 28, 29, 30, 31, 32] (wL_m cI cL cZ qo (vp_updL f (0 : Int32).toNatClampNeg r.toInt64) adC σ' adM τ) (wL_mf cI cL cZ qo (vp_updL f (0 : Int32).toNatClampNeg r.toInt64) adC σ' adM τ) (by decide) (wL_h cI cL cZ qo (vp_updL f (0 : Int32).toNatClampNeg r.toInt64) adC σ' adM τ) (by decide) (by decide) rfl rfl rfl (Nat.le_of_ble_eq_true rfl) d_La_law_1108 ?_
    refine gw_eq (ws' := (wL cI cL cZ qo (vp_updL f (0 : Int32).toNatClampNeg r.toInt64) adC σ' adM τ')) rfl rfl ?_
    refine gw_istore (lv' := [(6, .int r), (5, .int 0), (0, .ref b), (1, .ref (adC 0)), (2, .ref (adM 0)), (3, .ref qo), (4, .int x4)]) C d_La_law_1111 (by decide) rfl ?_
    refine gw_aload_n C d_La_law_1113 rfl 4 rfl ?_
    refine gw_callVF (T := T_Mo) (N := 48) (n := 0) (q0 := 0) (As := []) (st := []) C (c_Mo_thrown l D cI cL cZ adM h3) tb_1020 tb_1017 tb_1018 tb_1019 tb_8 (by decide +kernel) ⟨Nat.le_of_ble_eq_true rfl, Nat.le_of_ble_eq_true rfl⟩ ⟨hc1, hs1⟩ rfl rfl [33, 34, 35, 36, 37, 38, 39, 40, 41, 42, 43, 44, 45, 46, 47, 48, 49, 50, 51, 52, 53, 54, 55, 56, 57, 58] [0, 1, 2, 3, 4, 5, 6, 7, 8, 9, 10, 11, 12, 13, 14, 15, 16, 17, 18, 19, 20, 21, 22, 23, 24, 25, 26, 27, 28, 29, 30, 31, 32] (wL_m cI cL cZ qo (vp_updL f (0 : Int32).toNatClampNeg r.toInt64) adC σ' adM τ') (wL_mf cI cL cZ qo (vp_updL f (0 : Int32).toNatClampNeg r.toInt64) adC σ' adM τ') (by decide) (wL_h cI cL cZ qo (vp_updL f (0 : Int32).toNatClampNeg r.toInt64) adC σ' adM τ') (by decide) (by decide) rfl rfl rfl (Nat.le_of_ble_eq_true rfl) d_La_law_1114 ?_
    refine gw_eq (ws' := (wL cI cL cZ qo (vp_updL f (0 : Int32).toNatClampNeg r.toInt64) adC σ' adM τ')) rfl rfl ?_
    refine gw_iload C d_La_law_1117 1 rfl ?_
    refine gw_icmp_eq (tgt := 1124) C d_La_law_1119 (by decide) (fun _ => ?_) (fun h => absurd rfl h)
    refine gw_iload C d_La_law_1124 1 rfl ?_
    refine gw_if_ne (tgt := 1141) C d_La_law_1126 (by decide) (fun h => absurd rfl h) (fun _ => ?_)
    refine gw_aload_n C d_La_law_1129 rfl 5 rfl ?_
    refine gw_iconst (v := 0) C d_La_law_1130 (by decide) ?_
    refine gw_lald C 0 1 rfl rfl (vp_in_nI (n := 0) (N := 1) (by decide) (by decide)) d_La_law_1131 ?_
    refine gw_iload C d_La_law_1132 0 rfl ?_
    refine gw_i2l C d_La_law_1134 ?_
    refine gw_lcmp C d_La_law_1135 ?_
    refine gw_if_eq (tgt := 1141) C d_La_law_1136 (by decide) (fun _ => ?_) (fun h => absurd (gw_lc _ _ _) h)
    refine gw_goto (tgt := 1144) C d_La_law_1141 (by decide) ?_
    refine gw_less [2, 3, 4, 5, 6] rfl ?_
    exact kk _ _ _ hrel'
  · refine gw_callSH (n := 3) (As := [.ref (adC 0), .int v1, .ref qo]) (st := []) CT hN (h_La_every_3 l CT.2.2.2 D cI cL cZ adC qo f h1) tbW_859 tb_857 tb_858 tbI_La (by decide +kernel) ⟨Nat.le_of_ble_eq_true rfl, Nat.le_of_ble_eq_true rfl⟩ ⟨hc1, hs1⟩ [0, 1, 2, 3, 4, 5, 6, 7, 8, 9, 10, 11, 12, 13, 14, 15, 16, 17, 18, 19, 20, 21, 22, 23, 24, 25, 26, 27, 28, 29, 30, 31, 32] [33, 34, 35, 36, 37, 38, 39, 40, 41, 42, 43, 44, 45, 46, 47, 48, 49, 50, 51, 52, 53, 54, 55, 56, 57, 58] (wL_h cI cL cZ qo f adC σ adM τ) (wL_hf cI cL cZ qo f adC σ adM τ) (by decide) (wL_m cI cL cZ qo f adC σ adM τ) (by decide) (by decide) rfl (Nat.le_of_ble_eq_true rfl) d_La_law_1096 ?_
    refine gw_widen (cells' := cells + 1) (slots' := slots + 6) (Nat.add_le_add_left (by decide) _) (Nat.add_le_add_left (by decide) _) ?_
    refine gw_perm [26, 27, 28, 29, 30, 31, 32, 33, 34, 35, 36, 37, 38, 39, 40, 41, 42, 43, 44, 45, 46, 47, 48, 49, 50, 51, 52, 53, 54, 55, 56, 57, 58, 0, 1, 2, 3, 4, 5, 6, 7, 8, 9, 10, 11, 12, 13, 14, 15, 16, 17, 18, 19, 20, 21, 22, 23, 24, 25] (wL_ph cI cL cZ qo f adC σ' adM τ) (wL_phm cI cL cZ qo f adC σ' adM τ) (by decide) ?_
    refine gw_istore (lv' := [(5, .int 1), (0, .ref b), (1, .ref (adC 0)), (2, .ref (adM 0)), (3, .ref qo), (4, .int x4)]) C d_La_law_1099 (by decide) rfl ?_
    refine gw_aload_n C d_La_law_1101 rfl 3 rfl ?_
    refine gw_aload_n C d_La_law_1102 rfl 1 rfl ?_
    refine gw_iload C d_La_law_1103 5 rfl ?_
    refine gw_iconst (v := 1) C d_La_law_1105 (by decide) ?_
    refine gw_iadd C d_La_law_1106 ?_
    refine gw_sld (v := v1) C hX hbl hbA h_1 e_1 d_La_law_1107 ?_
    refine gw_callVF (T := T_Mo) (N := 48) (n := 1) (q0 := 0) (As := [.int v1]) (st := []) C (c_Mo_every l D cI cL cZ adM h2) tb_1198 tb_1195 tb_1196 tb_1197 tb_8 (by decide +kernel) ⟨Nat.le_of_ble_eq_true rfl, Nat.le_of_ble_eq_true rfl⟩ ⟨hc1, hs1⟩ rfl rfl [33, 34, 35, 36, 37, 38, 39, 40, 41, 42, 43, 44, 45, 46, 47, 48, 49, 50, 51, 52, 53, 54, 55, 56, 57, 58] [0, 1, 2, 3, 4, 5, 6, 7, 8, 9, 10, 11, 12, 13, 14, 15, 16, 17, 18, 19, 20, 21, 22, 23, 24, 25, 26, 27, 28, 29, 30, 31, 32] (wL_m cI cL cZ qo f adC σ' adM τ) (wL_mf cI cL cZ qo f adC σ' adM τ) (by decide) (wL_h cI cL cZ qo f adC σ' adM τ) (by decide) (by decide) rfl rfl rfl (Nat.le_of_ble_eq_true rfl) d_La_law_1108 ?_
    refine gw_eq (ws' := (wL cI cL cZ qo f adC σ' adM τ')) rfl rfl ?_
    refine gw_istore (lv' := [(6, .int bv), (5, .int 1), (0, .ref b), (1, .ref (adC 0)), (2, .ref (adM 0)), (3, .ref qo), (4, .int x4)]) C d_La_law_1111 (by decide) rfl ?_
    refine gw_aload_n C d_La_law_1113 rfl 4 rfl ?_
    refine gw_callVF (T := T_Mo) (N := 48) (n := 0) (q0 := 0) (As := []) (st := []) C (c_Mo_thrown l D cI cL cZ adM h3) tb_1020 tb_1017 tb_1018 tb_1019 tb_8 (by decide +kernel) ⟨Nat.le_of_ble_eq_true rfl, Nat.le_of_ble_eq_true rfl⟩ ⟨hc1, hs1⟩ rfl rfl [33, 34, 35, 36, 37, 38, 39, 40, 41, 42, 43, 44, 45, 46, 47, 48, 49, 50, 51, 52, 53, 54, 55, 56, 57, 58] [0, 1, 2, 3, 4, 5, 6, 7, 8, 9, 10, 11, 12, 13, 14, 15, 16, 17, 18, 19, 20, 21, 22, 23, 24, 25, 26, 27, 28, 29, 30, 31, 32] (wL_m cI cL cZ qo f adC σ' adM τ') (wL_mf cI cL cZ qo f adC σ' adM τ') (by decide) (wL_h cI cL cZ qo f adC σ' adM τ') (by decide) (by decide) rfl rfl rfl (Nat.le_of_ble_eq_true rfl) d_La_law_1114 ?_
    refine gw_eq (ws' := (wL cI cL cZ qo f adC σ' adM τ')) rfl rfl ?_
    refine gw_iload C d_La_law_1117 1 rfl ?_
    refine gw_icmp_eq (tgt := 1124) C d_La_law_1119 (by decide) (fun _ => ?_) (fun h => absurd rfl h)
    refine gw_iload C d_La_law_1124 1 rfl ?_
    refine gw_if_ne (tgt := 1141) C d_La_law_1126 (by decide) (fun _ => ?_) (fun h => absurd h (by decide))
    refine gw_goto (tgt := 1144) C d_La_law_1141 (by decide) ?_
    refine gw_less [2, 3, 4, 5, 6] rfl ?_
    exact kk _ _ _ hrel'
