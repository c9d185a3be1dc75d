set_option maxRecDepth 100000 in
set_option maxHeartbeats 4000000 in
theorem c_Gw_collect (l : Launch) (hfl : l.flags = pinnedFlags ++ [noTraceFlag]) (D : va_G) (cI cL cZ : ClassId) (ad : Nat → Nat) {σ : St} {k : Nat} {r : Int32} {σ' : St} (hF : F_Gw_collect σ = some ((k, r), σ')) : gw_MT l y_Gw_collect w_Gw_collect rm_Gw_collect D gw_cl (gw_ty cI cL cZ) [.ref (ad 0)] (wC ad cI cL cZ σ) (wC ad cI cL cZ σ') k (some (.int r)) := by
  refine gw_startT (cc := b_Gw_collect) (nL := 1) (ret := (some .int)) hfl (by decide) rfl (Nat.le_of_ble_eq_true rfl) (fun p e s m below meth c A CT hr hem => ?_)
  have C := CT.1
  refine gw_eq (lv' := [(0, .ref (ad 0))]) rfl rfl ?_
  unfold F_Gw_collect at hF
  refine gw_aload_n C d_Gw_collect_0 rfl 0 rfl ?_
  obtain ⟨k2, r3, σ4, h1, hF⟩ := gw_bndT hF
  refine fcT_Gw_71 (As := []) (st := []) (σ' := σ4) CT (c_Gw_refuseMissingRun l CT.2.2.2 D cI cL cZ ad h1) ⟨Nat.le_of_ble_eq_true rfl, Nat.le_of_ble_eq_true rfl⟩ ⟨Nat.le_of_ble_eq_true rfl, Nat.le_of_ble_eq_true rfl⟩ rfl (Nat.le_of_ble_eq_true rfl) d_Gw_collect_1 hem (fun h5 => ?_) (fun h5 => ?_)
  · have hF := gw_pos h5 hF
    refine gw_aload_n C d_Gw_collect_4 rfl 0 rfl ?_
    refine fg_Gw_10 C d_Gw_collect_5 ?_
    obtain ⟨r7, σ8, h6, hF⟩ := gw_bnd hF
    refine fc_Gw_160 (As := []) (st := []) (σ' := σ8) C (c_Wa_sweepUnreached l D cI cL cZ ad h6) ⟨Nat.le_of_ble_eq_true rfl, Nat.le_of_ble_eq_true rfl⟩ ⟨Nat.le_of_ble_eq_true rfl, Nat.le_of_ble_eq_true rfl⟩ rfl (Nat.le_of_ble_eq_true rfl) d_Gw_collect_8 ?_
    cases hF
    exact gw_iretT CT hr rfl d_Gw_collect_11
  · have hF := gw_neg h5 hF
    cases hF
    exact ⟨rfl, rfl⟩
set_option maxRecDepth 100000 in
set_option maxHeartbeats 4000000 in
theorem c_Gw_every (l : Launch) (hfl : l.flags = pinnedFlags ++ [noTraceFlag]) (D : va_G) (cI cL cZ : ClassId) (ad : Nat → Nat) {σ : St} {x1 : Int32} {k : Nat} {r : Int32} {σ' : St} (hF : F_Gw_every σ x1 = some ((k, r), σ')) : gw_MT l y_Gw_every w_Gw_every rm_Gw_every D gw_cl (gw_ty cI cL cZ) [.ref (ad 0), .int x1] (wC ad cI cL cZ σ) (wC ad cI cL cZ σ') k (some (.int r)) := by
  refine gw_startT (cc := b_Gw_every) (nL := 3) (ret := (some .int)) hfl (by decide) rfl (Nat.le_of_ble_eq_true rfl) (fun p e s m below meth c A CT hr hem => ?_)
  have C := CT.1
  refine gw_eq (lv' := [(0, .ref (ad 0)), (1, .int x1)]) rfl rfl ?_
  unfold F_Gw_every at hF
  refine gw_iload_n C d_Gw_every_0 rfl 1 rfl ?_
  refine gw_if_lt (tgt := 11) C d_Gw_every_1 (by decide) (fun h1 => ?_) (fun h1 => ?_)
  · have hF := gw_pos h1 hF
    cases hF
    exact gw_throw (k := 3) CT rfl rfl (by decide) (by decide +kernel) gw_own_IAE tb_367 tb_368 tb_13 tbS_864 d_Gw_every_11 d_Gw_every_14 d_Gw_every_15 d_Gw_every_17 d_Gw_every_20 hem rfl (Nat.le_of_ble_eq_true rfl) (Nat.le_of_ble_eq_true rfl) (Nat.le_of_ble_eq_true rfl) (Nat.le_of_ble_eq_true rfl)
  · have hF := gw_neg h1 hF
    refine gw_iload_n C d_Gw_every_4 rfl 1 rfl ?_
    refine gw_sipush (v := 5000) C d_Gw_every_5 (by decide) ?_
    refine gw_icmp_le (tgt := 21) C d_Gw_every_8 (by decide) (fun h2 => ?_) (fun h2 => ?_)
    · have hF := gw_pos h2 hF
      refine gw_aload_n C d_Gw_every_21 rfl 0 rfl ?_
      refine fg_Gw_10 C d_Gw_every_22 ?_
      refine fg_Gw_166 (v := σ.1 10) C rfl d_Gw_every_25 ?_
      refine gw_istore_n (lv' := [(2, .int (σ.1 10)), (0, .ref (ad 0)), (1, .int x1)]) C d_Gw_every_28 rfl (by decide) rfl ?_
      refine gw_aload_n C d_Gw_every_29 rfl 1 rfl ?_
      refine fg_Gw_10 C d_Gw_every_30 ?_
      refine gw_iload_n C d_Gw_every_33 rfl 2 rfl ?_
      refine fp_Gw_166 C d_Gw_every_34 ?_
      refine gw_iload_n C d_Gw_every_37 rfl 0 rfl ?_
      cases hF
      exact gw_iretT CT hr rfl d_Gw_every_38
    · have hF := gw_neg h2 hF
      cases hF
      exact gw_throw (k := 3) CT rfl rfl (by decide) (by decide +kernel) gw_own_IAE tb_367 tb_368 tb_13 tbS_864 d_Gw_every_11 d_Gw_every_14 d_Gw_every_15 d_Gw_every_17 d_Gw_every_20 hem rfl (Nat.le_of_ble_eq_true rfl) (Nat.le_of_ble_eq_true rfl) (Nat.le_of_ble_eq_true rfl) (Nat.le_of_ble_eq_true rfl)
