theorem tb_16 : (Jvm.Cond.classLink "GraphWalkerLaw" (8 : Nat) "GraphWalker") ∈ gw_all := List.mem_filter.mpr ⟨List.mem_append_right _ (List.mem_of_getElem? (i := 16) (by decide +kernel)), rfl⟩
theorem tb_17 : (Jvm.Cond.instantiable "GraphWalker" (1 : Nat)) ∈ gw_all := List.mem_filter.mpr ⟨List.mem_append_right _ (List.mem_of_getElem? (i := 17) (by decide +kernel)), rfl⟩
theorem tb_18 : (Jvm.Cond.methodLink "GraphWalkerLaw" (70 : Nat) ({ cls := "GraphWalker", name := "<init>", desc := "()V" } : Jvm.MethodName)) ∈ gw_all := List.mem_filter.mpr ⟨List.mem_append_right _ (List.mem_of_getElem? (i := 18) (by decide +kernel)), rfl⟩
theorem tb_19 : (Jvm.Cond.instanceMethod ({ cls := "GraphWalker", name := "<init>", desc := "()V" } : Jvm.MethodName)) ∈ gw_all := List.mem_filter.mpr ⟨List.mem_append_right _ (List.mem_of_getElem? (i := 19) (by decide +kernel)), rfl⟩
theorem tb_20 : (Jvm.Cond.code ({ cls := "GraphWalker", name := "<init>", desc := "()V" } : Jvm.MethodName) prog_1_method_1_code (1 : Nat) (Option.none : Option Jvm.ClassFile.FieldType)) ∈ gw_T := List.mem_filter.mpr ⟨List.mem_append_right _ (List.mem_of_getElem? (i := 20) (by decide +kernel)), rfl⟩
theorem tb_865 : (Jvm.Cond.classLink "GraphWalkerLaw" (71 : Nat) "GraphWalkerModel") ∈ gw_all := List.mem_filter.mpr ⟨List.mem_append_right _ (List.mem_of_getElem? (i := 865) (by decide +kernel)), rfl⟩
theorem tb_866 : (Jvm.Cond.instantiable "GraphWalkerModel" (48 : Nat)) ∈ gw_all := List.mem_filter.mpr ⟨List.mem_append_right _ (List.mem_of_getElem? (i := 866) (by decide +kernel)), rfl⟩
theorem tb_867 : (Jvm.Cond.methodLink "GraphWalkerLaw" (73 : Nat) ({ cls := "GraphWalkerModel", name := "<init>", desc := "()V" } : Jvm.MethodName)) ∈ gw_all := List.mem_filter.mpr ⟨List.mem_append_right _ (List.mem_of_getElem? (i := 867) (by decide +kernel)), rfl⟩
theorem tb_868 : (Jvm.Cond.instanceMethod ({ cls := "GraphWalkerModel", name := "<init>", desc := "()V" } : Jvm.MethodName)) ∈ gw_all := List.mem_filter.mpr ⟨List.mem_append_right _ (List.mem_of_getElem? (i := 868) (by decide +kernel)), rfl⟩
theorem tb_869 : (Jvm.Cond.code ({ cls := "GraphWalkerModel", name := "<init>", desc := "()V" } : Jvm.MethodName) prog_9_method_1_code (1 : Nat) (Option.none : Option Jvm.ClassFile.FieldType)) ∈ gw_T := List.mem_filter.mpr ⟨List.mem_append_right _ (List.mem_of_getElem? (i := 869) (by decide +kernel)), rfl⟩
theorem gw_out19 {x : Int32} (h0 : ¬ x = 0) (h1 : ¬ x = 1) (h2 : ¬ x = 2) (h3 : ¬ x = 3) (h4 : ¬ x = 4) (h5 : ¬ x = 5) (h6 : ¬ x = 6) (h7 : ¬ x = 7) (h8 : ¬ x = 8) (h9 : ¬ x = 9) (h10 : ¬ x = 10) (h11 : ¬ x = 11) (h12 : ¬ x = 12) (h13 : ¬ x = 13) (h14 : ¬ x = 14) (h15 : ¬ x = 15) (h16 : ¬ x = 16) (h17 : ¬ x = 17) (h18 : ¬ x = 18) : x.toInt < 0 ∨ 18 < x.toInt := by
  have e : ∀ k : Int32, ¬ x = k → ¬ x.toInt = k.toInt := fun k h q => h (Int32.toInt_inj.mp q)
  have g0 : ¬ x.toInt = 0 := e 0 h0
  have g1 : ¬ x.toInt = 1 := e 1 h1
  have g2 : ¬ x.toInt = 2 := e 2 h2
  have g3 : ¬ x.toInt = 3 := e 3 h3
  have g4 : ¬ x.toInt = 4 := e 4 h4
  have g5 : ¬ x.toInt = 5 := e 5 h5
  have g6 : ¬ x.toInt = 6 := e 6 h6
  have g7 : ¬ x.toInt = 7 := e 7 h7
  have g8 : ¬ x.toInt = 8 := e 8 h8
  have g9 : ¬ x.toInt = 9 := e 9 h9
  have g10 : ¬ x.toInt = 10 := e 10 h10
  have g11 : ¬ x.toInt = 11 := e 11 h11
  have g12 : ¬ x.toInt = 12 := e 12 h12
  have g13 : ¬ x.toInt = 13 := e 13 h13
  have g14 : ¬ x.toInt = 14 := e 14 h14
  have g15 : ¬ x.toInt = 15 := e 15 h15
  have g16 : ¬ x.toInt = 16 := e 16 h16
  have g17 : ¬ x.toInt = 17 := e 17 h17
  have g18 : ¬ x.toInt = 18 := e 18 h18
  omega
set_option maxRecDepth 100000 in
set_option maxHeartbeats 4000000 in
theorem law_loop {Rel : Nat → St → St → Prop} (S : LawSim Rel) {p : Program} {l : Launch} {e : Env} {s : State} {m : MethodId} {below : List Frame} {meth : Method} {c : Code} {D : va_G} {cI cL cZ : ClassId} {b L : Nat} {xs : Nat → Int32} (hL : L ≤ 2048) (CT : gw_CT l p s m #[Value.ref b] meth c code 7 R_La D gw_cl (gw_ty cI cL cZ) (fun q : Nat => s.heap.size ≤ q)) (hr : meth.sig.returnType = ret) (hN : gw_Nc s) (hX : va_X b L xs s s.heap) (hbl : b < s.heap.size) {qo : Nat} {adC adM : Nat → Nat} :
    ∀ (j n cells slots : Nat) (x4 : Int32) (f : Nat → Int64) (σ τ : St), L + 1 ≤ 4 * n + j → 4 * n ≤ L → x4 = nI (4 * n) → cells ≤ 59 + n → slots ≤ 33503 + 6 * n → Rel n σ τ → gw_W p l e room_1 s m #[Value.ref b] below meth c D gw_cl (fun q : Nat => s.heap.size ≤ q) (lw_Z below #[Value.ref b] s) cells slots 7 (wL cI cL cZ qo f adC σ adM τ) [(0, .ref b), (1, .ref (adC 0)), (2, .ref (adM 0)), (3, .ref qo), (4, .int x4)] 23 [] := by
  have C := CT.1
  have hbA : ¬ (fun q : Nat => s.heap.size ≤ q) b := Nat.not_le.mpr hbl
  have hk1 : room_1.cells = 1099 := rfl
  have hk2 : room_1.slots = 41791 := rfl
  intro j
  induction j with
  | zero => intro n cells slots x4 f σ τ h1 h2; omega
  | succ j ih =>
    intro n cells slots x4 f σ τ h1 h2 hx4 hcl hsl hrel
    refine gw_iload C d_La_law_23 4 rfl ?_
    refine gw_aload_n C d_La_law_25 rfl 0 rfl ?_
    refine gw_slen C hX hbl hbA d_La_law_26 ?_
    refine gw_iconst (v := 4) C d_La_law_27 (by decide) ?_
    refine gw_isub C d_La_law_28 ?_
    refine gw_icmp_gt (tgt := 1150) C d_La_law_29 (by decide) (fun h => ?_) (fun h => ?_)
    · refine gw_iconst (v := 1) C d_La_law_1150 (by decide) ?_
      exact fun H locs ls hP hD hS hl => va_forget (fun q hq => hS.2.2 q hq) (W.widen (k := 1099) (n := 41791) (by omega) (by omega) (lw_ret C.1 C.2.1 hr C.2.2.2.2.2.2.2 d_La_law_1151))
    · have hlt : 4 * n + 4 ≤ L := by
        have e1 : (Int32.ofNat L - 4).toInt = (L : Int) - 4 := pk_sub_toInt (a := L) (b := 4) (by omega) (by decide)
        rw [hx4, Int32.lt_iff_toInt_lt, e1, nI_toInt (by omega)] at h
        omega
      have e0 : ∀ i : Nat, i < 4 → vp_in (nI (4 * n + i)) L := fun i hi => vp_in_nI (by omega) (by omega)
      have h_0 : vp_in x4 L := by rw [hx4]; exact e0 0 (by decide)
      have h_1 : vp_in (x4 + 1) L := by rw [hx4, show nI (4 * n) + 1 = nI (4 * n + 1) from nI_add (4 * n) 1]; exact e0 1 (by decide)
      have h_2 : vp_in (x4 + 2) L := by rw [hx4, show nI (4 * n) + 2 = nI (4 * n + 2) from nI_add (4 * n) 2]; exact e0 2 (by decide)
      have h_3 : vp_in (x4 + 3) L := by rw [hx4, show nI (4 * n) + 3 = nI (4 * n + 3) from nI_add (4 * n) 3]; exact e0 3 (by decide)
      have kk : ∀ (f' : Nat → Int64) (σ' τ' : St), Rel (n + 1) σ' τ' → gw_W p l e room_1 s m #[Value.ref b] below meth c D gw_cl (fun q : Nat => s.heap.size ≤ q) (lw_Z below #[Value.ref b] s) (cells + 1) (slots + 6) 7 (wL cI cL cZ qo f' adC σ' adM τ') [(0, .ref b), (1, .ref (adC 0)), (2, .ref (adM 0)), (3, .ref qo), (4, .int x4)] 1144 [] := by
        intro f' σ' τ' hrel'
        refine gw_iinc (q := 4) (v := x4 + 4) (lv' := [(4, .int (x4 + 4)), (0, .ref b), (1, .ref (adC 0)), (2, .ref (adM 0)), (3, .ref qo)]) C d_La_law_1144 rfl rfl (by decide) rfl ?_
        refine gw_goto (tgt := 23) C d_La_law_1147 (by decide) ?_
        refine gw_less [1, 2, 3, 4, 0] rfl ?_
        exact ih (n + 1) (cells + 1) (slots + 6) (x4 + 4) f' σ' τ' (by omega) (by omega) (by rw [hx4]; exact nI_add (4 * n) 4) (by omega) (by omega) hrel'
      have hn : n < 512 := by omega
      have hc1 : cells + 1 ≤ room_1.cells := by rw [hk1]; omega
      have hs1 : slots + 6 ≤ room_1.slots := by rw [hk2]; omega
      refine gw_aload_n C d_La_law_32 rfl 0 rfl ?_
      refine gw_iload C d_La_law_33 4 rfl ?_
      refine gw_sld C hX hbl hbA h_0 rfl d_La_law_35 ?_
      refine gw_bipush (v := 31) C d_La_law_36 (by decide) ?_
      refine gw_iand C d_La_law_38 ?_
      generalize xs x4.toNatClampNeg &&& 31 = z
      by_cases z0 : z = 0
      · refine gw_tableIn (tgt := 128) C d_La_law_39 (by rw [z0]; decide) (by rw [z0]; decide) (by rw [z0]; rfl) (by decide) ?_
        exact law_number S CT hN hX hbl hbA hn hrel hc1 hs1 h_1 h_2 h_3 rfl rfl rfl kk
      · by_cases z1 : z = 1
        · refine gw_tableIn (tgt := 216) C d_La_law_39 (by rw [z1]; decide) (by rw [z1]; decide) (by rw [z1]; rfl) (by decide) ?_
          exact law_variable S CT hN hX hbl hbA hn hrel hc1 hs1 h_1 h_2 h_3 rfl rfl rfl kk
        · by_cases z2 : z = 2
          · refine gw_tableIn (tgt := 272) C d_La_law_39 (by rw [z2]; decide) (by rw [z2]; decide) (by rw [z2]; rfl) (by decide) ?_
            exact law_one S CT hN hX hbl hbA hn hrel hc1 hs1 h_1 h_2 h_3 rfl rfl rfl kk
          · by_cases z3 : z = 3
            · refine gw_tableIn (tgt := 340) C d_La_law_39 (by rw [z3]; decide) (by rw [z3]; decide) (by rw [z3]; rfl) (by decide) ?_
              exact law_two S CT hN hX hbl hbA hn hrel hc1 hs1 h_1 h_2 h_3 rfl rfl rfl kk
            · by_cases z4 : z = 4
              · refine gw_tableIn (tgt := 420) C d_La_law_39 (by rw [z4]; decide) (by rw [z4]; decide) (by rw [z4]; rfl) (by decide) ?_
                exact law_choose S CT hN hX hbl hbA hn hrel hc1 hs1 h_1 h_2 h_3 rfl rfl rfl kk
              · by_cases z5 : z = 5
                · refine gw_tableIn (tgt := 500) C d_La_law_39 (by rw [z5]; decide) (by rw [z5]; decide) (by rw [z5]; rfl) (by decide) ?_
                  exact law_lacks S CT hN hX hbl hbA hn hrel hc1 hs1 h_1 h_2 h_3 rfl rfl rfl kk
                · by_cases z6 : z = 6
                  · refine gw_tableIn (tgt := 556) C d_La_law_39 (by rw [z6]; decide) (by rw [z6]; decide) (by rw [z6]; rfl) (by decide) ?_
                    exact law_begin S CT hN hX hbl hbA hn hrel hc1 hs1 h_1 h_2 h_3 rfl rfl rfl kk
                  · by_cases z7 : z = 7
                    · refine gw_tableIn (tgt := 620) C d_La_law_39 (by rw [z7]; decide) (by rw [z7]; decide) (by rw [z7]; rfl) (by decide) ?_
                      exact law_run S CT hN hX hbl hbA hn hrel hc1 hs1 h_1 h_2 h_3 rfl rfl rfl kk
                    · by_cases z8 : z = 8
                      · refine gw_tableIn (tgt := 676) C d_La_law_39 (by rw [z8]; decide) (by rw [z8]; decide) (by rw [z8]; rfl) (by decide) ?_
                        exact law_into S CT hN hX hbl hbA hn hrel hc1 hs1 h_1 h_2 h_3 rfl rfl rfl kk
                      · by_cases z9 : z = 9
                        · refine gw_tableIn (tgt := 712) C d_La_law_39 (by rw [z9]; decide) (by rw [z9]; decide) (by rw [z9]; rfl) (by decide) ?_
                          exact law_outcome S CT hN hX hbl hbA hn hrel hc1 hs1 h_1 h_2 h_3 rfl rfl rfl kk
                        · by_cases z10 : z = 10
                          · refine gw_tableIn (tgt := 725) C d_La_law_39 (by rw [z10]; decide) (by rw [z10]; decide) (by rw [z10]; rfl) (by decide) ?_
                            exact law_sort S CT hN hX hbl hbA hn hrel hc1 hs1 h_1 h_2 h_3 rfl rfl rfl kk
                          · by_cases z11 : z = 11
                            · refine gw_tableIn (tgt := 738) C d_La_law_39 (by rw [z11]; decide) (by rw [z11]; decide) (by rw [z11]; rfl) (by decide) ?_
                              exact law_value S CT hN hX hbl hbA hn hrel hc1 hs1 h_1 h_2 h_3 rfl rfl rfl kk
                            · by_cases z12 : z = 12
                              · refine gw_tableIn (tgt := 752) C d_La_law_39 (by rw [z12]; decide) (by rw [z12]; decide) (by rw [z12]; rfl) (by decide) ?_
                                exact law_told S CT hN hX hbl hbA hn hrel hc1 hs1 h_1 h_2 h_3 rfl rfl rfl kk
                              · by_cases z13 : z = 13
                                · refine gw_tableIn (tgt := 808) C d_La_law_39 (by rw [z13]; decide) (by rw [z13]; decide) (by rw [z13]; rfl) (by decide) ?_
                                  exact law_thing S CT hN hX hbl hbA hn hrel hc1 hs1 h_1 h_2 h_3 rfl rfl rfl kk
                                · by_cases z14 : z = 14
                                  · refine gw_tableIn (tgt := 864) C d_La_law_39 (by rw [z14]; decide) (by rw [z14]; decide) (by rw [z14]; rfl) (by decide) ?_
                                    exact law_worked S CT hN hX hbl hbA hn hrel hc1 hs1 h_1 h_2 h_3 rfl rfl rfl kk
                                  · by_cases z15 : z = 15
                                    · refine gw_tableIn (tgt := 932) C d_La_law_39 (by rw [z15]; decide) (by rw [z15]; decide) (by rw [z15]; rfl) (by decide) ?_
                                      exact law_ring S CT hN hX hbl hbA hn hrel hc1 hs1 h_1 h_2 h_3 rfl rfl rfl kk
                                    · by_cases z16 : z = 16
                                      · refine gw_tableIn (tgt := 988) C d_La_law_39 (by rw [z16]; decide) (by rw [z16]; decide) (by rw [z16]; rfl) (by decide) ?_
                                        exact law_entry S CT hN hX hbl hbA hn hrel hc1 hs1 h_1 h_2 h_3 rfl rfl rfl kk
                                      · by_cases z17 : z = 17
                                        · refine gw_tableIn (tgt := 1044) C d_La_law_39 (by rw [z17]; decide) (by rw [z17]; decide) (by rw [z17]; rfl) (by decide) ?_
                                          exact law_collect S CT hN hX hbl hbA hn hrel hc1 hs1 h_1 h_2 h_3 rfl rfl rfl kk
                                        · by_cases z18 : z = 18
                                          · refine gw_tableIn (tgt := 1088) C d_La_law_39 (by rw [z18]; decide) (by rw [z18]; decide) (by rw [z18]; rfl) (by decide) ?_
                                            exact law_every S CT hN hX hbl hbA hn hrel hc1 hs1 h_1 h_2 h_3 rfl rfl rfl kk
                                          · refine gw_tableOut (tgt := 1144) C d_La_law_39 (gw_out19 z0 z1 z2 z3 z4 z5 z6 z7 z8 z9 z10 z11 z12 z13 z14 z15 z16 z17 z18) (by decide) ?_
                                            refine gw_widen (cells' := cells + 1) (slots' := slots + 6) (Nat.le_add_right _ _) (Nat.le_add_right _ _) ?_
                                            exact kk f σ τ (S.1 n σ τ hrel)
def st_C : St := (fun i => ([0, 0, 0, (-1), (-1), (-1), 0, 0, 0, (-1), 0, 0, 0, 0, 0, 0, 0, 0, 0, 0, (-1), (-1)] : List Int32).getD i 0, fun _ _ => 0, fun _ => 0, fun _ _ => 0)
def st_M : St := (fun i => ([0, 0, 0, 0, 0, 0, 0, 0, 0, 0, 0, 0, 0, 0, 0, 0, 0, 0, 0, 0, 0, 0] : List Int32).getD i 0, fun _ _ => 0, fun _ => 0, fun _ _ => 0)
theorem gw_arr {args : Array Value} {s : State} {ty : FieldType} (h : (Cond.arrayClass ty).before args s = true) (hp : ∀ z : ClassId, s.vm.findClass ("[" ++ ty.toString) = some z → va_RA s z ty) : ∃ cA : ClassId, ArrOfT s cA ty ∧ va_RA s cA ty := by
  obtain ⟨c, k, comp, h1, h2, h3⟩ := Cond.arrayClass_spec h
  exact ⟨c, fun n z => ⟨fun k h => (by cases h), k, h2, comp, h3⟩, hp c h1⟩
set_option maxRecDepth 100000 in
theorem gw_F_start {b : Nat} {s : State} (hts : ∀ w ∈ lw_tbl, w.before #[Value.ref b] s = true) (hgv : (Jvm.Cond.and given_1 narrow_1).before #[Value.ref b] s = true) : gw_F s := by
  have hvm : s.vm.Alike s.vm := Vm.Alike.refl s.vm
  have hkk : gw_keepS s.heap s.heap := fun a cell q _ => q
  have l1 : gw_ls1.before #[Value.ref b] s = true := hts _ (List.mem_append_right _ (List.mem_of_getElem? (i := 310) (by decide +kernel)))
  have l2 : gw_ls2.before #[Value.ref b] s = true := hts _ (List.mem_append_right _ (List.mem_of_getElem? (i := 312) (by decide +kernel)))
  have r1 : gw_rs1.before #[Value.ref b] s = true := flat_of_before _ hgv _ (by decide +kernel)
  have r2 : gw_rs2.before #[Value.ref b] s = true := flat_of_before _ hgv _ (by decide +kernel)
  refine ⟨fun w hw ho => va_Nw.of (by rw [Bool.and_eq_true] at ho; exact ho.1) (hts w hw), gw_ls_move hvm hkk l1, gw_ls_move hvm hkk l2, gw_rs_move hvm hkk l1 r1, gw_rs_move hvm hkk l2 r2, fun own tx k hw => ?_⟩
  have h := hts _ hw
  cases hc : s.vm.findClass own with
  | none => simp [Cond.before, Cond.holds, Cond.value, hc] at h
  | some cur =>
    obtain ⟨k', cf, j, a, -, -, -, -, -, hev⟩ := Cond.stringRef_spec hc h
    refine ⟨a, ?_, ?_⟩
    · simp only [Cond.before, Cond.holds, Cond.value] at h ⊢; exact h
    · rw [Term.string_eval_of_vm (args := #[Value.ref b]) (U := s) rfl]; exact hev
set_option maxRecDepth 100000 in
theorem gw_Nc_start {b : Nat} {s : State} (hgv : (Jvm.Cond.and given_1 narrow_1).before #[Value.ref b] s = true) : gw_Nc s := ⟨va_Nc.of (flat_of_before _ hgv _ (by decide +kernel)), va_Nc.of (flat_of_before _ hgv _ (by decide +kernel)), va_Nc.of (flat_of_before _ hgv _ (by decide +kernel)), va_Nc.of (flat_of_before _ hgv _ (by decide +kernel)), va_Nc.of (flat_of_before _ hgv _ (by decide +kernel)), va_Nc.of (flat_of_before _ hgv _ (by decide +kernel))⟩
