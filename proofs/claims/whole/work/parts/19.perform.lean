theorem wd_345 : (Jvm.Cond.methodLink "PerformRanges$Program" (39 : Nat) ({ cls := "PerformRanges$Program", name := "isFullOfStatements", desc := "()Z" } : Jvm.MethodName)) ∈ GW := gw_of (i := 222) (by decide +kernel) (by decide +kernel)
theorem wd_346 : (Jvm.Cond.instanceMethod ({ cls := "PerformRanges$Program", name := "isFullOfStatements", desc := "()Z" } : Jvm.MethodName)) ∈ GW := gw_of (i := 169) (by decide +kernel) (by decide +kernel)
theorem wd_347 : (Jvm.Cond.selects "PerformRanges$Program" ({ cls := "PerformRanges$Program", name := "isFullOfStatements", desc := "()Z" } : Jvm.MethodName) ({ cls := "PerformRanges$Program", name := "isFullOfStatements", desc := "()Z" } : Jvm.MethodName)) ∈ GW := gw_of (i := 170) (by decide +kernel) (by decide +kernel)
theorem wd_348 : (Jvm.Cond.code ({ cls := "PerformRanges$Program", name := "isFullOfStatements", desc := "()Z" } : Jvm.MethodName) prog_5_method_8_code (1 : Nat) (Option.some Jvm.ClassFile.FieldType.boolean)) ∈ GW := gw_of (i := 171) (by decide +kernel) (by decide +kernel)
theorem wd_349 : (Jvm.Cond.methodLink "PerformRanges" (36 : Nat) ({ cls := "PerformRanges$Program", name := "isFullOfStatements", desc := "()Z" } : Jvm.MethodName)) ∈ GW := gw_of (i := 168) (by decide +kernel) (by decide +kernel)
theorem wd_350 : (Jvm.Cond.classLink "PerformRanges" (40 : Nat) "PerformRanges$Statement") ∈ GW := gw_of (i := 172) (by decide +kernel) (by decide +kernel)
theorem wd_351 : (Jvm.Cond.instantiable "PerformRanges$Statement" (12 : Nat)) ∈ GW := gw_of (i := 173) (by decide +kernel) (by decide +kernel)
theorem wd_352 : (Jvm.Cond.methodLink "PerformRanges" (42 : Nat) ({ cls := "PerformRanges$Statement", name := "<init>", desc := "(IIII)V" } : Jvm.MethodName)) ∈ GW := gw_of (i := 174) (by decide +kernel) (by decide +kernel)
theorem wd_353 : (Jvm.Cond.instanceMethod ({ cls := "PerformRanges$Statement", name := "<init>", desc := "(IIII)V" } : Jvm.MethodName)) ∈ GW := gw_of (i := 175) (by decide +kernel) (by decide +kernel)
theorem wd_354 : (Jvm.Cond.code ({ cls := "PerformRanges$Statement", name := "<init>", desc := "(IIII)V" } : Jvm.MethodName) prog_6_method_1_code (5 : Nat) (Option.none : Option Jvm.ClassFile.FieldType)) ∈ GW := gw_of (i := 176) (by decide +kernel) (by decide +kernel)
theorem wd_355 : (Jvm.Cond.methodLink "PerformRanges" (45 : Nat) ({ cls := "PerformRanges$Program", name := "addStatement", desc := "(LPerformRanges$Statement;)I" } : Jvm.MethodName)) ∈ GW := gw_of (i := 218) (by decide +kernel) (by decide +kernel)
theorem wd_356 : (Jvm.Cond.instanceMethod ({ cls := "PerformRanges$Program", name := "addStatement", desc := "(LPerformRanges$Statement;)I" } : Jvm.MethodName)) ∈ GW := gw_of (i := 219) (by decide +kernel) (by decide +kernel)
theorem wd_357 : (Jvm.Cond.selects "PerformRanges$Program" ({ cls := "PerformRanges$Program", name := "addStatement", desc := "(LPerformRanges$Statement;)I" } : Jvm.MethodName) ({ cls := "PerformRanges$Program", name := "addStatement", desc := "(LPerformRanges$Statement;)I" } : Jvm.MethodName)) ∈ GW := gw_of (i := 220) (by decide +kernel) (by decide +kernel)
theorem wd_358 : (Jvm.Cond.code ({ cls := "PerformRanges$Program", name := "addStatement", desc := "(LPerformRanges$Statement;)I" } : Jvm.MethodName) prog_5_method_9_code (2 : Nat) (Option.some Jvm.ClassFile.FieldType.int)) ∈ GW := gw_of (i := 221) (by decide +kernel) (by decide +kernel)
theorem wd_359 : (Jvm.Cond.methodLink "PerformRangesModel" (1 : Nat) ({ cls := "java/lang/Object", name := "<init>", desc := "()V" } : Jvm.MethodName)) ∈ GW := gw_of (i := 512) (by decide +kernel) (by decide +kernel)
theorem wd_360 : (Jvm.Cond.arrayClass Jvm.ClassFile.FieldType.boolean) ∈ GW := gw_of (i := 613) (by decide +kernel) (by decide +kernel)
theorem isFullS_0 {ns : Int32} (h : sp_isFullOfStatements ns = 0) : ns.toInt < 60 := by
  unfold sp_isFullOfStatements at h
  by_cases h1 : ns < 60
  · have a := Int32.lt_iff_toInt_lt.mp h1
    rw [show (60 : Int32).toInt = 60 from rfl] at a
    exact a
  · rw [if_neg h1] at h
    cases h
theorem d_Program_addStatement_0 : decode prog_5_method_9_code 0 = .ok (.aload_n 0, 1) := by decide +kernel
theorem d_Program_addStatement_1 : decode prog_5_method_9_code 1 = .ok (.invokevirtual 39, 3) := by decide +kernel
theorem d_Program_addStatement_4 : decode prog_5_method_9_code 4 = .ok (.ifCond .eq 5, 3) := by decide +kernel
theorem d_Program_addStatement_7 : decode prog_5_method_9_code 7 = .ok (.iconst (-1), 1) := by decide +kernel
theorem d_Program_addStatement_8 : decode prog_5_method_9_code 8 = .ok (.ireturn, 1) := by decide +kernel
theorem d_Program_addStatement_9 : decode prog_5_method_9_code 9 = .ok (.aload_n 0, 1) := by decide +kernel
theorem d_Program_addStatement_10 : decode prog_5_method_9_code 10 = .ok (.getfield 20, 3) := by decide +kernel
theorem d_Program_addStatement_13 : decode prog_5_method_9_code 13 = .ok (.aload_n 0, 1) := by decide +kernel
theorem d_Program_addStatement_14 : decode prog_5_method_9_code 14 = .ok (.getfield 36, 3) := by decide +kernel
theorem d_Program_addStatement_17 : decode prog_5_method_9_code 17 = .ok (.aload_n 1, 1) := by decide +kernel
theorem d_Program_addStatement_18 : decode prog_5_method_9_code 18 = .ok (.aastore, 1) := by decide +kernel
theorem d_Program_addStatement_19 : decode prog_5_method_9_code 19 = .ok (.aload_n 0, 1) := by decide +kernel
theorem d_Program_addStatement_20 : decode prog_5_method_9_code 20 = .ok (.dup, 1) := by decide +kernel
theorem d_Program_addStatement_21 : decode prog_5_method_9_code 21 = .ok (.getfield 36, 3) := by decide +kernel
theorem d_Program_addStatement_24 : decode prog_5_method_9_code 24 = .ok (.iconst 1, 1) := by decide +kernel
theorem d_Program_addStatement_25 : decode prog_5_method_9_code 25 = .ok (.iadd, 1) := by decide +kernel
theorem d_Program_addStatement_26 : decode prog_5_method_9_code 26 = .ok (.putfield 36, 3) := by decide +kernel
theorem d_Program_addStatement_29 : decode prog_5_method_9_code 29 = .ok (.aload_n 0, 1) := by decide +kernel
theorem d_Program_addStatement_30 : decode prog_5_method_9_code 30 = .ok (.getfield 36, 3) := by decide +kernel
theorem d_Program_addStatement_33 : decode prog_5_method_9_code 33 = .ok (.ireturn, 1) := by decide +kernel

set_option maxHeartbeats 4000000 in
set_option maxRecDepth 100000 in
theorem c_addStatement {l : Launch} {H0 : Heap} {D : va_G} {cI cL cQ cB : ClassId} {M : mp} {pg dg gg tg0 sq : Nat} {sa : Nat → Nat} {np : Int32} {ns : Int32} {vs : List Value} (hns0 : 0 ≤ ns.toInt) (hfl : (sp_isFullOfStatements ns) = 0) (gh0 : M pg = some (.inr (3, [.ref dg, .ref gg, .ref tg0, .int np, .int ns]))) (gh1 : M tg0 = some (.inl (cQ, 60, .inr (.inr (.inr (.inr (tdOf ns sa))))))) (gh2 : M sq = some (.inr (4, vs))) : MC l H0 D cls7 (tysOf cI cL cQ cB) NW ({ cls := "PerformRanges$Program", name := "addStatement", desc := "(LPerformRanges$Statement;)I" } : Jvm.MethodName) (Cond.code ({ cls := "PerformRanges$Program", name := "addStatement", desc := "(LPerformRanges$Statement;)I" } : Jvm.MethodName) prog_5_method_9_code 2 (Option.some Jvm.ClassFile.FieldType.int) :: GW) ({ frames := 1, cells := 0, slots := 0, locals := 20 }) [.ref pg, .ref sq] M (fun v M' => v = some (.int (ns + 1)) ∧ M' tg0 = some (.inl (cQ, 60, .inr (.inr (.inr (.inr (va_up (tdOf ns sa) ns.toNatClampNeg (some sq))))))) ∧ M' pg = some (.inr (3, [.ref dg, .ref gg, .ref tg0, .int np, .int (ns + 1)])) ∧ (∀ q, q ≠ tg0 → q ≠ pg → M' q = M q)) := by
  refine MC.of (cc := prog_5_method_9_code) (nL := 2) (ret := (Option.some Jvm.ClassFile.FieldType.int)) (lv := [(0, .ref pg), (1, .ref sq)]) (by decide) rfl (Nat.le_of_ble_eq_true rfl) rfl ?_
  intro p e s m below meth c X hr hlk hnm hK
  have i_1 := isFullS_0 hfl
  refine V.rd (pc' := 1) (fun hl => lv_aload_n X.1 X.2.1 d_Program_addStatement_0 rfl (lv_at hl 0 rfl)) ?_
  refine V.callV0 (pc' := 4) X hK (c_isFullOfStatements  (pg := pg) (dg := dg) (gg := gg) (tg0 := tg0) (np := np) (ns := ns)   gh0  ) gh0 rfl (cwG (n := 0) X (mcs wd_345) (mcs wd_346) (mcs wd_347) (mcs wd_7) wd_348 (by decide +kernel) (by decide) (by decide)) rfl rfl (Nat.le_of_ble_eq_true rfl) d_Program_addStatement_1 ⟨by decide, by decide⟩ rfl (st1 := [.int (sp_isFullOfStatements ns)]) rfl ?_
  refine V.brT (pc' := 7) (tgt := 9) (lv_if_eq X.1 X.2.1 d_Program_addStatement_4 (by decide)) hfl ?_
  refine V.rd (pc' := 10) (fun hl => lv_aload_n X.1 X.2.1 d_Program_addStatement_9 rfl (lv_at hl 0 rfl)) ?_
  refine V.get (pc' := 13) X hK gh0 uw_Program rfl 2 (by decide) (mcs wd_69) rfl d_Program_addStatement_10 rfl ?_
  refine V.rd (pc' := 14) (fun hl => lv_aload_n X.1 X.2.1 d_Program_addStatement_13 rfl (lv_at hl 0 rfl)) ?_
  refine V.get (pc' := 17) X hK gh0 uw_Program rfl 4 (by decide) (mcs wd_2) rfl d_Program_addStatement_14 rfl ?_
  refine V.rd (pc' := 18) (fun hl => lv_aload_n X.1 X.2.1 d_Program_addStatement_17 rfl (lv_at hl 1 rfl)) ?_
  refine V.aast (pc' := 19) X hK 2 4 gh1 rfl gh2 rfl (vin (by omega) (by omega)) d_Program_addStatement_18 rfl (fun M_3 h_4 fr_5 => ?_)
  have h_6 : M_3 pg = some (.inr (3, [.ref dg, .ref gg, .ref tg0, .int np, .int ns])) := (fr_5 _ (ne_k gh0 gh1 (i := 3) (j := 10000060) rfl rfl (by decide))).trans gh0
  have h_7 : M_3 sq = some (.inr (4, vs)) := (fr_5 _ (ne_k gh2 gh1 (i := 4) (j := 10000060) rfl rfl (by decide))).trans gh2
  refine V.rd (pc' := 20) (fun hl => lv_aload_n X.1 X.2.1 d_Program_addStatement_19 rfl (lv_at hl 0 rfl)) ?_
  refine V.go (pc' := 21) (lv_dup X.1 X.2.1 d_Program_addStatement_20 rfl) ?_
  refine V.get (pc' := 24) X hK h_6 uw_Program rfl 4 (by decide) (mcs wd_2) rfl d_Program_addStatement_21 rfl ?_
  refine V.go (pc' := 25) (lv_iconst (v := 1) X.1 X.2.1 d_Program_addStatement_24 (by decide)) ?_
  refine V.go (pc' := 26) (lv_iadd X.1 X.2.1 d_Program_addStatement_25) ?_
  have s_8 : (ns + 1).toInt = ns.toInt + 1 := i32_add1 (by omega)
  refine V.put (pc' := 29) X hK h_6 uw_Program t_Program tok_Program nm_Program rfl 4 (by decide) (mcs wd_2) rfl rfl rfl (Nat.le_of_ble_eq_true rfl) (fs' := [.ref dg, .ref gg, .ref tg0, .int np, .int (ns + 1)]) rfl d_Program_addStatement_26 rfl (fun M_9 h_10 fr_11 => ?_)
  have h_12 : M_9 sq = some (.inr (4, vs)) := (fr_11 _ (ne_k h_7 h_6 (i := 4) (j := 3) rfl rfl (by decide))).trans h_7
  have h_13 : M_9 tg0 = some (.inl (cQ, 60, .inr (.inr (.inr (.inr (va_up (tdOf ns sa) ns.toNatClampNeg (some sq))))))) := (fr_11 _ (ne_k h_4 h_6 (i := 10000060) (j := 3) rfl rfl (by decide))).trans h_4
  refine V.rd (pc' := 30) (fun hl => lv_aload_n X.1 X.2.1 d_Program_addStatement_29 rfl (lv_at hl 0 rfl)) ?_
  refine V.get (pc' := 33) X hK h_10 uw_Program rfl 4 (by decide) (mcs wd_2) rfl d_Program_addStatement_30 rfl ?_
  exact V.iret X hr hlk ⟨rfl, h_13, h_10, (fun q n0_ n1_ => (fr_11 q n1_).trans ((fr_5 q n0_)))⟩ d_Program_addStatement_33

theorem d_PR_perform_0 : decode prog_1_method_3_code 0 = .ok (.aload_n 0, 1) := by decide +kernel
theorem d_PR_perform_1 : decode prog_1_method_3_code 1 = .ok (.getfield 10, 3) := by decide +kernel
theorem d_PR_perform_4 : decode prog_1_method_3_code 4 = .ok (.iload_n 1, 1) := by decide +kernel
theorem d_PR_perform_5 : decode prog_1_method_3_code 5 = .ok (.invokevirtual 32, 3) := by decide +kernel
theorem d_PR_perform_8 : decode prog_1_method_3_code 8 = .ok (.ifCond .eq 14, 3) := by decide +kernel
theorem d_PR_perform_11 : decode prog_1_method_3_code 11 = .ok (.aload_n 0, 1) := by decide +kernel
theorem d_PR_perform_12 : decode prog_1_method_3_code 12 = .ok (.getfield 10, 3) := by decide +kernel
theorem d_PR_perform_15 : decode prog_1_method_3_code 15 = .ok (.iload_n 2, 1) := by decide +kernel
theorem d_PR_perform_16 : decode prog_1_method_3_code 16 = .ok (.invokevirtual 32, 3) := by decide +kernel
theorem d_PR_perform_19 : decode prog_1_method_3_code 19 = .ok (.ifCond .ne 5, 3) := by decide +kernel
theorem d_PR_perform_22 : decode prog_1_method_3_code 22 = .ok (.iconst (-1), 1) := by decide +kernel
theorem d_PR_perform_23 : decode prog_1_method_3_code 23 = .ok (.ireturn, 1) := by decide +kernel
theorem d_PR_perform_24 : decode prog_1_method_3_code 24 = .ok (.iload_n 3, 1) := by decide +kernel
theorem d_PR_perform_25 : decode prog_1_method_3_code 25 = .ok (.ifCond .lt 18, 3) := by decide +kernel
theorem d_PR_perform_28 : decode prog_1_method_3_code 28 = .ok (.iload_n 3, 1) := by decide +kernel
theorem d_PR_perform_29 : decode prog_1_method_3_code 29 = .ok (.iconst 3, 1) := by decide +kernel
theorem d_PR_perform_30 : decode prog_1_method_3_code 30 = .ok (.if_icmp .gt 13, 3) := by decide +kernel
theorem d_PR_perform_33 : decode prog_1_method_3_code 33 = .ok (.aload_n 0, 1) := by decide +kernel
theorem d_PR_perform_34 : decode prog_1_method_3_code 34 = .ok (.getfield 10, 3) := by decide +kernel
theorem d_PR_perform_37 : decode prog_1_method_3_code 37 = .ok (.invokevirtual 36, 3) := by decide +kernel
theorem d_PR_perform_40 : decode prog_1_method_3_code 40 = .ok (.ifCond .eq 5, 3) := by decide +kernel
theorem d_PR_perform_43 : decode prog_1_method_3_code 43 = .ok (.iconst (-1), 1) := by decide +kernel
theorem d_PR_perform_44 : decode prog_1_method_3_code 44 = .ok (.ireturn, 1) := by decide +kernel
theorem d_PR_perform_45 : decode prog_1_method_3_code 45 = .ok (.aload_n 0, 1) := by decide +kernel
theorem d_PR_perform_46 : decode prog_1_method_3_code 46 = .ok (.getfield 10, 3) := by decide +kernel
theorem d_PR_perform_49 : decode prog_1_method_3_code 49 = .ok (.new 40, 3) := by decide +kernel
theorem d_PR_perform_52 : decode prog_1_method_3_code 52 = .ok (.dup, 1) := by decide +kernel
theorem d_PR_perform_53 : decode prog_1_method_3_code 53 = .ok (.iload_n 1, 1) := by decide +kernel
theorem d_PR_perform_54 : decode prog_1_method_3_code 54 = .ok (.iload_n 2, 1) := by decide +kernel
theorem d_PR_perform_55 : decode prog_1_method_3_code 55 = .ok (.iload_n 3, 1) := by decide +kernel
theorem d_PR_perform_56 : decode prog_1_method_3_code 56 = .ok (.iload 4, 2) := by decide +kernel
theorem d_PR_perform_58 : decode prog_1_method_3_code 58 = .ok (.invokespecial 42, 3) := by decide +kernel
theorem d_PR_perform_61 : decode prog_1_method_3_code 61 = .ok (.invokevirtual 45, 3) := by decide +kernel
theorem d_PR_perform_64 : decode prog_1_method_3_code 64 = .ok (.ireturn, 1) := by decide +kernel

set_option maxHeartbeats 4000000 in
set_option maxRecDepth 100000 in
theorem c_PR_perform {l : Launch} {H0 : Heap} {D : va_G} {cI cL cQ cB : ClassId} {M : mp} {px pg lt tr dg gg tg0 : Nat} {sa : Nat → Nat} {np : Int32} {ns : Int32} {x : Int32} {y : Int32} {kd : Int32} {tm : Int32} (hns0 : 0 ≤ ns.toInt) (hx1 : ¬ (sp_isParagraph np x) = 0) (hx2 : ¬ (sp_isParagraph np y) = 0) (hx3 : ¬ kd < 0) (hx4 : ¬ 3 < kd) (hx5 : (sp_isFullOfStatements ns) = 0) (gh0 : M px = some (.inr (5, [.ref pg, .ref lt, .ref tr]))) (gh1 : M pg = some (.inr (3, [.ref dg, .ref gg, .ref tg0, .int np, .int ns]))) (gh2 : M tg0 = some (.inl (cQ, 60, .inr (.inr (.inr (.inr (tdOf ns sa))))))) : MC l H0 D cls7 (tysOf cI cL cQ cB) NW ({ cls := "PerformRanges", name := "perform", desc := "(IIII)I" } : Jvm.MethodName) (Cond.code ({ cls := "PerformRanges", name := "perform", desc := "(IIII)I" } : Jvm.MethodName) prog_1_method_3_code 5 (Option.some Jvm.ClassFile.FieldType.int) :: GW) ({ frames := 2, cells := 6, slots := 47, locals := 45 }) [.ref px, .int x, .int y, .int kd, .int tm] M (fun v M' => v = some (.int (ns + 1)) ∧ ∃ nq0 nq1 nq2 nq3 nq4 nq5 : Nat, M nq0 = none ∧ M nq1 = none ∧ M nq2 = none ∧ M nq3 = none ∧ M nq4 = none ∧ M nq5 = none ∧ nq0 ≠ nq1 ∧ nq0 ≠ nq2 ∧ nq0 ≠ nq3 ∧ nq0 ≠ nq4 ∧ nq0 ≠ nq5 ∧ nq1 ≠ nq2 ∧ nq1 ≠ nq3 ∧ nq1 ≠ nq4 ∧ nq1 ≠ nq5 ∧ nq2 ≠ nq3 ∧ nq2 ≠ nq4 ∧ nq2 ≠ nq5 ∧ nq3 ≠ nq4 ∧ nq3 ≠ nq5 ∧ nq4 ≠ nq5 ∧ M' tg0 = some (.inl (cQ, 60, .inr (.inr (.inr (.inr (va_up (tdOf ns sa) ns.toNatClampNeg (some nq0))))))) ∧ M' pg = some (.inr (3, [.ref dg, .ref gg, .ref tg0, .int np, .int (ns + 1)])) ∧ M' nq0 = some (.inr (4, [.int x, .int y, .int kd, .int tm, .int 0, .int 0, .int 0, .ref nq1, .ref nq2, .ref nq3, .ref nq4, .ref nq5])) ∧ M' nq1 = some (.inl (cI, 7, .inl (fun _ => 0))) ∧ M' nq2 = some (.inl (cL, 7, .inr (.inl (fun _ => 0)))) ∧ M' nq3 = some (.inl (cI, 7, .inl (fun _ => 0))) ∧ M' nq4 = some (.inl (cL, 7, .inr (.inl (fun _ => 0)))) ∧ M' nq5 = some (.inl (cL, 7, .inr (.inl (fun _ => 0)))) ∧ (∀ q, q ≠ tg0 → q ≠ pg → q ≠ nq0 → q ≠ nq1 → q ≠ nq2 → q ≠ nq3 → q ≠ nq4 → q ≠ nq5 → M' q = M q)) := by
  refine MC.of (cc := prog_1_method_3_code) (nL := 5) (ret := (Option.some Jvm.ClassFile.FieldType.int)) (lv := [(0, .ref px), (1, .int x), (2, .int y), (3, .int kd), (4, .int tm)]) (by decide) rfl (Nat.le_of_ble_eq_true rfl) rfl ?_
  intro p e s m below meth c X hr hlk hnm hK
  refine V.rd (pc' := 1) (fun hl => lv_aload_n X.1 X.2.1 d_PR_perform_0 rfl (lv_at hl 0 rfl)) ?_
  refine V.get (pc' := 4) X hK gh0 uw_PR rfl 0 (by decide) (mcs wd_265) rfl d_PR_perform_1 rfl ?_
  refine V.rd (pc' := 5) (fun hl => lv_iload_n X.1 X.2.1 d_PR_perform_4 rfl (lv_at hl 1 rfl)) ?_
  refine V.callV0 (pc' := 8) X hK (c_isParagraph  (pg := pg) (dg := dg) (gg := gg) (tg0 := tg0) (np := np) (ns := ns) (x := x)   gh1  ) gh1 rfl (cwG (n := 1) X (mcs wd_279) (mcs wd_5) (mcs wd_6) (mcs wd_7) wd_8 (by decide +kernel) (by decide) (by decide)) rfl rfl (Nat.le_of_ble_eq_true rfl) d_PR_perform_5 ⟨by decide, by decide⟩ rfl (st1 := [.int (sp_isParagraph np x)]) rfl ?_
  refine V.brF (pc' := 11) (tgt := 22) (lv_if_eq X.1 X.2.1 d_PR_perform_8 (by decide)) hx1 ?_
  refine V.rd (pc' := 12) (fun hl => lv_aload_n X.1 X.2.1 d_PR_perform_11 rfl (lv_at hl 0 rfl)) ?_
  refine V.get (pc' := 15) X hK gh0 uw_PR rfl 0 (by decide) (mcs wd_265) rfl d_PR_perform_12 rfl ?_
  refine V.rd (pc' := 16) (fun hl => lv_iload_n X.1 X.2.1 d_PR_perform_15 rfl (lv_at hl 2 rfl)) ?_
  refine V.callV0 (pc' := 19) X hK (c_isParagraph  (pg := pg) (dg := dg) (gg := gg) (tg0 := tg0) (np := np) (ns := ns) (x := y)   gh1  ) gh1 rfl (cwG (n := 1) X (mcs wd_279) (mcs wd_5) (mcs wd_6) (mcs wd_7) wd_8 (by decide +kernel) (by decide) (by decide)) rfl rfl (Nat.le_of_ble_eq_true rfl) d_PR_perform_16 ⟨by decide, by decide⟩ rfl (st1 := [.int (sp_isParagraph np y)]) rfl ?_
  refine V.bnF (pc' := 22) (tgt := 24) (lv_if_ne X.1 X.2.1 d_PR_perform_19 (by decide)) hx2 ?_
  refine V.rd (pc' := 25) (fun hl => lv_iload_n X.1 X.2.1 d_PR_perform_24 rfl (lv_at hl 3 rfl)) ?_
  refine V.brF (pc' := 28) (tgt := 43) (lv_if_lt X.1 X.2.1 d_PR_perform_25 (by decide)) hx3 ?_
  refine V.rd (pc' := 29) (fun hl => lv_iload_n X.1 X.2.1 d_PR_perform_28 rfl (lv_at hl 3 rfl)) ?_
  refine V.go (pc' := 30) (lv_iconst (v := 3) X.1 X.2.1 d_PR_perform_29 (by decide)) ?_
  refine V.brF (pc' := 33) (tgt := 43) (lv_icmp_gt X.1 X.2.1 d_PR_perform_30 (by decide)) hx4 ?_
  refine V.rd (pc' := 34) (fun hl => lv_aload_n X.1 X.2.1 d_PR_perform_33 rfl (lv_at hl 0 rfl)) ?_
  refine V.get (pc' := 37) X hK gh0 uw_PR rfl 0 (by decide) (mcs wd_265) rfl d_PR_perform_34 rfl ?_
  refine V.callV0 (pc' := 40) X hK (c_isFullOfStatements  (pg := pg) (dg := dg) (gg := gg) (tg0 := tg0) (np := np) (ns := ns)   gh1  ) gh1 rfl (cwG (n := 0) X (mcs wd_349) (mcs wd_346) (mcs wd_347) (mcs wd_7) wd_348 (by decide +kernel) (by decide) (by decide)) rfl rfl (Nat.le_of_ble_eq_true rfl) d_PR_perform_37 ⟨by decide, by decide⟩ rfl (st1 := [.int (sp_isFullOfStatements ns)]) rfl ?_
  refine V.brT (pc' := 43) (tgt := 45) (lv_if_eq X.1 X.2.1 d_PR_perform_40 (by decide)) hx5 ?_
  refine V.rd (pc' := 46) (fun hl => lv_aload_n X.1 X.2.1 d_PR_perform_45 rfl (lv_at hl 0 rfl)) ?_
  refine V.get (pc' := 49) X hK gh0 uw_PR rfl 0 (by decide) (mcs wd_265) rfl d_PR_perform_46 rfl ?_
  refine V.new (pc' := 52) (ci := 4) X hK (fs := [.int 0, .int 0, .int 0, .int 0, .int 0, .int 0, .int 0, .null, .null, .null, .null, .null]) uw_Statement t_Statement tok_Statement (mcs wd_350) (mcs wd_351) (mcs wd_46) rfl (fun j hj => match j, hj with | 0, _ => rfl | 1, _ => rfl | 2, _ => rfl | 3, _ => rfl | 4, _ => rfl | 5, _ => rfl | 6, _ => rfl | 7, _ => rfl | 8, _ => rfl | 9, _ => rfl | 10, _ => rfl | 11, _ => rfl | k + 12, h => absurd h (by omega)) (by decide) (by decide) d_PR_perform_49 rfl (fun q_4 M_5 z_6 h_7 fr_8 => ?_)
  have n_9 : px ≠ q_4 := ne_z gh0 z_6
  have n_10 : pg ≠ q_4 := ne_z gh1 z_6
  have n_11 : tg0 ≠ q_4 := ne_z gh2 z_6
  have zb_12 : M q_4 = none := z_6
  have h_13 : M_5 px = some (.inr (5, [.ref pg, .ref lt, .ref tr])) := (fr_8 _ n_9).trans gh0
  have h_14 : M_5 pg = some (.inr (3, [.ref dg, .ref gg, .ref tg0, .int np, .int ns])) := (fr_8 _ n_10).trans gh1
  have h_15 : M_5 tg0 = some (.inl (cQ, 60, .inr (.inr (.inr (.inr (tdOf ns sa)))))) := (fr_8 _ n_11).trans gh2
  refine V.go (pc' := 53) (lv_dup X.1 X.2.1 d_PR_perform_52 rfl) ?_
  refine V.rd (pc' := 54) (fun hl => lv_iload_n X.1 X.2.1 d_PR_perform_53 rfl (lv_at hl 1 rfl)) ?_
  refine V.rd (pc' := 55) (fun hl => lv_iload_n X.1 X.2.1 d_PR_perform_54 rfl (lv_at hl 2 rfl)) ?_
  refine V.rd (pc' := 56) (fun hl => lv_iload_n X.1 X.2.1 d_PR_perform_55 rfl (lv_at hl 3 rfl)) ?_
  refine V.rd (pc' := 58) (fun hl => lv_iload X.1 X.2.1 d_PR_perform_56 (lv_at hl 4 rfl)) ?_
  refine V.callI (pc' := 61) X hK (c_Statement_init  (sm := q_4) (x := x) (y := y) (kd := kd) (tm := tm)   h_7  ) (ciG (n := 4) X (mcs wd_352) (mcs wd_353) (mcs wd_46) wd_354 rfl (by decide +kernel) (by decide) (by decide)) rfl rfl (Nat.le_of_ble_eq_true rfl) d_PR_perform_58 ⟨by decide, by decide⟩ rfl (st1 := [.ref q_4, .ref pg]) rfl (fun M_16 ⟨q_19, q_20, q_21, q_22, q_23, z_24, z_25, z_26, z_27, z_28, n_29, n_30, n_31, n_32, n_33, n_34, n_35, n_36, n_37, n_38, h_17, h_39, h_40, h_41, h_42, h_43, fr_18⟩ => ?_)
  have n_44 : px ≠ q_19 := ne_z h_13 z_24
  have n_45 : pg ≠ q_19 := ne_z h_14 z_24
  have n_46 : tg0 ≠ q_19 := ne_z h_15 z_24
  have n_47 : q_4 ≠ q_19 := ne_z h_7 z_24
  have n_48 : px ≠ q_20 := ne_z h_13 z_25
  have n_49 : pg ≠ q_20 := ne_z h_14 z_25
  have n_50 : tg0 ≠ q_20 := ne_z h_15 z_25
  have n_51 : q_4 ≠ q_20 := ne_z h_7 z_25
  have n_52 : px ≠ q_21 := ne_z h_13 z_26
  have n_53 : pg ≠ q_21 := ne_z h_14 z_26
  have n_54 : tg0 ≠ q_21 := ne_z h_15 z_26
  have n_55 : q_4 ≠ q_21 := ne_z h_7 z_26
  have n_56 : px ≠ q_22 := ne_z h_13 z_27
  have n_57 : pg ≠ q_22 := ne_z h_14 z_27
  have n_58 : tg0 ≠ q_22 := ne_z h_15 z_27
  have n_59 : q_4 ≠ q_22 := ne_z h_7 z_27
  have n_60 : px ≠ q_23 := ne_z h_13 z_28
  have n_61 : pg ≠ q_23 := ne_z h_14 z_28
  have n_62 : tg0 ≠ q_23 := ne_z h_15 z_28
  have n_63 : q_4 ≠ q_23 := ne_z h_7 z_28
  have zb_64 : M q_19 = none := ((fr_8 q_19 (Ne.symm n_47))).symm.trans z_24
  have zb_65 : M q_20 = none := ((fr_8 q_20 (Ne.symm n_51))).symm.trans z_25
  have zb_66 : M q_21 = none := ((fr_8 q_21 (Ne.symm n_55))).symm.trans z_26
  have zb_67 : M q_22 = none := ((fr_8 q_22 (Ne.symm n_59))).symm.trans z_27
  have zb_68 : M q_23 = none := ((fr_8 q_23 (Ne.symm n_63))).symm.trans z_28
  have h_69 : M_16 px = some (.inr (5, [.ref pg, .ref lt, .ref tr])) := (fr_18 _ n_9 n_44 n_48 n_52 n_56 n_60).trans h_13
  have h_70 : M_16 pg = some (.inr (3, [.ref dg, .ref gg, .ref tg0, .int np, .int ns])) := (fr_18 _ n_10 n_45 n_49 n_53 n_57 n_61).trans h_14
  have h_71 : M_16 tg0 = some (.inl (cQ, 60, .inr (.inr (.inr (.inr (tdOf ns sa)))))) := (fr_18 _ n_11 n_46 n_50 n_54 n_58 n_62).trans h_15
  refine V.callV (pc' := 64) X hK (c_addStatement  (pg := pg) (dg := dg) (gg := gg) (tg0 := tg0) (sq := q_4) (np := np) (ns := ns) (vs := [.int x, .int y, .int kd, .int tm, .int 0, .int 0, .int 0, .ref q_19, .ref q_20, .ref q_21, .ref q_22, .ref q_23]) (by first | omega | with_reducible assumption | (have z0_ : (0 : Int32).toInt = 0 := rfl; have z1_ : (1 : Int32).toInt = 1 := rfl; omega)) (by first | omega | with_reducible assumption | (have z0_ : (0 : Int32).toInt = 0 := rfl; have z1_ : (1 : Int32).toInt = 1 := rfl; omega))  h_70 h_71 h_17  ) h_70 rfl (cwG (n := 1) X (mcs wd_355) (mcs wd_356) (mcs wd_357) (mcs wd_7) wd_358 (by decide +kernel) (by decide) (by decide)) rfl rfl (Nat.le_of_ble_eq_true rfl) d_PR_perform_61 ⟨by decide, by decide⟩ rfl (st1 := [.int (ns + 1)]) rfl (fun M_72 ⟨h_73, h_74, fr_75⟩ => ?_)
  have h_76 : M_72 px = some (.inr (5, [.ref pg, .ref lt, .ref tr])) := (fr_75 _ (ne_k h_69 h_71 (i := 5) (j := 10000060) rfl rfl (by decide)) (ne_k h_69 h_70 (i := 5) (j := 3) rfl rfl (by decide))).trans h_69
  have h_77 : M_72 q_4 = some (.inr (4, [.int x, .int y, .int kd, .int tm, .int 0, .int 0, .int 0, .ref q_19, .ref q_20, .ref q_21, .ref q_22, .ref q_23])) := (fr_75 _ (Ne.symm n_11) (Ne.symm n_10)).trans h_17
  have h_78 : M_72 q_19 = some (.inl (cI, 7, .inl (fun _ => 0))) := (fr_75 _ (Ne.symm n_46) (Ne.symm n_45)).trans h_39
  have h_79 : M_72 q_20 = some (.inl (cL, 7, .inr (.inl (fun _ => 0)))) := (fr_75 _ (Ne.symm n_50) (Ne.symm n_49)).trans h_40
  have h_80 : M_72 q_21 = some (.inl (cI, 7, .inl (fun _ => 0))) := (fr_75 _ (Ne.symm n_54) (Ne.symm n_53)).trans h_41
  have h_81 : M_72 q_22 = some (.inl (cL, 7, .inr (.inl (fun _ => 0)))) := (fr_75 _ (Ne.symm n_58) (Ne.symm n_57)).trans h_42
  have h_82 : M_72 q_23 = some (.inl (cL, 7, .inr (.inl (fun _ => 0)))) := (fr_75 _ (Ne.symm n_62) (Ne.symm n_61)).trans h_43
  exact V.iret X hr hlk ⟨rfl, q_4, q_19, q_20, q_21, q_22, q_23, zb_12, zb_64, zb_65, zb_66, zb_67, zb_68, n_47, n_51, n_55, n_59, n_63, n_29, n_30, n_31, n_32, n_33, n_34, n_35, n_36, n_37, n_38, h_73, h_74, h_77, h_78, h_79, h_80, h_81, h_82, (fun q n0_ n1_ n2_ n3_ n4_ n5_ n6_ n7_ => (fr_75 q n0_ n1_).trans ((fr_18 q n2_ n3_ n4_ n5_ n6_ n7_).trans ((fr_8 q n2_))))⟩ d_PR_perform_64

set_option maxHeartbeats 4000000 in
set_option maxRecDepth 100000 in
theorem c_PR_performN {l : Launch} {H0 : Heap} {D : va_G} {cI cL cQ cB : ClassId} {M : mp} {px pg lt tr dg gg tg0 : Nat} {sa : Nat → Nat} {np : Int32} {ns : Int32} {x : Int32} {y : Int32} {kd : Int32} {tm : Int32} (hN : (sp_isParagraph np x) = 0 ∨ (sp_isParagraph np y) = 0 ∨ kd < 0 ∨ 3 < kd ∨ ¬ (sp_isFullOfStatements ns) = 0) (gh0 : M px = some (.inr (5, [.ref pg, .ref lt, .ref tr]))) (gh1 : M pg = some (.inr (3, [.ref dg, .ref gg, .ref tg0, .int np, .int ns]))) (gh2 : M tg0 = some (.inl (cQ, 60, .inr (.inr (.inr (.inr (tdOf ns sa))))))) : MC l H0 D cls7 (tysOf cI cL cQ cB) NW ({ cls := "PerformRanges", name := "perform", desc := "(IIII)I" } : Jvm.MethodName) (Cond.code ({ cls := "PerformRanges", name := "perform", desc := "(IIII)I" } : Jvm.MethodName) prog_1_method_3_code 5 (Option.some Jvm.ClassFile.FieldType.int) :: GW) ({ frames := 2, cells := 0, slots := 0, locals := 45 }) [.ref px, .int x, .int y, .int kd, .int tm] M (fun v M' => v = some (.int (-1)) ∧ M' = M) := by
  refine MC.of (cc := prog_1_method_3_code) (nL := 5) (ret := (Option.some Jvm.ClassFile.FieldType.int)) (lv := [(0, .ref px), (1, .int x), (2, .int y), (3, .int kd), (4, .int tm)]) (by decide) rfl (Nat.le_of_ble_eq_true rfl) rfl ?_
  intro p e s m below meth c X hr hlk hnm hK
  refine V.rd (pc' := 1) (fun hl => lv_aload_n X.1 X.2.1 d_PR_perform_0 rfl (lv_at hl 0 rfl)) ?_
  refine V.get (pc' := 4) X hK gh0 uw_PR rfl 0 (by decide) (mcs wd_265) rfl d_PR_perform_1 rfl ?_
  refine V.rd (pc' := 5) (fun hl => lv_iload_n X.1 X.2.1 d_PR_perform_4 rfl (lv_at hl 1 rfl)) ?_
  refine V.callV0 (pc' := 8) X hK (c_isParagraph  (pg := pg) (dg := dg) (gg := gg) (tg0 := tg0) (np := np) (ns := ns) (x := x)   gh1  ) gh1 rfl (cwG (n := 1) X (mcs wd_279) (mcs wd_5) (mcs wd_6) (mcs wd_7) wd_8 (by decide +kernel) (by decide) (by decide)) rfl rfl (Nat.le_of_ble_eq_true rfl) d_PR_perform_5 ⟨by decide, by decide⟩ rfl (st1 := [.int (sp_isParagraph np x)]) rfl ?_
  refine V.br (pc' := 11) (tgt := 22) (P := (sp_isParagraph np x) = 0) (lv_if_eq X.1 X.2.1 d_PR_perform_8 (by decide)) (fun c_2 => ?_) (fun c_2 => ?_)
  · have i_3 := congrArg Int32.toInt c_2
    rw [show (0 : Int32).toInt = 0 from rfl] at i_3
    refine V.go (pc' := 23) (lv_iconst (v := (-1)) X.1 X.2.1 d_PR_perform_22 (by decide)) ?_
    exact V.iret X hr hlk ⟨rfl, rfl⟩ d_PR_perform_23
  · have i_4 := isPar_ne c_2
    refine V.rd (pc' := 12) (fun hl => lv_aload_n X.1 X.2.1 d_PR_perform_11 rfl (lv_at hl 0 rfl)) ?_
    refine V.get (pc' := 15) X hK gh0 uw_PR rfl 0 (by decide) (mcs wd_265) rfl d_PR_perform_12 rfl ?_
    refine V.rd (pc' := 16) (fun hl => lv_iload_n X.1 X.2.1 d_PR_perform_15 rfl (lv_at hl 2 rfl)) ?_
    refine V.callV0 (pc' := 19) X hK (c_isParagraph  (pg := pg) (dg := dg) (gg := gg) (tg0 := tg0) (np := np) (ns := ns) (x := y)   gh1  ) gh1 rfl (cwG (n := 1) X (mcs wd_279) (mcs wd_5) (mcs wd_6) (mcs wd_7) wd_8 (by decide +kernel) (by decide) (by decide)) rfl rfl (Nat.le_of_ble_eq_true rfl) d_PR_perform_16 ⟨by decide, by decide⟩ rfl (st1 := [.int (sp_isParagraph np y)]) rfl ?_
    refine V.bn (pc' := 22) (tgt := 24) (P := (sp_isParagraph np y) = 0) (lv_if_ne X.1 X.2.1 d_PR_perform_19 (by decide)) (fun c_6 => ?_) (fun c_6 => ?_)
    · have i_7 := congrArg Int32.toInt c_6
      rw [show (0 : Int32).toInt = 0 from rfl] at i_7
      refine V.go (pc' := 23) (lv_iconst (v := (-1)) X.1 X.2.1 d_PR_perform_22 (by decide)) ?_
      exact V.iret X hr hlk ⟨rfl, rfl⟩ d_PR_perform_23
    · have i_8 := isPar_ne c_6
      refine V.rd (pc' := 25) (fun hl => lv_iload_n X.1 X.2.1 d_PR_perform_24 rfl (lv_at hl 3 rfl)) ?_
      refine V.br (pc' := 28) (tgt := 43) (P := kd < 0) (lv_if_lt X.1 X.2.1 d_PR_perform_25 (by decide)) (fun c_9 => ?_) (fun c_9 => ?_)
      · have i_10 := Int32.lt_iff_toInt_lt.mp c_9
        rw [show (0 : Int32).toInt = 0 from rfl] at i_10
        refine V.go (pc' := 44) (lv_iconst (v := (-1)) X.1 X.2.1 d_PR_perform_43 (by decide)) ?_
        exact V.iret X hr hlk ⟨rfl, rfl⟩ d_PR_perform_44
      · have i_11 := mt Int32.lt_iff_toInt_lt.mpr c_9
        rw [show (0 : Int32).toInt = 0 from rfl] at i_11
        refine V.rd (pc' := 29) (fun hl => lv_iload_n X.1 X.2.1 d_PR_perform_28 rfl (lv_at hl 3 rfl)) ?_
        refine V.go (pc' := 30) (lv_iconst (v := 3) X.1 X.2.1 d_PR_perform_29 (by decide)) ?_
        refine V.br (pc' := 33) (tgt := 43) (P := 3 < kd) (lv_icmp_gt X.1 X.2.1 d_PR_perform_30 (by decide)) (fun c_12 => ?_) (fun c_12 => ?_)
        · have i_13 := Int32.lt_iff_toInt_lt.mp c_12
          rw [show (3 : Int32).toInt = 3 from rfl] at i_13
          refine V.go (pc' := 44) (lv_iconst (v := (-1)) X.1 X.2.1 d_PR_perform_43 (by decide)) ?_
          exact V.iret X hr hlk ⟨rfl, rfl⟩ d_PR_perform_44
        · have i_14 := mt Int32.lt_iff_toInt_lt.mpr c_12
          rw [show (3 : Int32).toInt = 3 from rfl] at i_14
          refine V.rd (pc' := 34) (fun hl => lv_aload_n X.1 X.2.1 d_PR_perform_33 rfl (lv_at hl 0 rfl)) ?_
          refine V.get (pc' := 37) X hK gh0 uw_PR rfl 0 (by decide) (mcs wd_265) rfl d_PR_perform_34 rfl ?_
          refine V.callV0 (pc' := 40) X hK (c_isFullOfStatements  (pg := pg) (dg := dg) (gg := gg) (tg0 := tg0) (np := np) (ns := ns)   gh1  ) gh1 rfl (cwG (n := 0) X (mcs wd_349) (mcs wd_346) (mcs wd_347) (mcs wd_7) wd_348 (by decide +kernel) (by decide) (by decide)) rfl rfl (Nat.le_of_ble_eq_true rfl) d_PR_perform_37 ⟨by decide, by decide⟩ rfl (st1 := [.int (sp_isFullOfStatements ns)]) rfl ?_
          refine V.br (pc' := 43) (tgt := 45) (P := (sp_isFullOfStatements ns) = 0) (lv_if_eq X.1 X.2.1 d_PR_perform_40 (by decide)) (fun c_16 => ?_) (fun c_16 => ?_)
          · have i_17 := congrArg Int32.toInt c_16
            rw [show (0 : Int32).toInt = 0 from rfl] at i_17
            rcases hN with h_ | h_ | h_ | h_ | h_
            · exact absurd h_ c_2
            · exact absurd h_ c_6
            · exact absurd h_ c_9
            · exact absurd h_ c_12
            · exact absurd c_16 h_
          · have i_18 := mt Int32.toInt_inj.mp c_16
            rw [show (0 : Int32).toInt = 0 from rfl] at i_18
            refine V.go (pc' := 44) (lv_iconst (v := (-1)) X.1 X.2.1 d_PR_perform_43 (by decide)) ?_
            exact V.iret X hr hlk ⟨rfl, rfl⟩ d_PR_perform_44

theorem d_Model_init_0 : decode prog_8_method_1_code 0 = .ok (.aload_n 0, 1) := by decide +kernel
theorem d_Model_init_1 : decode prog_8_method_1_code 1 = .ok (.invokespecial 1, 3) := by decide +kernel
theorem d_Model_init_4 : decode prog_8_method_1_code 4 = .ok (.aload_n 0, 1) := by decide +kernel
theorem d_Model_init_5 : decode prog_8_method_1_code 5 = .ok (.bipush 16, 2) := by decide +kernel
theorem d_Model_init_7 : decode prog_8_method_1_code 7 = .ok (.newarray .long, 2) := by decide +kernel
theorem d_Model_init_9 : decode prog_8_method_1_code 9 = .ok (.putfield 7, 3) := by decide +kernel
theorem d_Model_init_12 : decode prog_8_method_1_code 12 = .ok (.aload_n 0, 1) := by decide +kernel
theorem d_Model_init_13 : decode prog_8_method_1_code 13 = .ok (.bipush 16, 2) := by decide +kernel
theorem d_Model_init_15 : decode prog_8_method_1_code 15 = .ok (.newarray .long, 2) := by decide +kernel
theorem d_Model_init_17 : decode prog_8_method_1_code 17 = .ok (.putfield 13, 3) := by decide +kernel
theorem d_Model_init_20 : decode prog_8_method_1_code 20 = .ok (.aload_n 0, 1) := by decide +kernel
theorem d_Model_init_21 : decode prog_8_method_1_code 21 = .ok (.bipush 61, 2) := by decide +kernel
theorem d_Model_init_23 : decode prog_8_method_1_code 23 = .ok (.newarray .int, 2) := by decide +kernel
theorem d_Model_init_25 : decode prog_8_method_1_code 25 = .ok (.putfield 16, 3) := by decide +kernel
theorem d_Model_init_28 : decode prog_8_method_1_code 28 = .ok (.aload_n 0, 1) := by decide +kernel
theorem d_Model_init_29 : decode prog_8_method_1_code 29 = .ok (.bipush 61, 2) := by decide +kernel
theorem d_Model_init_31 : decode prog_8_method_1_code 31 = .ok (.newarray .int, 2) := by decide +kernel
theorem d_Model_init_33 : decode prog_8_method_1_code 33 = .ok (.putfield 20, 3) := by decide +kernel
theorem d_Model_init_36 : decode prog_8_method_1_code 36 = .ok (.aload_n 0, 1) := by decide +kernel
theorem d_Model_init_37 : decode prog_8_method_1_code 37 = .ok (.bipush 61, 2) := by decide +kernel
theorem d_Model_init_39 : decode prog_8_method_1_code 39 = .ok (.newarray .int, 2) := by decide +kernel
theorem d_Model_init_41 : decode prog_8_method_1_code 41 = .ok (.putfield 23, 3) := by decide +kernel
theorem d_Model_init_44 : decode prog_8_method_1_code 44 = .ok (.aload_n 0, 1) := by decide +kernel
theorem d_Model_init_45 : decode prog_8_method_1_code 45 = .ok (.bipush 61, 2) := by decide +kernel
theorem d_Model_init_47 : decode prog_8_method_1_code 47 = .ok (.newarray .int, 2) := by decide +kernel
theorem d_Model_init_49 : decode prog_8_method_1_code 49 = .ok (.putfield 26, 3) := by decide +kernel
theorem d_Model_init_52 : decode prog_8_method_1_code 52 = .ok (.aload_n 0, 1) := by decide +kernel
theorem d_Model_init_53 : decode prog_8_method_1_code 53 = .ok (.bipush 61, 2) := by decide +kernel
theorem d_Model_init_55 : decode prog_8_method_1_code 55 = .ok (.newarray .int, 2) := by decide +kernel
theorem d_Model_init_57 : decode prog_8_method_1_code 57 = .ok (.putfield 29, 3) := by decide +kernel
theorem d_Model_init_60 : decode prog_8_method_1_code 60 = .ok (.aload_n 0, 1) := by decide +kernel
theorem d_Model_init_61 : decode prog_8_method_1_code 61 = .ok (.bipush 61, 2) := by decide +kernel
theorem d_Model_init_63 : decode prog_8_method_1_code 63 = .ok (.newarray .int, 2) := by decide +kernel
theorem d_Model_init_65 : decode prog_8_method_1_code 65 = .ok (.putfield 32, 3) := by decide +kernel
theorem d_Model_init_68 : decode prog_8_method_1_code 68 = .ok (.aload_n 0, 1) := by decide +kernel
theorem d_Model_init_69 : decode prog_8_method_1_code 69 = .ok (.bipush 61, 2) := by decide +kernel
theorem d_Model_init_71 : decode prog_8_method_1_code 71 = .ok (.newarray .int, 2) := by decide +kernel
theorem d_Model_init_73 : decode prog_8_method_1_code 73 = .ok (.putfield 35, 3) := by decide +kernel
theorem d_Model_init_76 : decode prog_8_method_1_code 76 = .ok (.aload_n 0, 1) := by decide +kernel
theorem d_Model_init_77 : decode prog_8_method_1_code 77 = .ok (.bipush 61, 2) := by decide +kernel
theorem d_Model_init_79 : decode prog_8_method_1_code 79 = .ok (.newarray .int, 2) := by decide +kernel
theorem d_Model_init_81 : decode prog_8_method_1_code 81 = .ok (.putfield 38, 3) := by decide +kernel
theorem d_Model_init_84 : decode prog_8_method_1_code 84 = .ok (.aload_n 0, 1) := by decide +kernel
theorem d_Model_init_85 : decode prog_8_method_1_code 85 = .ok (.bipush 61, 2) := by decide +kernel
theorem d_Model_init_87 : decode prog_8_method_1_code 87 = .ok (.newarray .boolean, 2) := by decide +kernel
theorem d_Model_init_89 : decode prog_8_method_1_code 89 = .ok (.putfield 41, 3) := by decide +kernel
theorem d_Model_init_92 : decode prog_8_method_1_code 92 = .ok (.aload_n 0, 1) := by decide +kernel
theorem d_Model_init_93 : decode prog_8_method_1_code 93 = .ok (.sipush 488, 3) := by decide +kernel
theorem d_Model_init_96 : decode prog_8_method_1_code 96 = .ok (.newarray .int, 2) := by decide +kernel
theorem d_Model_init_98 : decode prog_8_method_1_code 98 = .ok (.putfield 45, 3) := by decide +kernel
theorem d_Model_init_101 : decode prog_8_method_1_code 101 = .ok (.aload_n 0, 1) := by decide +kernel
theorem d_Model_init_102 : decode prog_8_method_1_code 102 = .ok (.sipush 488, 3) := by decide +kernel
theorem d_Model_init_105 : decode prog_8_method_1_code 105 = .ok (.newarray .int, 2) := by decide +kernel
theorem d_Model_init_107 : decode prog_8_method_1_code 107 = .ok (.putfield 48, 3) := by decide +kernel
theorem d_Model_init_110 : decode prog_8_method_1_code 110 = .ok (.aload_n 0, 1) := by decide +kernel
theorem d_Model_init_111 : decode prog_8_method_1_code 111 = .ok (.sipush 488, 3) := by decide +kernel
theorem d_Model_init_114 : decode prog_8_method_1_code 114 = .ok (.newarray .long, 2) := by decide +kernel
theorem d_Model_init_116 : decode prog_8_method_1_code 116 = .ok (.putfield 51, 3) := by decide +kernel
theorem d_Model_init_119 : decode prog_8_method_1_code 119 = .ok (.aload_n 0, 1) := by decide +kernel
theorem d_Model_init_120 : decode prog_8_method_1_code 120 = .ok (.sipush 488, 3) := by decide +kernel
theorem d_Model_init_123 : decode prog_8_method_1_code 123 = .ok (.newarray .long, 2) := by decide +kernel
theorem d_Model_init_125 : decode prog_8_method_1_code 125 = .ok (.putfield 54, 3) := by decide +kernel
theorem d_Model_init_128 : decode prog_8_method_1_code 128 = .ok (.aload_n 0, 1) := by decide +kernel
theorem d_Model_init_129 : decode prog_8_method_1_code 129 = .ok (.sipush 488, 3) := by decide +kernel
theorem d_Model_init_132 : decode prog_8_method_1_code 132 = .ok (.newarray .long, 2) := by decide +kernel
theorem d_Model_init_134 : decode prog_8_method_1_code 134 = .ok (.putfield 57, 3) := by decide +kernel
theorem d_Model_init_137 : decode prog_8_method_1_code 137 = .ok (.aload_n 0, 1) := by decide +kernel
theorem d_Model_init_138 : decode prog_8_method_1_code 138 = .ok (.bipush 101, 2) := by decide +kernel
theorem d_Model_init_140 : decode prog_8_method_1_code 140 = .ok (.newarray .int, 2) := by decide +kernel
theorem d_Model_init_142 : decode prog_8_method_1_code 142 = .ok (.putfield 60, 3) := by decide +kernel
theorem d_Model_init_145 : decode prog_8_method_1_code 145 = .ok (.aload_n 0, 1) := by decide +kernel
theorem d_Model_init_146 : decode prog_8_method_1_code 146 = .ok (.bipush 101, 2) := by decide +kernel
theorem d_Model_init_148 : decode prog_8_method_1_code 148 = .ok (.newarray .int, 2) := by decide +kernel
theorem d_Model_init_150 : decode prog_8_method_1_code 150 = .ok (.putfield 63, 3) := by decide +kernel
theorem d_Model_init_153 : decode prog_8_method_1_code 153 = .ok (.aload_n 0, 1) := by decide +kernel
theorem d_Model_init_154 : decode prog_8_method_1_code 154 = .ok (.bipush 101, 2) := by decide +kernel
theorem d_Model_init_156 : decode prog_8_method_1_code 156 = .ok (.newarray .int, 2) := by decide +kernel
theorem d_Model_init_158 : decode prog_8_method_1_code 158 = .ok (.putfield 66, 3) := by decide +kernel
theorem d_Model_init_161 : decode prog_8_method_1_code 161 = .ok (.aload_n 0, 1) := by decide +kernel
theorem d_Model_init_162 : decode prog_8_method_1_code 162 = .ok (.sipush 4097, 3) := by decide +kernel
theorem d_Model_init_165 : decode prog_8_method_1_code 165 = .ok (.newarray .int, 2) := by decide +kernel
theorem d_Model_init_167 : decode prog_8_method_1_code 167 = .ok (.putfield 69, 3) := by decide +kernel
theorem d_Model_init_170 : decode prog_8_method_1_code 170 = .ok (.aload_n 0, 1) := by decide +kernel
theorem d_Model_init_171 : decode prog_8_method_1_code 171 = .ok (.iconst (-1), 1) := by decide +kernel
theorem d_Model_init_172 : decode prog_8_method_1_code 172 = .ok (.putfield 72, 3) := by decide +kernel
theorem d_Model_init_175 : decode prog_8_method_1_code 175 = .ok (.aload_n 0, 1) := by decide +kernel
theorem d_Model_init_176 : decode prog_8_method_1_code 176 = .ok (.sipush 4097, 3) := by decide +kernel
theorem d_Model_init_179 : decode prog_8_method_1_code 179 = .ok (.newarray .int, 2) := by decide +kernel
theorem d_Model_init_181 : decode prog_8_method_1_code 181 = .ok (.putfield 76, 3) := by decide +kernel
theorem d_Model_init_184 : decode prog_8_method_1_code 184 = .ok (.aload_n 0, 1) := by decide +kernel
theorem d_Model_init_185 : decode prog_8_method_1_code 185 = .ok (.bipush 101, 2) := by decide +kernel
theorem d_Model_init_187 : decode prog_8_method_1_code 187 = .ok (.newarray .int, 2) := by decide +kernel
theorem d_Model_init_189 : decode prog_8_method_1_code 189 = .ok (.putfield 79, 3) := by decide +kernel
theorem d_Model_init_192 : decode prog_8_method_1_code 192 = .ok (.return_, 1) := by decide +kernel

set_option maxHeartbeats 4000000 in
set_option maxRecDepth 100000 in
theorem c_M_init {l : Launch} {H0 : Heap} {D : va_G} {cI cL cQ cB : ClassId} {M : mp} {mo : Nat} (gh0 : M mo = some (.inr (6, [.int 0, .null, .null, .int 0, .int 0, .null, .null, .null, .null, .null, .null, .null, .null, .null, .null, .null, .null, .null, .null, .null, .null, .null, .int 0, .int 0, .int 0, .int 0, .null, .int 0, .int 0, .int 0, .int 0, .null, .null]))) : MC l H0 D cls7 (tysOf cI cL cQ cB) NW ({ cls := "PerformRangesModel", name := "<init>", desc := "()V" } : Jvm.MethodName) (Cond.code ({ cls := "PerformRangesModel", name := "<init>", desc := "()V" } : Jvm.MethodName) prog_8_method_1_code 1 (Option.none : Option Jvm.ClassFile.FieldType) :: GW) ({ frames := 1, cells := 22, slots := 11619, locals := 21 }) [.ref mo] M (fun v M' => v = none ∧ ∃ nq0 nq1 nq2 nq3 nq4 nq5 nq6 nq7 nq8 nq9 nq10 nq11 nq12 nq13 nq14 nq15 nq16 nq17 nq18 nq19 nq20 nq21 : Nat, M nq0 = none ∧ M nq1 = none ∧ M nq2 = none ∧ M nq3 = none ∧ M nq4 = none ∧ M nq5 = none ∧ M nq6 = none ∧ M nq7 = none ∧ M nq8 = none ∧ M nq9 = none ∧ M nq10 = none ∧ M nq11 = none ∧ M nq12 = none ∧ M nq13 = none ∧ M nq14 = none ∧ M nq15 = none ∧ M nq16 = none ∧ M nq17 = none ∧ M nq18 = none ∧ M nq19 = none ∧ M nq20 = none ∧ M nq21 = none ∧ nq0 ≠ nq1 ∧ nq0 ≠ nq2 ∧ nq0 ≠ nq3 ∧ nq0 ≠ nq4 ∧ nq0 ≠ nq5 ∧ nq0 ≠ nq6 ∧ nq0 ≠ nq7 ∧ nq0 ≠ nq8 ∧ nq0 ≠ nq9 ∧ nq0 ≠ nq10 ∧ nq0 ≠ nq11 ∧ nq0 ≠ nq12 ∧ nq0 ≠ nq13 ∧ nq0 ≠ nq14 ∧ nq0 ≠ nq15 ∧ nq0 ≠ nq16 ∧ nq0 ≠ nq17 ∧ nq0 ≠ nq18 ∧ nq0 ≠ nq19 ∧ nq0 ≠ nq20 ∧ nq0 ≠ nq21 ∧ nq1 ≠ nq2 ∧ nq1 ≠ nq3 ∧ nq1 ≠ nq4 ∧ nq1 ≠ nq5 ∧ nq1 ≠ nq6 ∧ nq1 ≠ nq7 ∧ nq1 ≠ nq8 ∧ nq1 ≠ nq9 ∧ nq1 ≠ nq10 ∧ nq1 ≠ nq11 ∧ nq1 ≠ nq12 ∧ nq1 ≠ nq13 ∧ nq1 ≠ nq14 ∧ nq1 ≠ nq15 ∧ nq1 ≠ nq16 ∧ nq1 ≠ nq17 ∧ nq1 ≠ nq18 ∧ nq1 ≠ nq19 ∧ nq1 ≠ nq20 ∧ nq1 ≠ nq21 ∧ nq2 ≠ nq3 ∧ nq2 ≠ nq4 ∧ nq2 ≠ nq5 ∧ nq2 ≠ nq6 ∧ nq2 ≠ nq7 ∧ nq2 ≠ nq8 ∧ nq2 ≠ nq9 ∧ nq2 ≠ nq10 ∧ nq2 ≠ nq11 ∧ nq2 ≠ nq12 ∧ nq2 ≠ nq13 ∧ nq2 ≠ nq14 ∧ nq2 ≠ nq15 ∧ nq2 ≠ nq16 ∧ nq2 ≠ nq17 ∧ nq2 ≠ nq18 ∧ nq2 ≠ nq19 ∧ nq2 ≠ nq20 ∧ nq2 ≠ nq21 ∧ nq3 ≠ nq4 ∧ nq3 ≠ nq5 ∧ nq3 ≠ nq6 ∧ nq3 ≠ nq7 ∧ nq3 ≠ nq8 ∧ nq3 ≠ nq9 ∧ nq3 ≠ nq10 ∧ nq3 ≠ nq11 ∧ nq3 ≠ nq12 ∧ nq3 ≠ nq13 ∧ nq3 ≠ nq14 ∧ nq3 ≠ nq15 ∧ nq3 ≠ nq16 ∧ nq3 ≠ nq17 ∧ nq3 ≠ nq18 ∧ nq3 ≠ nq19 ∧ nq3 ≠ nq20 ∧ nq3 ≠ nq21 ∧ nq4 ≠ nq5 ∧ nq4 ≠ nq6 ∧ nq4 ≠ nq7 ∧ nq4 ≠ nq8 ∧ nq4 ≠ nq9 ∧ nq4 ≠ nq10 ∧ nq4 ≠ nq11 ∧ nq4 ≠ nq12 ∧ nq4 ≠ nq13 ∧ nq4 ≠ nq14 ∧ nq4 ≠ nq15 ∧ nq4 ≠ nq16 ∧ nq4 ≠ nq17 ∧ nq4 ≠ nq18 ∧ nq4 ≠ nq19 ∧ nq4 ≠ nq20 ∧ nq4 ≠ nq21 ∧ nq5 ≠ nq6 ∧ nq5 ≠ nq7 ∧ nq5 ≠ nq8 ∧ nq5 ≠ nq9 ∧ nq5 ≠ nq10 ∧ nq5 ≠ nq11 ∧ nq5 ≠ nq12 ∧ nq5 ≠ nq13 ∧ nq5 ≠ nq14 ∧ nq5 ≠ nq15 ∧ nq5 ≠ nq16 ∧ nq5 ≠ nq17 ∧ nq5 ≠ nq18 ∧ nq5 ≠ nq19 ∧ nq5 ≠ nq20 ∧ nq5 ≠ nq21 ∧ nq6 ≠ nq7 ∧ nq6 ≠ nq8 ∧ nq6 ≠ nq9 ∧ nq6 ≠ nq10 ∧ nq6 ≠ nq11 ∧ nq6 ≠ nq12 ∧ nq6 ≠ nq13 ∧ nq6 ≠ nq14 ∧ nq6 ≠ nq15 ∧ nq6 ≠ nq16 ∧ nq6 ≠ nq17 ∧ nq6 ≠ nq18 ∧ nq6 ≠ nq19 ∧ nq6 ≠ nq20 ∧ nq6 ≠ nq21 ∧ nq7 ≠ nq8 ∧ nq7 ≠ nq9 ∧ nq7 ≠ nq10 ∧ nq7 ≠ nq11 ∧ nq7 ≠ nq12 ∧ nq7 ≠ nq13 ∧ nq7 ≠ nq14 ∧ nq7 ≠ nq15 ∧ nq7 ≠ nq16 ∧ nq7 ≠ nq17 ∧ nq7 ≠ nq18 ∧ nq7 ≠ nq19 ∧ nq7 ≠ nq20 ∧ nq7 ≠ nq21 ∧ nq8 ≠ nq9 ∧ nq8 ≠ nq10 ∧ nq8 ≠ nq11 ∧ nq8 ≠ nq12 ∧ nq8 ≠ nq13 ∧ nq8 ≠ nq14 ∧ nq8 ≠ nq15 ∧ nq8 ≠ nq16 ∧ nq8 ≠ nq17 ∧ nq8 ≠ nq18 ∧ nq8 ≠ nq19 ∧ nq8 ≠ nq20 ∧ nq8 ≠ nq21 ∧ nq9 ≠ nq10 ∧ nq9 ≠ nq11 ∧ nq9 ≠ nq12 ∧ nq9 ≠ nq13 ∧ nq9 ≠ nq14 ∧ nq9 ≠ nq15 ∧ nq9 ≠ nq16 ∧ nq9 ≠ nq17 ∧ nq9 ≠ nq18 ∧ nq9 ≠ nq19 ∧ nq9 ≠ nq20 ∧ nq9 ≠ nq21 ∧ nq10 ≠ nq11 ∧ nq10 ≠ nq12 ∧ nq10 ≠ nq13 ∧ nq10 ≠ nq14 ∧ nq10 ≠ nq15 ∧ nq10 ≠ nq16 ∧ nq10 ≠ nq17 ∧ nq10 ≠ nq18 ∧ nq10 ≠ nq19 ∧ nq10 ≠ nq20 ∧ nq10 ≠ nq21 ∧ nq11 ≠ nq12 ∧ nq11 ≠ nq13 ∧ nq11 ≠ nq14 ∧ nq11 ≠ nq15 ∧ nq11 ≠ nq16 ∧ nq11 ≠ nq17 ∧ nq11 ≠ nq18 ∧ nq11 ≠ nq19 ∧ nq11 ≠ nq20 ∧ nq11 ≠ nq21 ∧ nq12 ≠ nq13 ∧ nq12 ≠ nq14 ∧ nq12 ≠ nq15 ∧ nq12 ≠ nq16 ∧ nq12 ≠ nq17 ∧ nq12 ≠ nq18 ∧ nq12 ≠ nq19 ∧ nq12 ≠ nq20 ∧ nq12 ≠ nq21 ∧ nq13 ≠ nq14 ∧ nq13 ≠ nq15 ∧ nq13 ≠ nq16 ∧ nq13 ≠ nq17 ∧ nq13 ≠ nq18 ∧ nq13 ≠ nq19 ∧ nq13 ≠ nq20 ∧ nq13 ≠ nq21 ∧ nq14 ≠ nq15 ∧ nq14 ≠ nq16 ∧ nq14 ≠ nq17 ∧ nq14 ≠ nq18 ∧ nq14 ≠ nq19 ∧ nq14 ≠ nq20 ∧ nq14 ≠ nq21 ∧ nq15 ≠ nq16 ∧ nq15 ≠ nq17 ∧ nq15 ≠ nq18 ∧ nq15 ≠ nq19 ∧ nq15 ≠ nq20 ∧ nq15 ≠ nq21 ∧ nq16 ≠ nq17 ∧ nq16 ≠ nq18 ∧ nq16 ≠ nq19 ∧ nq16 ≠ nq20 ∧ nq16 ≠ nq21 ∧ nq17 ≠ nq18 ∧ nq17 ≠ nq19 ∧ nq17 ≠ nq20 ∧ nq17 ≠ nq21 ∧ nq18 ≠ nq19 ∧ nq18 ≠ nq20 ∧ nq18 ≠ nq21 ∧ nq19 ≠ nq20 ∧ nq19 ≠ nq21 ∧ nq20 ≠ nq21 ∧ M' mo = some (.inr (6, [.int 0, .ref nq0, .ref nq1, .int 0, .int 0, .ref nq2, .ref nq3, .ref nq4, .ref nq5, .ref nq6, .ref nq7, .ref nq8, .ref nq9, .ref nq10, .ref nq11, .ref nq12, .ref nq13, .ref nq14, .ref nq15, .ref nq16, .ref nq17, .ref nq18, .int 0, .int 0, .int 0, .int 0, .ref nq19, .int (-1), .int 0, .int 0, .int 0, .ref nq20, .ref nq21])) ∧ M' nq0 = some (.inl (cL, 16, .inr (.inl (fun _ => 0)))) ∧ M' nq1 = some (.inl (cL, 16, .inr (.inl (fun _ => 0)))) ∧ M' nq2 = some (.inl (cI, 61, .inl (fun _ => 0))) ∧ M' nq3 = some (.inl (cI, 61, .inl (fun _ => 0))) ∧ M' nq4 = some (.inl (cI, 61, .inl (fun _ => 0))) ∧ M' nq5 = some (.inl (cI, 61, .inl (fun _ => 0))) ∧ M' nq6 = some (.inl (cI, 61, .inl (fun _ => 0))) ∧ M' nq7 = some (.inl (cI, 61, .inl (fun _ => 0))) ∧ M' nq8 = some (.inl (cI, 61, .inl (fun _ => 0))) ∧ M' nq9 = some (.inl (cI, 61, .inl (fun _ => 0))) ∧ M' nq10 = some (.inl (cB, 61, .inl (fun _ => 0))) ∧ M' nq11 = some (.inl (cI, 488, .inl (fun _ => 0))) ∧ M' nq12 = some (.inl (cI, 488, .inl (fun _ => 0))) ∧ M' nq13 = some (.inl (cL, 488, .inr (.inl (fun _ => 0)))) ∧ M' nq14 = some (.inl (cL, 488, .inr (.inl (fun _ => 0)))) ∧ M' nq15 = some (.inl (cL, 488, .inr (.inl (fun _ => 0)))) ∧ M' nq16 = some (.inl (cI, 101, .inl (fun _ => 0))) ∧ M' nq17 = some (.inl (cI, 101, .inl (fun _ => 0))) ∧ M' nq18 = some (.inl (cI, 101, .inl (fun _ => 0))) ∧ M' nq19 = some (.inl (cI, 4097, .inl (fun _ => 0))) ∧ M' nq20 = some (.inl (cI, 4097, .inl (fun _ => 0))) ∧ M' nq21 = some (.inl (cI, 101, .inl (fun _ => 0))) ∧ (∀ q, q ≠ mo → q ≠ nq0 → q ≠ nq1 → q ≠ nq2 → q ≠ nq3 → q ≠ nq4 → q ≠ nq5 → q ≠ nq6 → q ≠ nq7 → q ≠ nq8 → q ≠ nq9 → q ≠ nq10 → q ≠ nq11 → q ≠ nq12 → q ≠ nq13 → q ≠ nq14 → q ≠ nq15 → q ≠ nq16 → q ≠ nq17 → q ≠ nq18 → q ≠ nq19 → q ≠ nq20 → q ≠ nq21 → M' q = M q)) := by
  refine MC.of (cc := prog_8_method_1_code) (nL := 1) (ret := (Option.none : Option Jvm.ClassFile.FieldType)) (lv := [(0, .ref mo)]) (by decide) rfl (Nat.le_of_ble_eq_true rfl) rfl ?_
  intro p e s m below meth c X hr hlk hnm hK
  refine V.rd (pc' := 1) (fun hl => lv_aload_n X.1 X.2.1 d_Model_init_0 rfl (lv_at hl 0 rfl)) ?_
  refine V.obj (pc' := 4) X (mcs wd_359) (mcs wd_315) (mcs wd_316) (Nat.le_of_ble_eq_true rfl) d_Model_init_1 (by decide) (by decide) rfl ?_
  refine V.rd (pc' := 5) (fun hl => lv_aload_n X.1 X.2.1 d_Model_init_4 rfl (lv_at hl 0 rfl)) ?_
  refine V.go (pc' := 7) (lv_bipush (v := 16) X.1 X.2.1 d_Model_init_5 (by decide)) ?_
  refine V.newa (pc' := 9) (atype := .long) X hK 1 (mcs wd_317) rfl rfl rfl (a0 := (16, .inr (.inl (fun _ => 0)))) (fun _ => rfl) (by decide) (by decide) (by decide) (by decide) (by decide) d_Model_init_7 rfl (fun q_1 M_2 z_3 h_4 fr_5 => ?_)
  have n_6 : mo ≠ q_1 := ne_z gh0 z_3
  have zb_7 : M q_1 = none := z_3
  have h_8 : M_2 mo = some (.inr (6, [.int 0, .null, .null, .int 0, .int 0, .null, .null, .null, .null, .null, .null, .null, .null, .null, .null, .null, .null, .null, .null, .null, .null, .null, .int 0, .int 0, .int 0, .int 0, .null, .int 0, .int 0, .int 0, .int 0, .null, .null])) := (fr_5 _ n_6).trans gh0
  refine V.putF (pc' := 12) X hK hnm h_8 uw_Model t_Model tok_Model nm_Model rfl 1 (by decide) (mcs wd_196) rfl rfl rfl rfl (Nat.le_of_ble_eq_true rfl) (fs' := [.int 0, .ref q_1, .null, .int 0, .int 0, .null, .null, .null, .null, .null, .null, .null, .null, .null, .null, .null, .null, .null, .null, .null, .null, .null, .int 0, .int 0, .int 0, .int 0, .null, .int 0, .int 0, .int 0, .int 0, .null, .null]) rfl d_Model_init_9 rfl (fun M_9 h_10 fr_11 => ?_)
  have h_12 : M_9 q_1 = some (.inl (cL, 16, .inr (.inl (fun _ => 0)))) := (fr_11 _ (Ne.symm n_6)).trans h_4
  refine V.rd (pc' := 13) (fun hl => lv_aload_n X.1 X.2.1 d_Model_init_12 rfl (lv_at hl 0 rfl)) ?_
  refine V.go (pc' := 15) (lv_bipush (v := 16) X.1 X.2.1 d_Model_init_13 (by decide)) ?_
  refine V.newa (pc' := 17) (atype := .long) X hK 1 (mcs wd_317) rfl rfl rfl (a0 := (16, .inr (.inl (fun _ => 0)))) (fun _ => rfl) (by decide) (by decide) (by decide) (by decide) (by decide) d_Model_init_15 rfl (fun q_13 M_14 z_15 h_16 fr_17 => ?_)
  have n_18 : q_1 ≠ q_13 := ne_z h_12 z_15
  have n_19 : mo ≠ q_13 := ne_z h_10 z_15
  have zb_20 : M q_13 = none := ((fr_11 q_13 (Ne.symm n_19)).trans ((fr_5 q_13 (Ne.symm n_18)))).symm.trans z_15
  have h_21 : M_14 q_1 = some (.inl (cL, 16, .inr (.inl (fun _ => 0)))) := (fr_17 _ n_18).trans h_12
  have h_22 : M_14 mo = some (.inr (6, [.int 0, .ref q_1, .null, .int 0, .int 0, .null, .null, .null, .null, .null, .null, .null, .null, .null, .null, .null, .null, .null, .null, .null, .null, .null, .int 0, .int 0, .int 0, .int 0, .null, .int 0, .int 0, .int 0, .int 0, .null, .null])) := (fr_17 _ n_19).trans h_10
  refine V.putF (pc' := 20) X hK hnm h_22 uw_Model t_Model tok_Model nm_Model rfl 2 (by decide) (mcs wd_264) rfl rfl rfl rfl (Nat.le_of_ble_eq_true rfl) (fs' := [.int 0, .ref q_1, .ref q_13, .int 0, .int 0, .null, .null, .null, .null, .null, .null, .null, .null, .null, .null, .null, .null, .null, .null, .null, .null, .null, .int 0, .int 0, .int 0, .int 0, .null, .int 0, .int 0, .int 0, .int 0, .null, .null]) rfl d_Model_init_17 rfl (fun M_23 h_24 fr_25 => ?_)
  have h_26 : M_23 q_1 = some (.inl (cL, 16, .inr (.inl (fun _ => 0)))) := (fr_25 _ (Ne.symm n_6)).trans h_21
  have h_27 : M_23 q_13 = some (.inl (cL, 16, .inr (.inl (fun _ => 0)))) := (fr_25 _ (Ne.symm n_19)).trans h_16
  refine V.rd (pc' := 21) (fun hl => lv_aload_n X.1 X.2.1 d_Model_init_20 rfl (lv_at hl 0 rfl)) ?_
  refine V.go (pc' := 23) (lv_bipush (v := 61) X.1 X.2.1 d_Model_init_21 (by decide)) ?_
  refine V.newa (pc' := 25) (atype := .int) X hK 0 (mcs wd_320) rfl rfl rfl (a0 := (61, .inl (fun _ => 0))) (fun _ => rfl) (by decide) (by decide) (by decide) (by decide) (by decide) d_Model_init_23 rfl (fun q_28 M_29 z_30 h_31 fr_32 => ?_)
  have n_33 : q_1 ≠ q_28 := ne_z h_26 z_30
  have n_34 : q_13 ≠ q_28 := ne_z h_27 z_30
  have n_35 : mo ≠ q_28 := ne_z h_24 z_30
  have zb_36 : M q_28 = none := ((fr_25 q_28 (Ne.symm n_35)).trans ((fr_17 q_28 (Ne.symm n_34)).trans ((fr_11 q_28 (Ne.symm n_35)).trans ((fr_5 q_28 (Ne.symm n_33)))))).symm.trans z_30
  have h_37 : M_29 q_1 = some (.inl (cL, 16, .inr (.inl (fun _ => 0)))) := (fr_32 _ n_33).trans h_26
  have h_38 : M_29 q_13 = some (.inl (cL, 16, .inr (.inl (fun _ => 0)))) := (fr_32 _ n_34).trans h_27
  have h_39 : M_29 mo = some (.inr (6, [.int 0, .ref q_1, .ref q_13, .int 0, .int 0, .null, .null, .null, .null, .null, .null, .null, .null, .null, .null, .null, .null, .null, .null, .null, .null, .null, .int 0, .int 0, .int 0, .int 0, .null, .int 0, .int 0, .int 0, .int 0, .null, .null])) := (fr_32 _ n_35).trans h_24
  refine V.putF (pc' := 28) X hK hnm h_39 uw_Model t_Model tok_Model nm_Model rfl 5 (by decide) (mcs wd_170) rfl rfl rfl rfl (Nat.le_of_ble_eq_true rfl) (fs' := [.int 0, .ref q_1, .ref q_13, .int 0, .int 0, .ref q_28, .null, .null, .null, .null, .null, .null, .null, .null, .null, .null, .null, .null, .null, .null, .null, .null, .int 0, .int 0, .int 0, .int 0, .null, .int 0, .int 0, .int 0, .int 0, .null, .null]) rfl d_Model_init_25 rfl (fun M_40 h_41 fr_42 => ?_)
  have h_43 : M_40 q_1 = some (.inl (cL, 16, .inr (.inl (fun _ => 0)))) := (fr_42 _ (Ne.symm n_6)).trans h_37
  have h_44 : M_40 q_13 = some (.inl (cL, 16, .inr (.inl (fun _ => 0)))) := (fr_42 _ (Ne.symm n_19)).trans h_38
  have h_45 : M_40 q_28 = some (.inl (cI, 61, .inl (fun _ => 0))) := (fr_42 _ (Ne.symm n_35)).trans h_31
  refine V.rd (pc' := 29) (fun hl => lv_aload_n X.1 X.2.1 d_Model_init_28 rfl (lv_at hl 0 rfl)) ?_
  refine V.go (pc' := 31) (lv_bipush (v := 61) X.1 X.2.1 d_Model_init_29 (by decide)) ?_
  refine V.newa (pc' := 33) (atype := .int) X hK 0 (mcs wd_320) rfl rfl rfl (a0 := (61, .inl (fun _ => 0))) (fun _ => rfl) (by decide) (by decide) (by decide) (by decide) (by decide) d_Model_init_31 rfl (fun q_46 M_47 z_48 h_49 fr_50 => ?_)
  have n_51 : q_1 ≠ q_46 := ne_z h_43 z_48
  have n_52 : q_13 ≠ q_46 := ne_z h_44 z_48
  have n_53 : q_28 ≠ q_46 := ne_z h_45 z_48
  have n_54 : mo ≠ q_46 := ne_z h_41 z_48
  have zb_55 : M q_46 = none := ((fr_42 q_46 (Ne.symm n_54)).trans ((fr_32 q_46 (Ne.symm n_53)).trans ((fr_25 q_46 (Ne.symm n_54)).trans ((fr_17 q_46 (Ne.symm n_52)).trans ((fr_11 q_46 (Ne.symm n_54)).trans ((fr_5 q_46 (Ne.symm n_51)))))))).symm.trans z_48
  have h_56 : M_47 q_1 = some (.inl (cL, 16, .inr (.inl (fun _ => 0)))) := (fr_50 _ n_51).trans h_43
  have h_57 : M_47 q_13 = some (.inl (cL, 16, .inr (.inl (fun _ => 0)))) := (fr_50 _ n_52).trans h_44
  have h_58 : M_47 q_28 = some (.inl (cI, 61, .inl (fun _ => 0))) := (fr_50 _ n_53).trans h_45
  have h_59 : M_47 mo = some (.inr (6, [.int 0, .ref q_1, .ref q_13, .int 0, .int 0, .ref q_28, .null, .null, .null, .null, .null, .null, .null, .null, .null, .null, .null, .null, .null, .null, .null, .null, .int 0, .int 0, .int 0, .int 0, .null, .int 0, .int 0, .int 0, .int 0, .null, .null])) := (fr_50 _ n_54).trans h_41
  refine V.putF (pc' := 36) X hK hnm h_59 uw_Model t_Model tok_Model nm_Model rfl 6 (by decide) (mcs wd_195) rfl rfl rfl rfl (Nat.le_of_ble_eq_true rfl) (fs' := [.int 0, .ref q_1, .ref q_13, .int 0, .int 0, .ref q_28, .ref q_46, .null, .null, .null, .null, .null, .null, .null, .null, .null, .null, .null, .null, .null, .null, .null, .int 0, .int 0, .int 0, .int 0, .null, .int 0, .int 0, .int 0, .int 0, .null, .null]) rfl d_Model_init_33 rfl (fun M_60 h_61 fr_62 => ?_)
  have h_63 : M_60 q_1 = some (.inl (cL, 16, .inr (.inl (fun _ => 0)))) := (fr_62 _ (Ne.symm n_6)).trans h_56
  have h_64 : M_60 q_13 = some (.inl (cL, 16, .inr (.inl (fun _ => 0)))) := (fr_62 _ (Ne.symm n_19)).trans h_57
  have h_65 : M_60 q_28 = some (.inl (cI, 61, .inl (fun _ => 0))) := (fr_62 _ (Ne.symm n_35)).trans h_58
  have h_66 : M_60 q_46 = some (.inl (cI, 61, .inl (fun _ => 0))) := (fr_62 _ (Ne.symm n_54)).trans h_49
  refine V.rd (pc' := 37) (fun hl => lv_aload_n X.1 X.2.1 d_Model_init_36 rfl (lv_at hl 0 rfl)) ?_
  refine V.go (pc' := 39) (lv_bipush (v := 61) X.1 X.2.1 d_Model_init_37 (by decide)) ?_
  refine V.newa (pc' := 41) (atype := .int) X hK 0 (mcs wd_320) rfl rfl rfl (a0 := (61, .inl (fun _ => 0))) (fun _ => rfl) (by decide) (by decide) (by decide) (by decide) (by decide) d_Model_init_39 rfl (fun q_67 M_68 z_69 h_70 fr_71 => ?_)
  have n_72 : q_1 ≠ q_67 := ne_z h_63 z_69
  have n_73 : q_13 ≠ q_67 := ne_z h_64 z_69
  have n_74 : q_28 ≠ q_67 := ne_z h_65 z_69
  have n_75 : q_46 ≠ q_67 := ne_z h_66 z_69
  have n_76 : mo ≠ q_67 := ne_z h_61 z_69
  have zb_77 : M q_67 = none := ((fr_62 q_67 (Ne.symm n_76)).trans ((fr_50 q_67 (Ne.symm n_75)).trans ((fr_42 q_67 (Ne.symm n_76)).trans ((fr_32 q_67 (Ne.symm n_74)).trans ((fr_25 q_67 (Ne.symm n_76)).trans ((fr_17 q_67 (Ne.symm n_73)).trans ((fr_11 q_67 (Ne.symm n_76)).trans ((fr_5 q_67 (Ne.symm n_72)))))))))).symm.trans z_69
  have h_78 : M_68 q_1 = some (.inl (cL, 16, .inr (.inl (fun _ => 0)))) := (fr_71 _ n_72).trans h_63
  have h_79 : M_68 q_13 = some (.inl (cL, 16, .inr (.inl (fun _ => 0)))) := (fr_71 _ n_73).trans h_64
  have h_80 : M_68 q_28 = some (.inl (cI, 61, .inl (fun _ => 0))) := (fr_71 _ n_74).trans h_65
  have h_81 : M_68 q_46 = some (.inl (cI, 61, .inl (fun _ => 0))) := (fr_71 _ n_75).trans h_66
  have h_82 : M_68 mo = some (.inr (6, [.int 0, .ref q_1, .ref q_13, .int 0, .int 0, .ref q_28, .ref q_46, .null, .null, .null, .null, .null, .null, .null, .null, .null, .null, .null, .null, .null, .null, .null, .int 0, .int 0, .int 0, .int 0, .null, .int 0, .int 0, .int 0, .int 0, .null, .null])) := (fr_71 _ n_76).trans h_61
  refine V.putF (pc' := 44) X hK hnm h_82 uw_Model t_Model tok_Model nm_Model rfl 7 (by decide) (mcs wd_176) rfl rfl rfl rfl (Nat.le_of_ble_eq_true rfl) (fs' := [.int 0, .ref q_1, .ref q_13, .int 0, .int 0, .ref q_28, .ref q_46, .ref q_67, .null, .null, .null, .null, .null, .null, .null, .null, .null, .null, .null, .null, .null, .null, .int 0, .int 0, .int 0, .int 0, .null, .int 0, .int 0, .int 0, .int 0, .null, .null]) rfl d_Model_init_41 rfl (fun M_83 h_84 fr_85 => ?_)
  have h_86 : M_83 q_1 = some (.inl (cL, 16, .inr (.inl (fun _ => 0)))) := (fr_85 _ (Ne.symm n_6)).trans h_78
  have h_87 : M_83 q_13 = some (.inl (cL, 16, .inr (.inl (fun _ => 0)))) := (fr_85 _ (Ne.symm n_19)).trans h_79
  have h_88 : M_83 q_28 = some (.inl (cI, 61, .inl (fun _ => 0))) := (fr_85 _ (Ne.symm n_35)).trans h_80
  have h_89 : M_83 q_46 = some (.inl (cI, 61, .inl (fun _ => 0))) := (fr_85 _ (Ne.symm n_54)).trans h_81
  have h_90 : M_83 q_67 = some (.inl (cI, 61, .inl (fun _ => 0))) := (fr_85 _ (Ne.symm n_76)).trans h_70
  refine V.rd (pc' := 45) (fun hl => lv_aload_n X.1 X.2.1 d_Model_init_44 rfl (lv_at hl 0 rfl)) ?_
  refine V.go (pc' := 47) (lv_bipush (v := 61) X.1 X.2.1 d_Model_init_45 (by decide)) ?_
  refine V.newa (pc' := 49) (atype := .int) X hK 0 (mcs wd_320) rfl rfl rfl (a0 := (61, .inl (fun _ => 0))) (fun _ => rfl) (by decide) (by decide) (by decide) (by decide) (by decide) d_Model_init_47 rfl (fun q_91 M_92 z_93 h_94 fr_95 => ?_)
  have n_96 : q_1 ≠ q_91 := ne_z h_86 z_93
  have n_97 : q_13 ≠ q_91 := ne_z h_87 z_93
  have n_98 : q_28 ≠ q_91 := ne_z h_88 z_93
  have n_99 : q_46 ≠ q_91 := ne_z h_89 z_93
  have n_100 : q_67 ≠ q_91 := ne_z h_90 z_93
  have n_101 : mo ≠ q_91 := ne_z h_84 z_93
  have zb_102 : M q_91 = none := ((fr_85 q_91 (Ne.symm n_101)).trans ((fr_71 q_91 (Ne.symm n_100)).trans ((fr_62 q_91 (Ne.symm n_101)).trans ((fr_50 q_91 (Ne.symm n_99)).trans ((fr_42 q_91 (Ne.symm n_101)).trans ((fr_32 q_91 (Ne.symm n_98)).trans ((fr_25 q_91 (Ne.symm n_101)).trans ((fr_17 q_91 (Ne.symm n_97)).trans ((fr_11 q_91 (Ne.symm n_101)).trans ((fr_5 q_91 (Ne.symm n_96)))))))))))).symm.trans z_93
  have h_103 : M_92 q_1 = some (.inl (cL, 16, .inr (.inl (fun _ => 0)))) := (fr_95 _ n_96).trans h_86
  have h_104 : M_92 q_13 = some (.inl (cL, 16, .inr (.inl (fun _ => 0)))) := (fr_95 _ n_97).trans h_87
  have h_105 : M_92 q_28 = some (.inl (cI, 61, .inl (fun _ => 0))) := (fr_95 _ n_98).trans h_88
  have h_106 : M_92 q_46 = some (.inl (cI, 61, .inl (fun _ => 0))) := (fr_95 _ n_99).trans h_89
  have h_107 : M_92 q_67 = some (.inl (cI, 61, .inl (fun _ => 0))) := (fr_95 _ n_100).trans h_90
  have h_108 : M_92 mo = some (.inr (6, [.int 0, .ref q_1, .ref q_13, .int 0, .int 0, .ref q_28, .ref q_46, .ref q_67, .null, .null, .null, .null, .null, .null, .null, .null, .null, .null, .null, .null, .null, .null, .int 0, .int 0, .int 0, .int 0, .null, .int 0, .int 0, .int 0, .int 0, .null, .null])) := (fr_95 _ n_101).trans h_84
  refine V.putF (pc' := 52) X hK hnm h_108 uw_Model t_Model tok_Model nm_Model rfl 8 (by decide) (mcs wd_177) rfl rfl rfl rfl (Nat.le_of_ble_eq_true rfl) (fs' := [.int 0, .ref q_1, .ref q_13, .int 0, .int 0, .ref q_28, .ref q_46, .ref q_67, .ref q_91, .null, .null, .null, .null, .null, .null, .null, .null, .null, .null, .null, .null, .null, .int 0, .int 0, .int 0, .int 0, .null, .int 0, .int 0, .int 0, .int 0, .null, .null]) rfl d_Model_init_49 rfl (fun M_109 h_110 fr_111 => ?_)
  have h_112 : M_109 q_1 = some (.inl (cL, 16, .inr (.inl (fun _ => 0)))) := (fr_111 _ (Ne.symm n_6)).trans h_103
  have h_113 : M_109 q_13 = some (.inl (cL, 16, .inr (.inl (fun _ => 0)))) := (fr_111 _ (Ne.symm n_19)).trans h_104
  have h_114 : M_109 q_28 = some (.inl (cI, 61, .inl (fun _ => 0))) := (fr_111 _ (Ne.symm n_35)).trans h_105
  have h_115 : M_109 q_46 = some (.inl (cI, 61, .inl (fun _ => 0))) := (fr_111 _ (Ne.symm n_54)).trans h_106
  have h_116 : M_109 q_67 = some (.inl (cI, 61, .inl (fun _ => 0))) := (fr_111 _ (Ne.symm n_76)).trans h_107
  have h_117 : M_109 q_91 = some (.inl (cI, 61, .inl (fun _ => 0))) := (fr_111 _ (Ne.symm n_101)).trans h_94
  refine V.rd (pc' := 53) (fun hl => lv_aload_n X.1 X.2.1 d_Model_init_52 rfl (lv_at hl 0 rfl)) ?_
  refine V.go (pc' := 55) (lv_bipush (v := 61) X.1 X.2.1 d_Model_init_53 (by decide)) ?_
  refine V.newa (pc' := 57) (atype := .int) X hK 0 (mcs wd_320) rfl rfl rfl (a0 := (61, .inl (fun _ => 0))) (fun _ => rfl) (by decide) (by decide) (by decide) (by decide) (by decide) d_Model_init_55 rfl (fun q_118 M_119 z_120 h_121 fr_122 => ?_)
  have n_123 : q_1 ≠ q_118 := ne_z h_112 z_120
  have n_124 : q_13 ≠ q_118 := ne_z h_113 z_120
  have n_125 : q_28 ≠ q_118 := ne_z h_114 z_120
  have n_126 : q_46 ≠ q_118 := ne_z h_115 z_120
  have n_127 : q_67 ≠ q_118 := ne_z h_116 z_120
  have n_128 : q_91 ≠ q_118 := ne_z h_117 z_120
  have n_129 : mo ≠ q_118 := ne_z h_110 z_120
  have zb_130 : M q_118 = none := ((fr_111 q_118 (Ne.symm n_129)).trans ((fr_95 q_118 (Ne.symm n_128)).trans ((fr_85 q_118 (Ne.symm n_129)).trans ((fr_71 q_118 (Ne.symm n_127)).trans ((fr_62 q_118 (Ne.symm n_129)).trans ((fr_50 q_118 (Ne.symm n_126)).trans ((fr_42 q_118 (Ne.symm n_129)).trans ((fr_32 q_118 (Ne.symm n_125)).trans ((fr_25 q_118 (Ne.symm n_129)).trans ((fr_17 q_118 (Ne.symm n_124)).trans ((fr_11 q_118 (Ne.symm n_129)).trans ((fr_5 q_118 (Ne.symm n_123)))))))))))))).symm.trans z_120
  have h_131 : M_119 q_1 = some (.inl (cL, 16, .inr (.inl (fun _ => 0)))) := (fr_122 _ n_123).trans h_112
  have h_132 : M_119 q_13 = some (.inl (cL, 16, .inr (.inl (fun _ => 0)))) := (fr_122 _ n_124).trans h_113
  have h_133 : M_119 q_28 = some (.inl (cI, 61, .inl (fun _ => 0))) := (fr_122 _ n_125).trans h_114
  have h_134 : M_119 q_46 = some (.inl (cI, 61, .inl (fun _ => 0))) := (fr_122 _ n_126).trans h_115
  have h_135 : M_119 q_67 = some (.inl (cI, 61, .inl (fun _ => 0))) := (fr_122 _ n_127).trans h_116
  have h_136 : M_119 q_91 = some (.inl (cI, 61, .inl (fun _ => 0))) := (fr_122 _ n_128).trans h_117
  have h_137 : M_119 mo = some (.inr (6, [.int 0, .ref q_1, .ref q_13, .int 0, .int 0, .ref q_28, .ref q_46, .ref q_67, .ref q_91, .null, .null, .null, .null, .null, .null, .null, .null, .null, .null, .null, .null, .null, .int 0, .int 0, .int 0, .int 0, .null, .int 0, .int 0, .int 0, .int 0, .null, .null])) := (fr_122 _ n_129).trans h_110
  refine V.putF (pc' := 60) X hK hnm h_137 uw_Model t_Model tok_Model nm_Model rfl 9 (by decide) (mcs wd_178) rfl rfl rfl rfl (Nat.le_of_ble_eq_true rfl) (fs' := [.int 0, .ref q_1, .ref q_13, .int 0, .int 0, .ref q_28, .ref q_46, .ref q_67, .ref q_91, .ref q_118, .null, .null, .null, .null, .null, .null, .null, .null, .null, .null, .null, .null, .int 0, .int 0, .int 0, .int 0, .null, .int 0, .int 0, .int 0, .int 0, .null, .null]) rfl d_Model_init_57 rfl (fun M_138 h_139 fr_140 => ?_)
  have h_141 : M_138 q_1 = some (.inl (cL, 16, .inr (.inl (fun _ => 0)))) := (fr_140 _ (Ne.symm n_6)).trans h_131
  have h_142 : M_138 q_13 = some (.inl (cL, 16, .inr (.inl (fun _ => 0)))) := (fr_140 _ (Ne.symm n_19)).trans h_132
  have h_143 : M_138 q_28 = some (.inl (cI, 61, .inl (fun _ => 0))) := (fr_140 _ (Ne.symm n_35)).trans h_133
  have h_144 : M_138 q_46 = some (.inl (cI, 61, .inl (fun _ => 0))) := (fr_140 _ (Ne.symm n_54)).trans h_134
  have h_145 : M_138 q_67 = some (.inl (cI, 61, .inl (fun _ => 0))) := (fr_140 _ (Ne.symm n_76)).trans h_135
  have h_146 : M_138 q_91 = some (.inl (cI, 61, .inl (fun _ => 0))) := (fr_140 _ (Ne.symm n_101)).trans h_136
  have h_147 : M_138 q_118 = some (.inl (cI, 61, .inl (fun _ => 0))) := (fr_140 _ (Ne.symm n_129)).trans h_121
  refine V.rd (pc' := 61) (fun hl => lv_aload_n X.1 X.2.1 d_Model_init_60 rfl (lv_at hl 0 rfl)) ?_
  refine V.go (pc' := 63) (lv_bipush (v := 61) X.1 X.2.1 d_Model_init_61 (by decide)) ?_
  refine V.newa (pc' := 65) (atype := .int) X hK 0 (mcs wd_320) rfl rfl rfl (a0 := (61, .inl (fun _ => 0))) (fun _ => rfl) (by decide) (by decide) (by decide) (by decide) (by decide) d_Model_init_63 rfl (fun q_148 M_149 z_150 h_151 fr_152 => ?_)
  have n_153 : q_1 ≠ q_148 := ne_z h_141 z_150
  have n_154 : q_13 ≠ q_148 := ne_z h_142 z_150
  have n_155 : q_28 ≠ q_148 := ne_z h_143 z_150
  have n_156 : q_46 ≠ q_148 := ne_z h_144 z_150
  have n_157 : q_67 ≠ q_148 := ne_z h_145 z_150
  have n_158 : q_91 ≠ q_148 := ne_z h_146 z_150
  have n_159 : q_118 ≠ q_148 := ne_z h_147 z_150
  have n_160 : mo ≠ q_148 := ne_z h_139 z_150
  have zb_161 : M q_148 = none := ((fr_140 q_148 (Ne.symm n_160)).trans ((fr_122 q_148 (Ne.symm n_159)).trans ((fr_111 q_148 (Ne.symm n_160)).trans ((fr_95 q_148 (Ne.symm n_158)).trans ((fr_85 q_148 (Ne.symm n_160)).trans ((fr_71 q_148 (Ne.symm n_157)).trans ((fr_62 q_148 (Ne.symm n_160)).trans ((fr_50 q_148 (Ne.symm n_156)).trans ((fr_42 q_148 (Ne.symm n_160)).trans ((fr_32 q_148 (Ne.symm n_155)).trans ((fr_25 q_148 (Ne.symm n_160)).trans ((fr_17 q_148 (Ne.symm n_154)).trans ((fr_11 q_148 (Ne.symm n_160)).trans ((fr_5 q_148 (Ne.symm n_153)))))))))))))))).symm.trans z_150
  have h_162 : M_149 q_1 = some (.inl (cL, 16, .inr (.inl (fun _ => 0)))) := (fr_152 _ n_153).trans h_141
  have h_163 : M_149 q_13 = some (.inl (cL, 16, .inr (.inl (fun _ => 0)))) := (fr_152 _ n_154).trans h_142
  have h_164 : M_149 q_28 = some (.inl (cI, 61, .inl (fun _ => 0))) := (fr_152 _ n_155).trans h_143
  have h_165 : M_149 q_46 = some (.inl (cI, 61, .inl (fun _ => 0))) := (fr_152 _ n_156).trans h_144
  have h_166 : M_149 q_67 = some (.inl (cI, 61, .inl (fun _ => 0))) := (fr_152 _ n_157).trans h_145
  have h_167 : M_149 q_91 = some (.inl (cI, 61, .inl (fun _ => 0))) := (fr_152 _ n_158).trans h_146
  have h_168 : M_149 q_118 = some (.inl (cI, 61, .inl (fun _ => 0))) := (fr_152 _ n_159).trans h_147
  have h_169 : M_149 mo = some (.inr (6, [.int 0, .ref q_1, .ref q_13, .int 0, .int 0, .ref q_28, .ref q_46, .ref q_67, .ref q_91, .ref q_118, .null, .null, .null, .null, .null, .null, .null, .null, .null, .null, .null, .null, .int 0, .int 0, .int 0, .int 0, .null, .int 0, .int 0, .int 0, .int 0, .null, .null])) := (fr_152 _ n_160).trans h_139
  refine V.putF (pc' := 68) X hK hnm h_169 uw_Model t_Model tok_Model nm_Model rfl 10 (by decide) (mcs wd_179) rfl rfl rfl rfl (Nat.le_of_ble_eq_true rfl) (fs' := [.int 0, .ref q_1, .ref q_13, .int 0, .int 0, .ref q_28, .ref q_46, .ref q_67, .ref q_91, .ref q_118, .ref q_148, .null, .null, .null, .null, .null, .null, .null, .null, .null, .null, .null, .int 0, .int 0, .int 0, .int 0, .null, .int 0, .int 0, .int 0, .int 0, .null, .null]) rfl d_Model_init_65 rfl (fun M_170 h_171 fr_172 => ?_)
  have h_173 : M_170 q_1 = some (.inl (cL, 16, .inr (.inl (fun _ => 0)))) := (fr_172 _ (Ne.symm n_6)).trans h_162
  have h_174 : M_170 q_13 = some (.inl (cL, 16, .inr (.inl (fun _ => 0)))) := (fr_172 _ (Ne.symm n_19)).trans h_163
  have h_175 : M_170 q_28 = some (.inl (cI, 61, .inl (fun _ => 0))) := (fr_172 _ (Ne.symm n_35)).trans h_164
  have h_176 : M_170 q_46 = some (.inl (cI, 61, .inl (fun _ => 0))) := (fr_172 _ (Ne.symm n_54)).trans h_165
  have h_177 : M_170 q_67 = some (.inl (cI, 61, .inl (fun _ => 0))) := (fr_172 _ (Ne.symm n_76)).trans h_166
  have h_178 : M_170 q_91 = some (.inl (cI, 61, .inl (fun _ => 0))) := (fr_172 _ (Ne.symm n_101)).trans h_167
  have h_179 : M_170 q_118 = some (.inl (cI, 61, .inl (fun _ => 0))) := (fr_172 _ (Ne.symm n_129)).trans h_168
  have h_180 : M_170 q_148 = some (.inl (cI, 61, .inl (fun _ => 0))) := (fr_172 _ (Ne.symm n_160)).trans h_151
  refine V.rd (pc' := 69) (fun hl => lv_aload_n X.1 X.2.1 d_Model_init_68 rfl (lv_at hl 0 rfl)) ?_
  refine V.go (pc' := 71) (lv_bipush (v := 61) X.1 X.2.1 d_Model_init_69 (by decide)) ?_
  refine V.newa (pc' := 73) (atype := .int) X hK 0 (mcs wd_320) rfl rfl rfl (a0 := (61, .inl (fun _ => 0))) (fun _ => rfl) (by decide) (by decide) (by decide) (by decide) (by decide) d_Model_init_71 rfl (fun q_181 M_182 z_183 h_184 fr_185 => ?_)
  have n_186 : q_1 ≠ q_181 := ne_z h_173 z_183
  have n_187 : q_13 ≠ q_181 := ne_z h_174 z_183
  have n_188 : q_28 ≠ q_181 := ne_z h_175 z_183
  have n_189 : q_46 ≠ q_181 := ne_z h_176 z_183
  have n_190 : q_67 ≠ q_181 := ne_z h_177 z_183
  have n_191 : q_91 ≠ q_181 := ne_z h_178 z_183
  have n_192 : q_118 ≠ q_181 := ne_z h_179 z_183
  have n_193 : q_148 ≠ q_181 := ne_z h_180 z_183
  have n_194 : mo ≠ q_181 := ne_z h_171 z_183
  have zb_195 : M q_181 = none := ((fr_172 q_181 (Ne.symm n_194)).trans ((fr_152 q_181 (Ne.symm n_193)).trans ((fr_140 q_181 (Ne.symm n_194)).trans ((fr_122 q_181 (Ne.symm n_192)).trans ((fr_111 q_181 (Ne.symm n_194)).trans ((fr_95 q_181 (Ne.symm n_191)).trans ((fr_85 q_181 (Ne.symm n_194)).trans ((fr_71 q_181 (Ne.symm n_190)).trans ((fr_62 q_181 (Ne.symm n_194)).trans ((fr_50 q_181 (Ne.symm n_189)).trans ((fr_42 q_181 (Ne.symm n_194)).trans ((fr_32 q_181 (Ne.symm n_188)).trans ((fr_25 q_181 (Ne.symm n_194)).trans ((fr_17 q_181 (Ne.symm n_187)).trans ((fr_11 q_181 (Ne.symm n_194)).trans ((fr_5 q_181 (Ne.symm n_186)))))))))))))))))).symm.trans z_183
  have h_196 : M_182 q_1 = some (.inl (cL, 16, .inr (.inl (fun _ => 0)))) := (fr_185 _ n_186).trans h_173
  have h_197 : M_182 q_13 = some (.inl (cL, 16, .inr (.inl (fun _ => 0)))) := (fr_185 _ n_187).trans h_174
  have h_198 : M_182 q_28 = some (.inl (cI, 61, .inl (fun _ => 0))) := (fr_185 _ n_188).trans h_175
  have h_199 : M_182 q_46 = some (.inl (cI, 61, .inl (fun _ => 0))) := (fr_185 _ n_189).trans h_176
  have h_200 : M_182 q_67 = some (.inl (cI, 61, .inl (fun _ => 0))) := (fr_185 _ n_190).trans h_177
  have h_201 : M_182 q_91 = some (.inl (cI, 61, .inl (fun _ => 0))) := (fr_185 _ n_191).trans h_178
  have h_202 : M_182 q_118 = some (.inl (cI, 61, .inl (fun _ => 0))) := (fr_185 _ n_192).trans h_179
  have h_203 : M_182 q_148 = some (.inl (cI, 61, .inl (fun _ => 0))) := (fr_185 _ n_193).trans h_180
  have h_204 : M_182 mo = some (.inr (6, [.int 0, .ref q_1, .ref q_13, .int 0, .int 0, .ref q_28, .ref q_46, .ref q_67, .ref q_91, .ref q_118, .ref q_148, .null, .null, .null, .null, .null, .null, .null, .null, .null, .null, .null, .int 0, .int 0, .int 0, .int 0, .null, .int 0, .int 0, .int 0, .int 0, .null, .null])) := (fr_185 _ n_194).trans h_171
  refine V.putF (pc' := 76) X hK hnm h_204 uw_Model t_Model tok_Model nm_Model rfl 11 (by decide) (mcs wd_187) rfl rfl rfl rfl (Nat.le_of_ble_eq_true rfl) (fs' := [.int 0, .ref q_1, .ref q_13, .int 0, .int 0, .ref q_28, .ref q_46, .ref q_67, .ref q_91, .ref q_118, .ref q_148, .ref q_181, .null, .null, .null, .null, .null, .null, .null, .null, .null, .null, .int 0, .int 0, .int 0, .int 0, .null, .int 0, .int 0, .int 0, .int 0, .null, .null]) rfl d_Model_init_73 rfl (fun M_205 h_206 fr_207 => ?_)
  have h_208 : M_205 q_1 = some (.inl (cL, 16, .inr (.inl (fun _ => 0)))) := (fr_207 _ (Ne.symm n_6)).trans h_196
  have h_209 : M_205 q_13 = some (.inl (cL, 16, .inr (.inl (fun _ => 0)))) := (fr_207 _ (Ne.symm n_19)).trans h_197
  have h_210 : M_205 q_28 = some (.inl (cI, 61, .inl (fun _ => 0))) := (fr_207 _ (Ne.symm n_35)).trans h_198
  have h_211 : M_205 q_46 = some (.inl (cI, 61, .inl (fun _ => 0))) := (fr_207 _ (Ne.symm n_54)).trans h_199
  have h_212 : M_205 q_67 = some (.inl (cI, 61, .inl (fun _ => 0))) := (fr_207 _ (Ne.symm n_76)).trans h_200
  have h_213 : M_205 q_91 = some (.inl (cI, 61, .inl (fun _ => 0))) := (fr_207 _ (Ne.symm n_101)).trans h_201
  have h_214 : M_205 q_118 = some (.inl (cI, 61, .inl (fun _ => 0))) := (fr_207 _ (Ne.symm n_129)).trans h_202
  have h_215 : M_205 q_148 = some (.inl (cI, 61, .inl (fun _ => 0))) := (fr_207 _ (Ne.symm n_160)).trans h_203
  have h_216 : M_205 q_181 = some (.inl (cI, 61, .inl (fun _ => 0))) := (fr_207 _ (Ne.symm n_194)).trans h_184
  refine V.rd (pc' := 77) (fun hl => lv_aload_n X.1 X.2.1 d_Model_init_76 rfl (lv_at hl 0 rfl)) ?_
  refine V.go (pc' := 79) (lv_bipush (v := 61) X.1 X.2.1 d_Model_init_77 (by decide)) ?_
  refine V.newa (pc' := 81) (atype := .int) X hK 0 (mcs wd_320) rfl rfl rfl (a0 := (61, .inl (fun _ => 0))) (fun _ => rfl) (by decide) (by decide) (by decide) (by decide) (by decide) d_Model_init_79 rfl (fun q_217 M_218 z_219 h_220 fr_221 => ?_)
  have n_222 : q_1 ≠ q_217 := ne_z h_208 z_219
  have n_223 : q_13 ≠ q_217 := ne_z h_209 z_219
  have n_224 : q_28 ≠ q_217 := ne_z h_210 z_219
  have n_225 : q_46 ≠ q_217 := ne_z h_211 z_219
  have n_226 : q_67 ≠ q_217 := ne_z h_212 z_219
  have n_227 : q_91 ≠ q_217 := ne_z h_213 z_219
  have n_228 : q_118 ≠ q_217 := ne_z h_214 z_219
  have n_229 : q_148 ≠ q_217 := ne_z h_215 z_219
  have n_230 : q_181 ≠ q_217 := ne_z h_216 z_219
  have n_231 : mo ≠ q_217 := ne_z h_206 z_219
  have zb_232 : M q_217 = none := ((fr_207 q_217 (Ne.symm n_231)).trans ((fr_185 q_217 (Ne.symm n_230)).trans ((fr_172 q_217 (Ne.symm n_231)).trans ((fr_152 q_217 (Ne.symm n_229)).trans ((fr_140 q_217 (Ne.symm n_231)).trans ((fr_122 q_217 (Ne.symm n_228)).trans ((fr_111 q_217 (Ne.symm n_231)).trans ((fr_95 q_217 (Ne.symm n_227)).trans ((fr_85 q_217 (Ne.symm n_231)).trans ((fr_71 q_217 (Ne.symm n_226)).trans ((fr_62 q_217 (Ne.symm n_231)).trans ((fr_50 q_217 (Ne.symm n_225)).trans ((fr_42 q_217 (Ne.symm n_231)).trans ((fr_32 q_217 (Ne.symm n_224)).trans ((fr_25 q_217 (Ne.symm n_231)).trans ((fr_17 q_217 (Ne.symm n_223)).trans ((fr_11 q_217 (Ne.symm n_231)).trans ((fr_5 q_217 (Ne.symm n_222)))))))))))))))))))).symm.trans z_219
  have h_233 : M_218 q_1 = some (.inl (cL, 16, .inr (.inl (fun _ => 0)))) := (fr_221 _ n_222).trans h_208
  have h_234 : M_218 q_13 = some (.inl (cL, 16, .inr (.inl (fun _ => 0)))) := (fr_221 _ n_223).trans h_209
  have h_235 : M_218 q_28 = some (.inl (cI, 61, .inl (fun _ => 0))) := (fr_221 _ n_224).trans h_210
  have h_236 : M_218 q_46 = some (.inl (cI, 61, .inl (fun _ => 0))) := (fr_221 _ n_225).trans h_211
  have h_237 : M_218 q_67 = some (.inl (cI, 61, .inl (fun _ => 0))) := (fr_221 _ n_226).trans h_212
  have h_238 : M_218 q_91 = some (.inl (cI, 61, .inl (fun _ => 0))) := (fr_221 _ n_227).trans h_213
  have h_239 : M_218 q_118 = some (.inl (cI, 61, .inl (fun _ => 0))) := (fr_221 _ n_228).trans h_214
  have h_240 : M_218 q_148 = some (.inl (cI, 61, .inl (fun _ => 0))) := (fr_221 _ n_229).trans h_215
  have h_241 : M_218 q_181 = some (.inl (cI, 61, .inl (fun _ => 0))) := (fr_221 _ n_230).trans h_216
  have h_242 : M_218 mo = some (.inr (6, [.int 0, .ref q_1, .ref q_13, .int 0, .int 0, .ref q_28, .ref q_46, .ref q_67, .ref q_91, .ref q_118, .ref q_148, .ref q_181, .null, .null, .null, .null, .null, .null, .null, .null, .null, .null, .int 0, .int 0, .int 0, .int 0, .null, .int 0, .int 0, .int 0, .int 0, .null, .null])) := (fr_221 _ n_231).trans h_206
  refine V.putF (pc' := 84) X hK hnm h_242 uw_Model t_Model tok_Model nm_Model rfl 12 (by decide) (mcs wd_191) rfl rfl rfl rfl (Nat.le_of_ble_eq_true rfl) (fs' := [.int 0, .ref q_1, .ref q_13, .int 0, .int 0, .ref q_28, .ref q_46, .ref q_67, .ref q_91, .ref q_118, .ref q_148, .ref q_181, .ref q_217, .null, .null, .null, .null, .null, .null, .null, .null, .null, .int 0, .int 0, .int 0, .int 0, .null, .int 0, .int 0, .int 0, .int 0, .null, .null]) rfl d_Model_init_81 rfl (fun M_243 h_244 fr_245 => ?_)
  have h_246 : M_243 q_1 = some (.inl (cL, 16, .inr (.inl (fun _ => 0)))) := (fr_245 _ (Ne.symm n_6)).trans h_233
  have h_247 : M_243 q_13 = some (.inl (cL, 16, .inr (.inl (fun _ => 0)))) := (fr_245 _ (Ne.symm n_19)).trans h_234
  have h_248 : M_243 q_28 = some (.inl (cI, 61, .inl (fun _ => 0))) := (fr_245 _ (Ne.symm n_35)).trans h_235
  have h_249 : M_243 q_46 = some (.inl (cI, 61, .inl (fun _ => 0))) := (fr_245 _ (Ne.symm n_54)).trans h_236
  have h_250 : M_243 q_67 = some (.inl (cI, 61, .inl (fun _ => 0))) := (fr_245 _ (Ne.symm n_76)).trans h_237
  have h_251 : M_243 q_91 = some (.inl (cI, 61, .inl (fun _ => 0))) := (fr_245 _ (Ne.symm n_101)).trans h_238
  have h_252 : M_243 q_118 = some (.inl (cI, 61, .inl (fun _ => 0))) := (fr_245 _ (Ne.symm n_129)).trans h_239
  have h_253 : M_243 q_148 = some (.inl (cI, 61, .inl (fun _ => 0))) := (fr_245 _ (Ne.symm n_160)).trans h_240
  have h_254 : M_243 q_181 = some (.inl (cI, 61, .inl (fun _ => 0))) := (fr_245 _ (Ne.symm n_194)).trans h_241
  have h_255 : M_243 q_217 = some (.inl (cI, 61, .inl (fun _ => 0))) := (fr_245 _ (Ne.symm n_231)).trans h_220
  refine V.rd (pc' := 85) (fun hl => lv_aload_n X.1 X.2.1 d_Model_init_84 rfl (lv_at hl 0 rfl)) ?_
  refine V.go (pc' := 87) (lv_bipush (v := 61) X.1 X.2.1 d_Model_init_85 (by decide)) ?_
  refine V.newa (pc' := 89) (atype := .boolean) X hK 3 (mcs wd_360) rfl rfl rfl (a0 := (61, .inl (fun _ => 0))) (fun _ => rfl) (by decide) (by decide) (by decide) (by decide) (by decide) d_Model_init_87 rfl (fun q_256 M_257 z_258 h_259 fr_260 => ?_)
  have n_261 : q_1 ≠ q_256 := ne_z h_246 z_258
  have n_262 : q_13 ≠ q_256 := ne_z h_247 z_258
  have n_263 : q_28 ≠ q_256 := ne_z h_248 z_258
  have n_264 : q_46 ≠ q_256 := ne_z h_249 z_258
  have n_265 : q_67 ≠ q_256 := ne_z h_250 z_258
  have n_266 : q_91 ≠ q_256 := ne_z h_251 z_258
  have n_267 : q_118 ≠ q_256 := ne_z h_252 z_258
  have n_268 : q_148 ≠ q_256 := ne_z h_253 z_258
  have n_269 : q_181 ≠ q_256 := ne_z h_254 z_258
  have n_270 : q_217 ≠ q_256 := ne_z h_255 z_258
  have n_271 : mo ≠ q_256 := ne_z h_244 z_258
  have zb_272 : M q_256 = none := ((fr_245 q_256 (Ne.symm n_271)).trans ((fr_221 q_256 (Ne.symm n_270)).trans ((fr_207 q_256 (Ne.symm n_271)).trans ((fr_185 q_256 (Ne.symm n_269)).trans ((fr_172 q_256 (Ne.symm n_271)).trans ((fr_152 q_256 (Ne.symm n_268)).trans ((fr_140 q_256 (Ne.symm n_271)).trans ((fr_122 q_256 (Ne.symm n_267)).trans ((fr_111 q_256 (Ne.symm n_271)).trans ((fr_95 q_256 (Ne.symm n_266)).trans ((fr_85 q_256 (Ne.symm n_271)).trans ((fr_71 q_256 (Ne.symm n_265)).trans ((fr_62 q_256 (Ne.symm n_271)).trans ((fr_50 q_256 (Ne.symm n_264)).trans ((fr_42 q_256 (Ne.symm n_271)).trans ((fr_32 q_256 (Ne.symm n_263)).trans ((fr_25 q_256 (Ne.symm n_271)).trans ((fr_17 q_256 (Ne.symm n_262)).trans ((fr_11 q_256 (Ne.symm n_271)).trans ((fr_5 q_256 (Ne.symm n_261)))))))))))))))))))))).symm.trans z_258
  have h_273 : M_257 q_1 = some (.inl (cL, 16, .inr (.inl (fun _ => 0)))) := (fr_260 _ n_261).trans h_246
  have h_274 : M_257 q_13 = some (.inl (cL, 16, .inr (.inl (fun _ => 0)))) := (fr_260 _ n_262).trans h_247
  have h_275 : M_257 q_28 = some (.inl (cI, 61, .inl (fun _ => 0))) := (fr_260 _ n_263).trans h_248
  have h_276 : M_257 q_46 = some (.inl (cI, 61, .inl (fun _ => 0))) := (fr_260 _ n_264).trans h_249
  have h_277 : M_257 q_67 = some (.inl (cI, 61, .inl (fun _ => 0))) := (fr_260 _ n_265).trans h_250
  have h_278 : M_257 q_91 = some (.inl (cI, 61, .inl (fun _ => 0))) := (fr_260 _ n_266).trans h_251
  have h_279 : M_257 q_118 = some (.inl (cI, 61, .inl (fun _ => 0))) := (fr_260 _ n_267).trans h_252
  have h_280 : M_257 q_148 = some (.inl (cI, 61, .inl (fun _ => 0))) := (fr_260 _ n_268).trans h_253
  have h_281 : M_257 q_181 = some (.inl (cI, 61, .inl (fun _ => 0))) := (fr_260 _ n_269).trans h_254
  have h_282 : M_257 q_217 = some (.inl (cI, 61, .inl (fun _ => 0))) := (fr_260 _ n_270).trans h_255
  have h_283 : M_257 mo = some (.inr (6, [.int 0, .ref q_1, .ref q_13, .int 0, .int 0, .ref q_28, .ref q_46, .ref q_67, .ref q_91, .ref q_118, .ref q_148, .ref q_181, .ref q_217, .null, .null, .null, .null, .null, .null, .null, .null, .null, .int 0, .int 0, .int 0, .int 0, .null, .int 0, .int 0, .int 0, .int 0, .null, .null])) := (fr_260 _ n_271).trans h_244
  refine V.putF (pc' := 92) X hK hnm h_283 uw_Model t_Model tok_Model nm_Model rfl 13 (by decide) (mcs wd_188) rfl rfl rfl rfl (Nat.le_of_ble_eq_true rfl) (fs' := [.int 0, .ref q_1, .ref q_13, .int 0, .int 0, .ref q_28, .ref q_46, .ref q_67, .ref q_91, .ref q_118, .ref q_148, .ref q_181, .ref q_217, .ref q_256, .null, .null, .null, .null, .null, .null, .null, .null, .int 0, .int 0, .int 0, .int 0, .null, .int 0, .int 0, .int 0, .int 0, .null, .null]) rfl d_Model_init_89 rfl (fun M_284 h_285 fr_286 => ?_)
  have h_287 : M_284 q_1 = some (.inl (cL, 16, .inr (.inl (fun _ => 0)))) := (fr_286 _ (Ne.symm n_6)).trans h_273
  have h_288 : M_284 q_13 = some (.inl (cL, 16, .inr (.inl (fun _ => 0)))) := (fr_286 _ (Ne.symm n_19)).trans h_274
  have h_289 : M_284 q_28 = some (.inl (cI, 61, .inl (fun _ => 0))) := (fr_286 _ (Ne.symm n_35)).trans h_275
  have h_290 : M_284 q_46 = some (.inl (cI, 61, .inl (fun _ => 0))) := (fr_286 _ (Ne.symm n_54)).trans h_276
  have h_291 : M_284 q_67 = some (.inl (cI, 61, .inl (fun _ => 0))) := (fr_286 _ (Ne.symm n_76)).trans h_277
  have h_292 : M_284 q_91 = some (.inl (cI, 61, .inl (fun _ => 0))) := (fr_286 _ (Ne.symm n_101)).trans h_278
  have h_293 : M_284 q_118 = some (.inl (cI, 61, .inl (fun _ => 0))) := (fr_286 _ (Ne.symm n_129)).trans h_279
  have h_294 : M_284 q_148 = some (.inl (cI, 61, .inl (fun _ => 0))) := (fr_286 _ (Ne.symm n_160)).trans h_280
  have h_295 : M_284 q_181 = some (.inl (cI, 61, .inl (fun _ => 0))) := (fr_286 _ (Ne.symm n_194)).trans h_281
  have h_296 : M_284 q_217 = some (.inl (cI, 61, .inl (fun _ => 0))) := (fr_286 _ (Ne.symm n_231)).trans h_282
  have h_297 : M_284 q_256 = some (.inl (cB, 61, .inl (fun _ => 0))) := (fr_286 _ (Ne.symm n_271)).trans h_259
  refine V.rd (pc' := 93) (fun hl => lv_aload_n X.1 X.2.1 d_Model_init_92 rfl (lv_at hl 0 rfl)) ?_
  refine V.go (pc' := 96) (lv_sipush (v := 488) X.1 X.2.1 d_Model_init_93 (by decide)) ?_
  refine V.newa (pc' := 98) (atype := .int) X hK 0 (mcs wd_320) rfl rfl rfl (a0 := (488, .inl (fun _ => 0))) (fun _ => rfl) (by decide) (by decide) (by decide) (by decide) (by decide) d_Model_init_96 rfl (fun q_298 M_299 z_300 h_301 fr_302 => ?_)
  have n_303 : q_1 ≠ q_298 := ne_z h_287 z_300
  have n_304 : q_13 ≠ q_298 := ne_z h_288 z_300
  have n_305 : q_28 ≠ q_298 := ne_z h_289 z_300
  have n_306 : q_46 ≠ q_298 := ne_z h_290 z_300
  have n_307 : q_67 ≠ q_298 := ne_z h_291 z_300
  have n_308 : q_91 ≠ q_298 := ne_z h_292 z_300
  have n_309 : q_118 ≠ q_298 := ne_z h_293 z_300
  have n_310 : q_148 ≠ q_298 := ne_z h_294 z_300
  have n_311 : q_181 ≠ q_298 := ne_z h_295 z_300
  have n_312 : q_217 ≠ q_298 := ne_z h_296 z_300
  have n_313 : q_256 ≠ q_298 := ne_z h_297 z_300
  have n_314 : mo ≠ q_298 := ne_z h_285 z_300
  have zb_315 : M q_298 = none := ((fr_286 q_298 (Ne.symm n_314)).trans ((fr_260 q_298 (Ne.symm n_313)).trans ((fr_245 q_298 (Ne.symm n_314)).trans ((fr_221 q_298 (Ne.symm n_312)).trans ((fr_207 q_298 (Ne.symm n_314)).trans ((fr_185 q_298 (Ne.symm n_311)).trans ((fr_172 q_298 (Ne.symm n_314)).trans ((fr_152 q_298 (Ne.symm n_310)).trans ((fr_140 q_298 (Ne.symm n_314)).trans ((fr_122 q_298 (Ne.symm n_309)).trans ((fr_111 q_298 (Ne.symm n_314)).trans ((fr_95 q_298 (Ne.symm n_308)).trans ((fr_85 q_298 (Ne.symm n_314)).trans ((fr_71 q_298 (Ne.symm n_307)).trans ((fr_62 q_298 (Ne.symm n_314)).trans ((fr_50 q_298 (Ne.symm n_306)).trans ((fr_42 q_298 (Ne.symm n_314)).trans ((fr_32 q_298 (Ne.symm n_305)).trans ((fr_25 q_298 (Ne.symm n_314)).trans ((fr_17 q_298 (Ne.symm n_304)).trans ((fr_11 q_298 (Ne.symm n_314)).trans ((fr_5 q_298 (Ne.symm n_303)))))))))))))))))))))))).symm.trans z_300
  have h_316 : M_299 q_1 = some (.inl (cL, 16, .inr (.inl (fun _ => 0)))) := (fr_302 _ n_303).trans h_287
  have h_317 : M_299 q_13 = some (.inl (cL, 16, .inr (.inl (fun _ => 0)))) := (fr_302 _ n_304).trans h_288
  have h_318 : M_299 q_28 = some (.inl (cI, 61, .inl (fun _ => 0))) := (fr_302 _ n_305).trans h_289
  have h_319 : M_299 q_46 = some (.inl (cI, 61, .inl (fun _ => 0))) := (fr_302 _ n_306).trans h_290
  have h_320 : M_299 q_67 = some (.inl (cI, 61, .inl (fun _ => 0))) := (fr_302 _ n_307).trans h_291
  have h_321 : M_299 q_91 = some (.inl (cI, 61, .inl (fun _ => 0))) := (fr_302 _ n_308).trans h_292
  have h_322 : M_299 q_118 = some (.inl (cI, 61, .inl (fun _ => 0))) := (fr_302 _ n_309).trans h_293
  have h_323 : M_299 q_148 = some (.inl (cI, 61, .inl (fun _ => 0))) := (fr_302 _ n_310).trans h_294
  have h_324 : M_299 q_181 = some (.inl (cI, 61, .inl (fun _ => 0))) := (fr_302 _ n_311).trans h_295
  have h_325 : M_299 q_217 = some (.inl (cI, 61, .inl (fun _ => 0))) := (fr_302 _ n_312).trans h_296
  have h_326 : M_299 q_256 = some (.inl (cB, 61, .inl (fun _ => 0))) := (fr_302 _ n_313).trans h_297
  have h_327 : M_299 mo = some (.inr (6, [.int 0, .ref q_1, .ref q_13, .int 0, .int 0, .ref q_28, .ref q_46, .ref q_67, .ref q_91, .ref q_118, .ref q_148, .ref q_181, .ref q_217, .ref q_256, .null, .null, .null, .null, .null, .null, .null, .null, .int 0, .int 0, .int 0, .int 0, .null, .int 0, .int 0, .int 0, .int 0, .null, .null])) := (fr_302 _ n_314).trans h_285
  refine V.putF (pc' := 101) X hK hnm h_327 uw_Model t_Model tok_Model nm_Model rfl 14 (by decide) (mcs wd_189) rfl rfl rfl rfl (Nat.le_of_ble_eq_true rfl) (fs' := [.int 0, .ref q_1, .ref q_13, .int 0, .int 0, .ref q_28, .ref q_46, .ref q_67, .ref q_91, .ref q_118, .ref q_148, .ref q_181, .ref q_217, .ref q_256, .ref q_298, .null, .null, .null, .null, .null, .null, .null, .int 0, .int 0, .int 0, .int 0, .null, .int 0, .int 0, .int 0, .int 0, .null, .null]) rfl d_Model_init_98 rfl (fun M_328 h_329 fr_330 => ?_)
  have h_331 : M_328 q_1 = some (.inl (cL, 16, .inr (.inl (fun _ => 0)))) := (fr_330 _ (Ne.symm n_6)).trans h_316
  have h_332 : M_328 q_13 = some (.inl (cL, 16, .inr (.inl (fun _ => 0)))) := (fr_330 _ (Ne.symm n_19)).trans h_317
  have h_333 : M_328 q_28 = some (.inl (cI, 61, .inl (fun _ => 0))) := (fr_330 _ (Ne.symm n_35)).trans h_318
  have h_334 : M_328 q_46 = some (.inl (cI, 61, .inl (fun _ => 0))) := (fr_330 _ (Ne.symm n_54)).trans h_319
  have h_335 : M_328 q_67 = some (.inl (cI, 61, .inl (fun _ => 0))) := (fr_330 _ (Ne.symm n_76)).trans h_320
  have h_336 : M_328 q_91 = some (.inl (cI, 61, .inl (fun _ => 0))) := (fr_330 _ (Ne.symm n_101)).trans h_321
  have h_337 : M_328 q_118 = some (.inl (cI, 61, .inl (fun _ => 0))) := (fr_330 _ (Ne.symm n_129)).trans h_322
  have h_338 : M_328 q_148 = some (.inl (cI, 61, .inl (fun _ => 0))) := (fr_330 _ (Ne.symm n_160)).trans h_323
  have h_339 : M_328 q_181 = some (.inl (cI, 61, .inl (fun _ => 0))) := (fr_330 _ (Ne.symm n_194)).trans h_324
  have h_340 : M_328 q_217 = some (.inl (cI, 61, .inl (fun _ => 0))) := (fr_330 _ (Ne.symm n_231)).trans h_325
  have h_341 : M_328 q_256 = some (.inl (cB, 61, .inl (fun _ => 0))) := (fr_330 _ (Ne.symm n_271)).trans h_326
  have h_342 : M_328 q_298 = some (.inl (cI, 488, .inl (fun _ => 0))) := (fr_330 _ (Ne.symm n_314)).trans h_301
  refine V.rd (pc' := 102) (fun hl => lv_aload_n X.1 X.2.1 d_Model_init_101 rfl (lv_at hl 0 rfl)) ?_
  refine V.go (pc' := 105) (lv_sipush (v := 488) X.1 X.2.1 d_Model_init_102 (by decide)) ?_
  refine V.newa (pc' := 107) (atype := .int) X hK 0 (mcs wd_320) rfl rfl rfl (a0 := (488, .inl (fun _ => 0))) (fun _ => rfl) (by decide) (by decide) (by decide) (by decide) (by decide) d_Model_init_105 rfl (fun q_343 M_344 z_345 h_346 fr_347 => ?_)
  have n_348 : q_1 ≠ q_343 := ne_z h_331 z_345
  have n_349 : q_13 ≠ q_343 := ne_z h_332 z_345
  have n_350 : q_28 ≠ q_343 := ne_z h_333 z_345
  have n_351 : q_46 ≠ q_343 := ne_z h_334 z_345
  have n_352 : q_67 ≠ q_343 := ne_z h_335 z_345
  have n_353 : q_91 ≠ q_343 := ne_z h_336 z_345
  have n_354 : q_118 ≠ q_343 := ne_z h_337 z_345
  have n_355 : q_148 ≠ q_343 := ne_z h_338 z_345
  have n_356 : q_181 ≠ q_343 := ne_z h_339 z_345
  have n_357 : q_217 ≠ q_343 := ne_z h_340 z_345
  have n_358 : q_256 ≠ q_343 := ne_z h_341 z_345
  have n_359 : q_298 ≠ q_343 := ne_z h_342 z_345
  have n_360 : mo ≠ q_343 := ne_z h_329 z_345
  have zb_361 : M q_343 = none := ((fr_330 q_343 (Ne.symm n_360)).trans ((fr_302 q_343 (Ne.symm n_359)).trans ((fr_286 q_343 (Ne.symm n_360)).trans ((fr_260 q_343 (Ne.symm n_358)).trans ((fr_245 q_343 (Ne.symm n_360)).trans ((fr_221 q_343 (Ne.symm n_357)).trans ((fr_207 q_343 (Ne.symm n_360)).trans ((fr_185 q_343 (Ne.symm n_356)).trans ((fr_172 q_343 (Ne.symm n_360)).trans ((fr_152 q_343 (Ne.symm n_355)).trans ((fr_140 q_343 (Ne.symm n_360)).trans ((fr_122 q_343 (Ne.symm n_354)).trans ((fr_111 q_343 (Ne.symm n_360)).trans ((fr_95 q_343 (Ne.symm n_353)).trans ((fr_85 q_343 (Ne.symm n_360)).trans ((fr_71 q_343 (Ne.symm n_352)).trans ((fr_62 q_343 (Ne.symm n_360)).trans ((fr_50 q_343 (Ne.symm n_351)).trans ((fr_42 q_343 (Ne.symm n_360)).trans ((fr_32 q_343 (Ne.symm n_350)).trans ((fr_25 q_343 (Ne.symm n_360)).trans ((fr_17 q_343 (Ne.symm n_349)).trans ((fr_11 q_343 (Ne.symm n_360)).trans ((fr_5 q_343 (Ne.symm n_348)))))))))))))))))))))))))).symm.trans z_345
  have h_362 : M_344 q_1 = some (.inl (cL, 16, .inr (.inl (fun _ => 0)))) := (fr_347 _ n_348).trans h_331
  have h_363 : M_344 q_13 = some (.inl (cL, 16, .inr (.inl (fun _ => 0)))) := (fr_347 _ n_349).trans h_332
  have h_364 : M_344 q_28 = some (.inl (cI, 61, .inl (fun _ => 0))) := (fr_347 _ n_350).trans h_333
  have h_365 : M_344 q_46 = some (.inl (cI, 61, .inl (fun _ => 0))) := (fr_347 _ n_351).trans h_334
  have h_366 : M_344 q_67 = some (.inl (cI, 61, .inl (fun _ => 0))) := (fr_347 _ n_352).trans h_335
  have h_367 : M_344 q_91 = some (.inl (cI, 61, .inl (fun _ => 0))) := (fr_347 _ n_353).trans h_336
  have h_368 : M_344 q_118 = some (.inl (cI, 61, .inl (fun _ => 0))) := (fr_347 _ n_354).trans h_337
  have h_369 : M_344 q_148 = some (.inl (cI, 61, .inl (fun _ => 0))) := (fr_347 _ n_355).trans h_338
  have h_370 : M_344 q_181 = some (.inl (cI, 61, .inl (fun _ => 0))) := (fr_347 _ n_356).trans h_339
  have h_371 : M_344 q_217 = some (.inl (cI, 61, .inl (fun _ => 0))) := (fr_347 _ n_357).trans h_340
  have h_372 : M_344 q_256 = some (.inl (cB, 61, .inl (fun _ => 0))) := (fr_347 _ n_358).trans h_341
  have h_373 : M_344 q_298 = some (.inl (cI, 488, .inl (fun _ => 0))) := (fr_347 _ n_359).trans h_342
  have h_374 : M_344 mo = some (.inr (6, [.int 0, .ref q_1, .ref q_13, .int 0, .int 0, .ref q_28, .ref q_46, .ref q_67, .ref q_91, .ref q_118, .ref q_148, .ref q_181, .ref q_217, .ref q_256, .ref q_298, .null, .null, .null, .null, .null, .null, .null, .int 0, .int 0, .int 0, .int 0, .null, .int 0, .int 0, .int 0, .int 0, .null, .null])) := (fr_347 _ n_360).trans h_329
  refine V.putF (pc' := 110) X hK hnm h_374 uw_Model t_Model tok_Model nm_Model rfl 15 (by decide) (mcs wd_192) rfl rfl rfl rfl (Nat.le_of_ble_eq_true rfl) (fs' := [.int 0, .ref q_1, .ref q_13, .int 0, .int 0, .ref q_28, .ref q_46, .ref q_67, .ref q_91, .ref q_118, .ref q_148, .ref q_181, .ref q_217, .ref q_256, .ref q_298, .ref q_343, .null, .null, .null, .null, .null, .null, .int 0, .int 0, .int 0, .int 0, .null, .int 0, .int 0, .int 0, .int 0, .null, .null]) rfl d_Model_init_107 rfl (fun M_375 h_376 fr_377 => ?_)
  have h_378 : M_375 q_1 = some (.inl (cL, 16, .inr (.inl (fun _ => 0)))) := (fr_377 _ (Ne.symm n_6)).trans h_362
  have h_379 : M_375 q_13 = some (.inl (cL, 16, .inr (.inl (fun _ => 0)))) := (fr_377 _ (Ne.symm n_19)).trans h_363
  have h_380 : M_375 q_28 = some (.inl (cI, 61, .inl (fun _ => 0))) := (fr_377 _ (Ne.symm n_35)).trans h_364
  have h_381 : M_375 q_46 = some (.inl (cI, 61, .inl (fun _ => 0))) := (fr_377 _ (Ne.symm n_54)).trans h_365
  have h_382 : M_375 q_67 = some (.inl (cI, 61, .inl (fun _ => 0))) := (fr_377 _ (Ne.symm n_76)).trans h_366
  have h_383 : M_375 q_91 = some (.inl (cI, 61, .inl (fun _ => 0))) := (fr_377 _ (Ne.symm n_101)).trans h_367
  have h_384 : M_375 q_118 = some (.inl (cI, 61, .inl (fun _ => 0))) := (fr_377 _ (Ne.symm n_129)).trans h_368
  have h_385 : M_375 q_148 = some (.inl (cI, 61, .inl (fun _ => 0))) := (fr_377 _ (Ne.symm n_160)).trans h_369
  have h_386 : M_375 q_181 = some (.inl (cI, 61, .inl (fun _ => 0))) := (fr_377 _ (Ne.symm n_194)).trans h_370
  have h_387 : M_375 q_217 = some (.inl (cI, 61, .inl (fun _ => 0))) := (fr_377 _ (Ne.symm n_231)).trans h_371
  have h_388 : M_375 q_256 = some (.inl (cB, 61, .inl (fun _ => 0))) := (fr_377 _ (Ne.symm n_271)).trans h_372
  have h_389 : M_375 q_298 = some (.inl (cI, 488, .inl (fun _ => 0))) := (fr_377 _ (Ne.symm n_314)).trans h_373
  have h_390 : M_375 q_343 = some (.inl (cI, 488, .inl (fun _ => 0))) := (fr_377 _ (Ne.symm n_360)).trans h_346
  refine V.rd (pc' := 111) (fun hl => lv_aload_n X.1 X.2.1 d_Model_init_110 rfl (lv_at hl 0 rfl)) ?_
  refine V.go (pc' := 114) (lv_sipush (v := 488) X.1 X.2.1 d_Model_init_111 (by decide)) ?_
  refine V.newa (pc' := 116) (atype := .long) X hK 1 (mcs wd_317) rfl rfl rfl (a0 := (488, .inr (.inl (fun _ => 0)))) (fun _ => rfl) (by decide) (by decide) (by decide) (by decide) (by decide) d_Model_init_114 rfl (fun q_391 M_392 z_393 h_394 fr_395 => ?_)
  have n_396 : q_1 ≠ q_391 := ne_z h_378 z_393
  have n_397 : q_13 ≠ q_391 := ne_z h_379 z_393
  have n_398 : q_28 ≠ q_391 := ne_z h_380 z_393
  have n_399 : q_46 ≠ q_391 := ne_z h_381 z_393
  have n_400 : q_67 ≠ q_391 := ne_z h_382 z_393
  have n_401 : q_91 ≠ q_391 := ne_z h_383 z_393
  have n_402 : q_118 ≠ q_391 := ne_z h_384 z_393
  have n_403 : q_148 ≠ q_391 := ne_z h_385 z_393
  have n_404 : q_181 ≠ q_391 := ne_z h_386 z_393
  have n_405 : q_217 ≠ q_391 := ne_z h_387 z_393
  have n_406 : q_256 ≠ q_391 := ne_z h_388 z_393
  have n_407 : q_298 ≠ q_391 := ne_z h_389 z_393
  have n_408 : q_343 ≠ q_391 := ne_z h_390 z_393
  have n_409 : mo ≠ q_391 := ne_z h_376 z_393
  have zb_410 : M q_391 = none := ((fr_377 q_391 (Ne.symm n_409)).trans ((fr_347 q_391 (Ne.symm n_408)).trans ((fr_330 q_391 (Ne.symm n_409)).trans ((fr_302 q_391 (Ne.symm n_407)).trans ((fr_286 q_391 (Ne.symm n_409)).trans ((fr_260 q_391 (Ne.symm n_406)).trans ((fr_245 q_391 (Ne.symm n_409)).trans ((fr_221 q_391 (Ne.symm n_405)).trans ((fr_207 q_391 (Ne.symm n_409)).trans ((fr_185 q_391 (Ne.symm n_404)).trans ((fr_172 q_391 (Ne.symm n_409)).trans ((fr_152 q_391 (Ne.symm n_403)).trans ((fr_140 q_391 (Ne.symm n_409)).trans ((fr_122 q_391 (Ne.symm n_402)).trans ((fr_111 q_391 (Ne.symm n_409)).trans ((fr_95 q_391 (Ne.symm n_401)).trans ((fr_85 q_391 (Ne.symm n_409)).trans ((fr_71 q_391 (Ne.symm n_400)).trans ((fr_62 q_391 (Ne.symm n_409)).trans ((fr_50 q_391 (Ne.symm n_399)).trans ((fr_42 q_391 (Ne.symm n_409)).trans ((fr_32 q_391 (Ne.symm n_398)).trans ((fr_25 q_391 (Ne.symm n_409)).trans ((fr_17 q_391 (Ne.symm n_397)).trans ((fr_11 q_391 (Ne.symm n_409)).trans ((fr_5 q_391 (Ne.symm n_396)))))))))))))))))))))))))))).symm.trans z_393
  have h_411 : M_392 q_1 = some (.inl (cL, 16, .inr (.inl (fun _ => 0)))) := (fr_395 _ n_396).trans h_378
  have h_412 : M_392 q_13 = some (.inl (cL, 16, .inr (.inl (fun _ => 0)))) := (fr_395 _ n_397).trans h_379
  have h_413 : M_392 q_28 = some (.inl (cI, 61, .inl (fun _ => 0))) := (fr_395 _ n_398).trans h_380
  have h_414 : M_392 q_46 = some (.inl (cI, 61, .inl (fun _ => 0))) := (fr_395 _ n_399).trans h_381
  have h_415 : M_392 q_67 = some (.inl (cI, 61, .inl (fun _ => 0))) := (fr_395 _ n_400).trans h_382
  have h_416 : M_392 q_91 = some (.inl (cI, 61, .inl (fun _ => 0))) := (fr_395 _ n_401).trans h_383
  have h_417 : M_392 q_118 = some (.inl (cI, 61, .inl (fun _ => 0))) := (fr_395 _ n_402).trans h_384
  have h_418 : M_392 q_148 = some (.inl (cI, 61, .inl (fun _ => 0))) := (fr_395 _ n_403).trans h_385
  have h_419 : M_392 q_181 = some (.inl (cI, 61, .inl (fun _ => 0))) := (fr_395 _ n_404).trans h_386
  have h_420 : M_392 q_217 = some (.inl (cI, 61, .inl (fun _ => 0))) := (fr_395 _ n_405).trans h_387
  have h_421 : M_392 q_256 = some (.inl (cB, 61, .inl (fun _ => 0))) := (fr_395 _ n_406).trans h_388
  have h_422 : M_392 q_298 = some (.inl (cI, 488, .inl (fun _ => 0))) := (fr_395 _ n_407).trans h_389
  have h_423 : M_392 q_343 = some (.inl (cI, 488, .inl (fun _ => 0))) := (fr_395 _ n_408).trans h_390
  have h_424 : M_392 mo = some (.inr (6, [.int 0, .ref q_1, .ref q_13, .int 0, .int 0, .ref q_28, .ref q_46, .ref q_67, .ref q_91, .ref q_118, .ref q_148, .ref q_181, .ref q_217, .ref q_256, .ref q_298, .ref q_343, .null, .null, .null, .null, .null, .null, .int 0, .int 0, .int 0, .int 0, .null, .int 0, .int 0, .int 0, .int 0, .null, .null])) := (fr_395 _ n_409).trans h_376
  refine V.putF (pc' := 119) X hK hnm h_424 uw_Model t_Model tok_Model nm_Model rfl 16 (by decide) (mcs wd_190) rfl rfl rfl rfl (Nat.le_of_ble_eq_true rfl) (fs' := [.int 0, .ref q_1, .ref q_13, .int 0, .int 0, .ref q_28, .ref q_46, .ref q_67, .ref q_91, .ref q_118, .ref q_148, .ref q_181, .ref q_217, .ref q_256, .ref q_298, .ref q_343, .ref q_391, .null, .null, .null, .null, .null, .int 0, .int 0, .int 0, .int 0, .null, .int 0, .int 0, .int 0, .int 0, .null, .null]) rfl d_Model_init_116 rfl (fun M_425 h_426 fr_427 => ?_)
  have h_428 : M_425 q_1 = some (.inl (cL, 16, .inr (.inl (fun _ => 0)))) := (fr_427 _ (Ne.symm n_6)).trans h_411
  have h_429 : M_425 q_13 = some (.inl (cL, 16, .inr (.inl (fun _ => 0)))) := (fr_427 _ (Ne.symm n_19)).trans h_412
  have h_430 : M_425 q_28 = some (.inl (cI, 61, .inl (fun _ => 0))) := (fr_427 _ (Ne.symm n_35)).trans h_413
  have h_431 : M_425 q_46 = some (.inl (cI, 61, .inl (fun _ => 0))) := (fr_427 _ (Ne.symm n_54)).trans h_414
  have h_432 : M_425 q_67 = some (.inl (cI, 61, .inl (fun _ => 0))) := (fr_427 _ (Ne.symm n_76)).trans h_415
  have h_433 : M_425 q_91 = some (.inl (cI, 61, .inl (fun _ => 0))) := (fr_427 _ (Ne.symm n_101)).trans h_416
  have h_434 : M_425 q_118 = some (.inl (cI, 61, .inl (fun _ => 0))) := (fr_427 _ (Ne.symm n_129)).trans h_417
  have h_435 : M_425 q_148 = some (.inl (cI, 61, .inl (fun _ => 0))) := (fr_427 _ (Ne.symm n_160)).trans h_418
  have h_436 : M_425 q_181 = some (.inl (cI, 61, .inl (fun _ => 0))) := (fr_427 _ (Ne.symm n_194)).trans h_419
  have h_437 : M_425 q_217 = some (.inl (cI, 61, .inl (fun _ => 0))) := (fr_427 _ (Ne.symm n_231)).trans h_420
  have h_438 : M_425 q_256 = some (.inl (cB, 61, .inl (fun _ => 0))) := (fr_427 _ (Ne.symm n_271)).trans h_421
  have h_439 : M_425 q_298 = some (.inl (cI, 488, .inl (fun _ => 0))) := (fr_427 _ (Ne.symm n_314)).trans h_422
  have h_440 : M_425 q_343 = some (.inl (cI, 488, .inl (fun _ => 0))) := (fr_427 _ (Ne.symm n_360)).trans h_423
  have h_441 : M_425 q_391 = some (.inl (cL, 488, .inr (.inl (fun _ => 0)))) := (fr_427 _ (Ne.symm n_409)).trans h_394
  refine V.rd (pc' := 120) (fun hl => lv_aload_n X.1 X.2.1 d_Model_init_119 rfl (lv_at hl 0 rfl)) ?_
  refine V.go (pc' := 123) (lv_sipush (v := 488) X.1 X.2.1 d_Model_init_120 (by decide)) ?_
  refine V.newa (pc' := 125) (atype := .long) X hK 1 (mcs wd_317) rfl rfl rfl (a0 := (488, .inr (.inl (fun _ => 0)))) (fun _ => rfl) (by decide) (by decide) (by decide) (by decide) (by decide) d_Model_init_123 rfl (fun q_442 M_443 z_444 h_445 fr_446 => ?_)
  have n_447 : q_1 ≠ q_442 := ne_z h_428 z_444
  have n_448 : q_13 ≠ q_442 := ne_z h_429 z_444
  have n_449 : q_28 ≠ q_442 := ne_z h_430 z_444
  have n_450 : q_46 ≠ q_442 := ne_z h_431 z_444
  have n_451 : q_67 ≠ q_442 := ne_z h_432 z_444
  have n_452 : q_91 ≠ q_442 := ne_z h_433 z_444
  have n_453 : q_118 ≠ q_442 := ne_z h_434 z_444
  have n_454 : q_148 ≠ q_442 := ne_z h_435 z_444
  have n_455 : q_181 ≠ q_442 := ne_z h_436 z_444
  have n_456 : q_217 ≠ q_442 := ne_z h_437 z_444
  have n_457 : q_256 ≠ q_442 := ne_z h_438 z_444
  have n_458 : q_298 ≠ q_442 := ne_z h_439 z_444
  have n_459 : q_343 ≠ q_442 := ne_z h_440 z_444
  have n_460 : q_391 ≠ q_442 := ne_z h_441 z_444
  have n_461 : mo ≠ q_442 := ne_z h_426 z_444
  have zb_462 : M q_442 = none := ((fr_427 q_442 (Ne.symm n_461)).trans ((fr_395 q_442 (Ne.symm n_460)).trans ((fr_377 q_442 (Ne.symm n_461)).trans ((fr_347 q_442 (Ne.symm n_459)).trans ((fr_330 q_442 (Ne.symm n_461)).trans ((fr_302 q_442 (Ne.symm n_458)).trans ((fr_286 q_442 (Ne.symm n_461)).trans ((fr_260 q_442 (Ne.symm n_457)).trans ((fr_245 q_442 (Ne.symm n_461)).trans ((fr_221 q_442 (Ne.symm n_456)).trans ((fr_207 q_442 (Ne.symm n_461)).trans ((fr_185 q_442 (Ne.symm n_455)).trans ((fr_172 q_442 (Ne.symm n_461)).trans ((fr_152 q_442 (Ne.symm n_454)).trans ((fr_140 q_442 (Ne.symm n_461)).trans ((fr_122 q_442 (Ne.symm n_453)).trans ((fr_111 q_442 (Ne.symm n_461)).trans ((fr_95 q_442 (Ne.symm n_452)).trans ((fr_85 q_442 (Ne.symm n_461)).trans ((fr_71 q_442 (Ne.symm n_451)).trans ((fr_62 q_442 (Ne.symm n_461)).trans ((fr_50 q_442 (Ne.symm n_450)).trans ((fr_42 q_442 (Ne.symm n_461)).trans ((fr_32 q_442 (Ne.symm n_449)).trans ((fr_25 q_442 (Ne.symm n_461)).trans ((fr_17 q_442 (Ne.symm n_448)).trans ((fr_11 q_442 (Ne.symm n_461)).trans ((fr_5 q_442 (Ne.symm n_447)))))))))))))))))))))))))))))).symm.trans z_444
  have h_463 : M_443 q_1 = some (.inl (cL, 16, .inr (.inl (fun _ => 0)))) := (fr_446 _ n_447).trans h_428
  have h_464 : M_443 q_13 = some (.inl (cL, 16, .inr (.inl (fun _ => 0)))) := (fr_446 _ n_448).trans h_429
  have h_465 : M_443 q_28 = some (.inl (cI, 61, .inl (fun _ => 0))) := (fr_446 _ n_449).trans h_430
  have h_466 : M_443 q_46 = some (.inl (cI, 61, .inl (fun _ => 0))) := (fr_446 _ n_450).trans h_431
  have h_467 : M_443 q_67 = some (.inl (cI, 61, .inl (fun _ => 0))) := (fr_446 _ n_451).trans h_432
  have h_468 : M_443 q_91 = some (.inl (cI, 61, .inl (fun _ => 0))) := (fr_446 _ n_452).trans h_433
  have h_469 : M_443 q_118 = some (.inl (cI, 61, .inl (fun _ => 0))) := (fr_446 _ n_453).trans h_434
  have h_470 : M_443 q_148 = some (.inl (cI, 61, .inl (fun _ => 0))) := (fr_446 _ n_454).trans h_435
  have h_471 : M_443 q_181 = some (.inl (cI, 61, .inl (fun _ => 0))) := (fr_446 _ n_455).trans h_436
  have h_472 : M_443 q_217 = some (.inl (cI, 61, .inl (fun _ => 0))) := (fr_446 _ n_456).trans h_437
  have h_473 : M_443 q_256 = some (.inl (cB, 61, .inl (fun _ => 0))) := (fr_446 _ n_457).trans h_438
  have h_474 : M_443 q_298 = some (.inl (cI, 488, .inl (fun _ => 0))) := (fr_446 _ n_458).trans h_439
  have h_475 : M_443 q_343 = some (.inl (cI, 488, .inl (fun _ => 0))) := (fr_446 _ n_459).trans h_440
  have h_476 : M_443 q_391 = some (.inl (cL, 488, .inr (.inl (fun _ => 0)))) := (fr_446 _ n_460).trans h_441
  have h_477 : M_443 mo = some (.inr (6, [.int 0, .ref q_1, .ref q_13, .int 0, .int 0, .ref q_28, .ref q_46, .ref q_67, .ref q_91, .ref q_118, .ref q_148, .ref q_181, .ref q_217, .ref q_256, .ref q_298, .ref q_343, .ref q_391, .null, .null, .null, .null, .null, .int 0, .int 0, .int 0, .int 0, .null, .int 0, .int 0, .int 0, .int 0, .null, .null])) := (fr_446 _ n_461).trans h_426
  refine V.putF (pc' := 128) X hK hnm h_477 uw_Model t_Model tok_Model nm_Model rfl 17 (by decide) (mcs wd_193) rfl rfl rfl rfl (Nat.le_of_ble_eq_true rfl) (fs' := [.int 0, .ref q_1, .ref q_13, .int 0, .int 0, .ref q_28, .ref q_46, .ref q_67, .ref q_91, .ref q_118, .ref q_148, .ref q_181, .ref q_217, .ref q_256, .ref q_298, .ref q_343, .ref q_391, .ref q_442, .null, .null, .null, .null, .int 0, .int 0, .int 0, .int 0, .null, .int 0, .int 0, .int 0, .int 0, .null, .null]) rfl d_Model_init_125 rfl (fun M_478 h_479 fr_480 => ?_)
  have h_481 : M_478 q_1 = some (.inl (cL, 16, .inr (.inl (fun _ => 0)))) := (fr_480 _ (Ne.symm n_6)).trans h_463
  have h_482 : M_478 q_13 = some (.inl (cL, 16, .inr (.inl (fun _ => 0)))) := (fr_480 _ (Ne.symm n_19)).trans h_464
  have h_483 : M_478 q_28 = some (.inl (cI, 61, .inl (fun _ => 0))) := (fr_480 _ (Ne.symm n_35)).trans h_465
  have h_484 : M_478 q_46 = some (.inl (cI, 61, .inl (fun _ => 0))) := (fr_480 _ (Ne.symm n_54)).trans h_466
  have h_485 : M_478 q_67 = some (.inl (cI, 61, .inl (fun _ => 0))) := (fr_480 _ (Ne.symm n_76)).trans h_467
  have h_486 : M_478 q_91 = some (.inl (cI, 61, .inl (fun _ => 0))) := (fr_480 _ (Ne.symm n_101)).trans h_468
  have h_487 : M_478 q_118 = some (.inl (cI, 61, .inl (fun _ => 0))) := (fr_480 _ (Ne.symm n_129)).trans h_469
  have h_488 : M_478 q_148 = some (.inl (cI, 61, .inl (fun _ => 0))) := (fr_480 _ (Ne.symm n_160)).trans h_470
  have h_489 : M_478 q_181 = some (.inl (cI, 61, .inl (fun _ => 0))) := (fr_480 _ (Ne.symm n_194)).trans h_471
  have h_490 : M_478 q_217 = some (.inl (cI, 61, .inl (fun _ => 0))) := (fr_480 _ (Ne.symm n_231)).trans h_472
  have h_491 : M_478 q_256 = some (.inl (cB, 61, .inl (fun _ => 0))) := (fr_480 _ (Ne.symm n_271)).trans h_473
  have h_492 : M_478 q_298 = some (.inl (cI, 488, .inl (fun _ => 0))) := (fr_480 _ (Ne.symm n_314)).trans h_474
  have h_493 : M_478 q_343 = some (.inl (cI, 488, .inl (fun _ => 0))) := (fr_480 _ (Ne.symm n_360)).trans h_475
  have h_494 : M_478 q_391 = some (.inl (cL, 488, .inr (.inl (fun _ => 0)))) := (fr_480 _ (Ne.symm n_409)).trans h_476
  have h_495 : M_478 q_442 = some (.inl (cL, 488, .inr (.inl (fun _ => 0)))) := (fr_480 _ (Ne.symm n_461)).trans h_445
  refine V.rd (pc' := 129) (fun hl => lv_aload_n X.1 X.2.1 d_Model_init_128 rfl (lv_at hl 0 rfl)) ?_
  refine V.go (pc' := 132) (lv_sipush (v := 488) X.1 X.2.1 d_Model_init_129 (by decide)) ?_
  refine V.newa (pc' := 134) (atype := .long) X hK 1 (mcs wd_317) rfl rfl rfl (a0 := (488, .inr (.inl (fun _ => 0)))) (fun _ => rfl) (by decide) (by decide) (by decide) (by decide) (by decide) d_Model_init_132 rfl (fun q_496 M_497 z_498 h_499 fr_500 => ?_)
  have n_501 : q_1 ≠ q_496 := ne_z h_481 z_498
  have n_502 : q_13 ≠ q_496 := ne_z h_482 z_498
  have n_503 : q_28 ≠ q_496 := ne_z h_483 z_498
  have n_504 : q_46 ≠ q_496 := ne_z h_484 z_498
  have n_505 : q_67 ≠ q_496 := ne_z h_485 z_498
  have n_506 : q_91 ≠ q_496 := ne_z h_486 z_498
  have n_507 : q_118 ≠ q_496 := ne_z h_487 z_498
  have n_508 : q_148 ≠ q_496 := ne_z h_488 z_498
  have n_509 : q_181 ≠ q_496 := ne_z h_489 z_498
  have n_510 : q_217 ≠ q_496 := ne_z h_490 z_498
  have n_511 : q_256 ≠ q_496 := ne_z h_491 z_498
  have n_512 : q_298 ≠ q_496 := ne_z h_492 z_498
  have n_513 : q_343 ≠ q_496 := ne_z h_493 z_498
  have n_514 : q_391 ≠ q_496 := ne_z h_494 z_498
  have n_515 : q_442 ≠ q_496 := ne_z h_495 z_498
  have n_516 : mo ≠ q_496 := ne_z h_479 z_498
  have zb_517 : M q_496 = none := ((fr_480 q_496 (Ne.symm n_516)).trans ((fr_446 q_496 (Ne.symm n_515)).trans ((fr_427 q_496 (Ne.symm n_516)).trans ((fr_395 q_496 (Ne.symm n_514)).trans ((fr_377 q_496 (Ne.symm n_516)).trans ((fr_347 q_496 (Ne.symm n_513)).trans ((fr_330 q_496 (Ne.symm n_516)).trans ((fr_302 q_496 (Ne.symm n_512)).trans ((fr_286 q_496 (Ne.symm n_516)).trans ((fr_260 q_496 (Ne.symm n_511)).trans ((fr_245 q_496 (Ne.symm n_516)).trans ((fr_221 q_496 (Ne.symm n_510)).trans ((fr_207 q_496 (Ne.symm n_516)).trans ((fr_185 q_496 (Ne.symm n_509)).trans ((fr_172 q_496 (Ne.symm n_516)).trans ((fr_152 q_496 (Ne.symm n_508)).trans ((fr_140 q_496 (Ne.symm n_516)).trans ((fr_122 q_496 (Ne.symm n_507)).trans ((fr_111 q_496 (Ne.symm n_516)).trans ((fr_95 q_496 (Ne.symm n_506)).trans ((fr_85 q_496 (Ne.symm n_516)).trans ((fr_71 q_496 (Ne.symm n_505)).trans ((fr_62 q_496 (Ne.symm n_516)).trans ((fr_50 q_496 (Ne.symm n_504)).trans ((fr_42 q_496 (Ne.symm n_516)).trans ((fr_32 q_496 (Ne.symm n_503)).trans ((fr_25 q_496 (Ne.symm n_516)).trans ((fr_17 q_496 (Ne.symm n_502)).trans ((fr_11 q_496 (Ne.symm n_516)).trans ((fr_5 q_496 (Ne.symm n_501)))))))))))))))))))))))))))))))).symm.trans z_498
  have h_518 : M_497 q_1 = some (.inl (cL, 16, .inr (.inl (fun _ => 0)))) := (fr_500 _ n_501).trans h_481
  have h_519 : M_497 q_13 = some (.inl (cL, 16, .inr (.inl (fun _ => 0)))) := (fr_500 _ n_502).trans h_482
  have h_520 : M_497 q_28 = some (.inl (cI, 61, .inl (fun _ => 0))) := (fr_500 _ n_503).trans h_483
  have h_521 : M_497 q_46 = some (.inl (cI, 61, .inl (fun _ => 0))) := (fr_500 _ n_504).trans h_484
  have h_522 : M_497 q_67 = some (.inl (cI, 61, .inl (fun _ => 0))) := (fr_500 _ n_505).trans h_485
  have h_523 : M_497 q_91 = some (.inl (cI, 61, .inl (fun _ => 0))) := (fr_500 _ n_506).trans h_486
  have h_524 : M_497 q_118 = some (.inl (cI, 61, .inl (fun _ => 0))) := (fr_500 _ n_507).trans h_487
  have h_525 : M_497 q_148 = some (.inl (cI, 61, .inl (fun _ => 0))) := (fr_500 _ n_508).trans h_488
  have h_526 : M_497 q_181 = some (.inl (cI, 61, .inl (fun _ => 0))) := (fr_500 _ n_509).trans h_489
  have h_527 : M_497 q_217 = some (.inl (cI, 61, .inl (fun _ => 0))) := (fr_500 _ n_510).trans h_490
  have h_528 : M_497 q_256 = some (.inl (cB, 61, .inl (fun _ => 0))) := (fr_500 _ n_511).trans h_491
  have h_529 : M_497 q_298 = some (.inl (cI, 488, .inl (fun _ => 0))) := (fr_500 _ n_512).trans h_492
  have h_530 : M_497 q_343 = some (.inl (cI, 488, .inl (fun _ => 0))) := (fr_500 _ n_513).trans h_493
  have h_531 : M_497 q_391 = some (.inl (cL, 488, .inr (.inl (fun _ => 0)))) := (fr_500 _ n_514).trans h_494
  have h_532 : M_497 q_442 = some (.inl (cL, 488, .inr (.inl (fun _ => 0)))) := (fr_500 _ n_515).trans h_495
  have h_533 : M_497 mo = some (.inr (6, [.int 0, .ref q_1, .ref q_13, .int 0, .int 0, .ref q_28, .ref q_46, .ref q_67, .ref q_91, .ref q_118, .ref q_148, .ref q_181, .ref q_217, .ref q_256, .ref q_298, .ref q_343, .ref q_391, .ref q_442, .null, .null, .null, .null, .int 0, .int 0, .int 0, .int 0, .null, .int 0, .int 0, .int 0, .int 0, .null, .null])) := (fr_500 _ n_516).trans h_479
  refine V.putF (pc' := 137) X hK hnm h_533 uw_Model t_Model tok_Model nm_Model rfl 18 (by decide) (mcs wd_194) rfl rfl rfl rfl (Nat.le_of_ble_eq_true rfl) (fs' := [.int 0, .ref q_1, .ref q_13, .int 0, .int 0, .ref q_28, .ref q_46, .ref q_67, .ref q_91, .ref q_118, .ref q_148, .ref q_181, .ref q_217, .ref q_256, .ref q_298, .ref q_343, .ref q_391, .ref q_442, .ref q_496, .null, .null, .null, .int 0, .int 0, .int 0, .int 0, .null, .int 0, .int 0, .int 0, .int 0, .null, .null]) rfl d_Model_init_134 rfl (fun M_534 h_535 fr_536 => ?_)
  have h_537 : M_534 q_1 = some (.inl (cL, 16, .inr (.inl (fun _ => 0)))) := (fr_536 _ (Ne.symm n_6)).trans h_518
  have h_538 : M_534 q_13 = some (.inl (cL, 16, .inr (.inl (fun _ => 0)))) := (fr_536 _ (Ne.symm n_19)).trans h_519
  have h_539 : M_534 q_28 = some (.inl (cI, 61, .inl (fun _ => 0))) := (fr_536 _ (Ne.symm n_35)).trans h_520
  have h_540 : M_534 q_46 = some (.inl (cI, 61, .inl (fun _ => 0))) := (fr_536 _ (Ne.symm n_54)).trans h_521
  have h_541 : M_534 q_67 = some (.inl (cI, 61, .inl (fun _ => 0))) := (fr_536 _ (Ne.symm n_76)).trans h_522
  have h_542 : M_534 q_91 = some (.inl (cI, 61, .inl (fun _ => 0))) := (fr_536 _ (Ne.symm n_101)).trans h_523
  have h_543 : M_534 q_118 = some (.inl (cI, 61, .inl (fun _ => 0))) := (fr_536 _ (Ne.symm n_129)).trans h_524
  have h_544 : M_534 q_148 = some (.inl (cI, 61, .inl (fun _ => 0))) := (fr_536 _ (Ne.symm n_160)).trans h_525
  have h_545 : M_534 q_181 = some (.inl (cI, 61, .inl (fun _ => 0))) := (fr_536 _ (Ne.symm n_194)).trans h_526
  have h_546 : M_534 q_217 = some (.inl (cI, 61, .inl (fun _ => 0))) := (fr_536 _ (Ne.symm n_231)).trans h_527
  have h_547 : M_534 q_256 = some (.inl (cB, 61, .inl (fun _ => 0))) := (fr_536 _ (Ne.symm n_271)).trans h_528
  have h_548 : M_534 q_298 = some (.inl (cI, 488, .inl (fun _ => 0))) := (fr_536 _ (Ne.symm n_314)).trans h_529
  have h_549 : M_534 q_343 = some (.inl (cI, 488, .inl (fun _ => 0))) := (fr_536 _ (Ne.symm n_360)).trans h_530
  have h_550 : M_534 q_391 = some (.inl (cL, 488, .inr (.inl (fun _ => 0)))) := (fr_536 _ (Ne.symm n_409)).trans h_531
  have h_551 : M_534 q_442 = some (.inl (cL, 488, .inr (.inl (fun _ => 0)))) := (fr_536 _ (Ne.symm n_461)).trans h_532
  have h_552 : M_534 q_496 = some (.inl (cL, 488, .inr (.inl (fun _ => 0)))) := (fr_536 _ (Ne.symm n_516)).trans h_499
  refine V.rd (pc' := 138) (fun hl => lv_aload_n X.1 X.2.1 d_Model_init_137 rfl (lv_at hl 0 rfl)) ?_
  refine V.go (pc' := 140) (lv_bipush (v := 101) X.1 X.2.1 d_Model_init_138 (by decide)) ?_
  refine V.newa (pc' := 142) (atype := .int) X hK 0 (mcs wd_320) rfl rfl rfl (a0 := (101, .inl (fun _ => 0))) (fun _ => rfl) (by decide) (by decide) (by decide) (by decide) (by decide) d_Model_init_140 rfl (fun q_553 M_554 z_555 h_556 fr_557 => ?_)
  have n_558 : q_1 ≠ q_553 := ne_z h_537 z_555
  have n_559 : q_13 ≠ q_553 := ne_z h_538 z_555
  have n_560 : q_28 ≠ q_553 := ne_z h_539 z_555
  have n_561 : q_46 ≠ q_553 := ne_z h_540 z_555
  have n_562 : q_67 ≠ q_553 := ne_z h_541 z_555
  have n_563 : q_91 ≠ q_553 := ne_z h_542 z_555
  have n_564 : q_118 ≠ q_553 := ne_z h_543 z_555
  have n_565 : q_148 ≠ q_553 := ne_z h_544 z_555
  have n_566 : q_181 ≠ q_553 := ne_z h_545 z_555
  have n_567 : q_217 ≠ q_553 := ne_z h_546 z_555
  have n_568 : q_256 ≠ q_553 := ne_z h_547 z_555
  have n_569 : q_298 ≠ q_553 := ne_z h_548 z_555
  have n_570 : q_343 ≠ q_553 := ne_z h_549 z_555
  have n_571 : q_391 ≠ q_553 := ne_z h_550 z_555
  have n_572 : q_442 ≠ q_553 := ne_z h_551 z_555
  have n_573 : q_496 ≠ q_553 := ne_z h_552 z_555
  have n_574 : mo ≠ q_553 := ne_z h_535 z_555
  have zb_575 : M q_553 = none := ((fr_536 q_553 (Ne.symm n_574)).trans ((fr_500 q_553 (Ne.symm n_573)).trans ((fr_480 q_553 (Ne.symm n_574)).trans ((fr_446 q_553 (Ne.symm n_572)).trans ((fr_427 q_553 (Ne.symm n_574)).trans ((fr_395 q_553 (Ne.symm n_571)).trans ((fr_377 q_553 (Ne.symm n_574)).trans ((fr_347 q_553 (Ne.symm n_570)).trans ((fr_330 q_553 (Ne.symm n_574)).trans ((fr_302 q_553 (Ne.symm n_569)).trans ((fr_286 q_553 (Ne.symm n_574)).trans ((fr_260 q_553 (Ne.symm n_568)).trans ((fr_245 q_553 (Ne.symm n_574)).trans ((fr_221 q_553 (Ne.symm n_567)).trans ((fr_207 q_553 (Ne.symm n_574)).trans ((fr_185 q_553 (Ne.symm n_566)).trans ((fr_172 q_553 (Ne.symm n_574)).trans ((fr_152 q_553 (Ne.symm n_565)).trans ((fr_140 q_553 (Ne.symm n_574)).trans ((fr_122 q_553 (Ne.symm n_564)).trans ((fr_111 q_553 (Ne.symm n_574)).trans ((fr_95 q_553 (Ne.symm n_563)).trans ((fr_85 q_553 (Ne.symm n_574)).trans ((fr_71 q_553 (Ne.symm n_562)).trans ((fr_62 q_553 (Ne.symm n_574)).trans ((fr_50 q_553 (Ne.symm n_561)).trans ((fr_42 q_553 (Ne.symm n_574)).trans ((fr_32 q_553 (Ne.symm n_560)).trans ((fr_25 q_553 (Ne.symm n_574)).trans ((fr_17 q_553 (Ne.symm n_559)).trans ((fr_11 q_553 (Ne.symm n_574)).trans ((fr_5 q_553 (Ne.symm n_558)))))))))))))))))))))))))))))))))).symm.trans z_555
  have h_576 : M_554 q_1 = some (.inl (cL, 16, .inr (.inl (fun _ => 0)))) := (fr_557 _ n_558).trans h_537
  have h_577 : M_554 q_13 = some (.inl (cL, 16, .inr (.inl (fun _ => 0)))) := (fr_557 _ n_559).trans h_538
  have h_578 : M_554 q_28 = some (.inl (cI, 61, .inl (fun _ => 0))) := (fr_557 _ n_560).trans h_539
  have h_579 : M_554 q_46 = some (.inl (cI, 61, .inl (fun _ => 0))) := (fr_557 _ n_561).trans h_540
  have h_580 : M_554 q_67 = some (.inl (cI, 61, .inl (fun _ => 0))) := (fr_557 _ n_562).trans h_541
  have h_581 : M_554 q_91 = some (.inl (cI, 61, .inl (fun _ => 0))) := (fr_557 _ n_563).trans h_542
  have h_582 : M_554 q_118 = some (.inl (cI, 61, .inl (fun _ => 0))) := (fr_557 _ n_564).trans h_543
  have h_583 : M_554 q_148 = some (.inl (cI, 61, .inl (fun _ => 0))) := (fr_557 _ n_565).trans h_544
  have h_584 : M_554 q_181 = some (.inl (cI, 61, .inl (fun _ => 0))) := (fr_557 _ n_566).trans h_545
  have h_585 : M_554 q_217 = some (.inl (cI, 61, .inl (fun _ => 0))) := (fr_557 _ n_567).trans h_546
  have h_586 : M_554 q_256 = some (.inl (cB, 61, .inl (fun _ => 0))) := (fr_557 _ n_568).trans h_547
  have h_587 : M_554 q_298 = some (.inl (cI, 488, .inl (fun _ => 0))) := (fr_557 _ n_569).trans h_548
  have h_588 : M_554 q_343 = some (.inl (cI, 488, .inl (fun _ => 0))) := (fr_557 _ n_570).trans h_549
  have h_589 : M_554 q_391 = some (.inl (cL, 488, .inr (.inl (fun _ => 0)))) := (fr_557 _ n_571).trans h_550
  have h_590 : M_554 q_442 = some (.inl (cL, 488, .inr (.inl (fun _ => 0)))) := (fr_557 _ n_572).trans h_551
  have h_591 : M_554 q_496 = some (.inl (cL, 488, .inr (.inl (fun _ => 0)))) := (fr_557 _ n_573).trans h_552
  have h_592 : M_554 mo = some (.inr (6, [.int 0, .ref q_1, .ref q_13, .int 0, .int 0, .ref q_28, .ref q_46, .ref q_67, .ref q_91, .ref q_118, .ref q_148, .ref q_181, .ref q_217, .ref q_256, .ref q_298, .ref q_343, .ref q_391, .ref q_442, .ref q_496, .null, .null, .null, .int 0, .int 0, .int 0, .int 0, .null, .int 0, .int 0, .int 0, .int 0, .null, .null])) := (fr_557 _ n_574).trans h_535
  refine V.putF (pc' := 145) X hK hnm h_592 uw_Model t_Model tok_Model nm_Model rfl 19 (by decide) (mcs wd_209) rfl rfl rfl rfl (Nat.le_of_ble_eq_true rfl) (fs' := [.int 0, .ref q_1, .ref q_13, .int 0, .int 0, .ref q_28, .ref q_46, .ref q_67, .ref q_91, .ref q_118, .ref q_148, .ref q_181, .ref q_217, .ref q_256, .ref q_298, .ref q_343, .ref q_391, .ref q_442, .ref q_496, .ref q_553, .null, .null, .int 0, .int 0, .int 0, .int 0, .null, .int 0, .int 0, .int 0, .int 0, .null, .null]) rfl d_Model_init_142 rfl (fun M_593 h_594 fr_595 => ?_)
  have h_596 : M_593 q_1 = some (.inl (cL, 16, .inr (.inl (fun _ => 0)))) := (fr_595 _ (Ne.symm n_6)).trans h_576
  have h_597 : M_593 q_13 = some (.inl (cL, 16, .inr (.inl (fun _ => 0)))) := (fr_595 _ (Ne.symm n_19)).trans h_577
  have h_598 : M_593 q_28 = some (.inl (cI, 61, .inl (fun _ => 0))) := (fr_595 _ (Ne.symm n_35)).trans h_578
  have h_599 : M_593 q_46 = some (.inl (cI, 61, .inl (fun _ => 0))) := (fr_595 _ (Ne.symm n_54)).trans h_579
  have h_600 : M_593 q_67 = some (.inl (cI, 61, .inl (fun _ => 0))) := (fr_595 _ (Ne.symm n_76)).trans h_580
  have h_601 : M_593 q_91 = some (.inl (cI, 61, .inl (fun _ => 0))) := (fr_595 _ (Ne.symm n_101)).trans h_581
  have h_602 : M_593 q_118 = some (.inl (cI, 61, .inl (fun _ => 0))) := (fr_595 _ (Ne.symm n_129)).trans h_582
  have h_603 : M_593 q_148 = some (.inl (cI, 61, .inl (fun _ => 0))) := (fr_595 _ (Ne.symm n_160)).trans h_583
  have h_604 : M_593 q_181 = some (.inl (cI, 61, .inl (fun _ => 0))) := (fr_595 _ (Ne.symm n_194)).trans h_584
  have h_605 : M_593 q_217 = some (.inl (cI, 61, .inl (fun _ => 0))) := (fr_595 _ (Ne.symm n_231)).trans h_585
  have h_606 : M_593 q_256 = some (.inl (cB, 61, .inl (fun _ => 0))) := (fr_595 _ (Ne.symm n_271)).trans h_586
  have h_607 : M_593 q_298 = some (.inl (cI, 488, .inl (fun _ => 0))) := (fr_595 _ (Ne.symm n_314)).trans h_587
  have h_608 : M_593 q_343 = some (.inl (cI, 488, .inl (fun _ => 0))) := (fr_595 _ (Ne.symm n_360)).trans h_588
  have h_609 : M_593 q_391 = some (.inl (cL, 488, .inr (.inl (fun _ => 0)))) := (fr_595 _ (Ne.symm n_409)).trans h_589
  have h_610 : M_593 q_442 = some (.inl (cL, 488, .inr (.inl (fun _ => 0)))) := (fr_595 _ (Ne.symm n_461)).trans h_590
  have h_611 : M_593 q_496 = some (.inl (cL, 488, .inr (.inl (fun _ => 0)))) := (fr_595 _ (Ne.symm n_516)).trans h_591
  have h_612 : M_593 q_553 = some (.inl (cI, 101, .inl (fun _ => 0))) := (fr_595 _ (Ne.symm n_574)).trans h_556
  refine V.rd (pc' := 146) (fun hl => lv_aload_n X.1 X.2.1 d_Model_init_145 rfl (lv_at hl 0 rfl)) ?_
  refine V.go (pc' := 148) (lv_bipush (v := 101) X.1 X.2.1 d_Model_init_146 (by decide)) ?_
  refine V.newa (pc' := 150) (atype := .int) X hK 0 (mcs wd_320) rfl rfl rfl (a0 := (101, .inl (fun _ => 0))) (fun _ => rfl) (by decide) (by decide) (by decide) (by decide) (by decide) d_Model_init_148 rfl (fun q_613 M_614 z_615 h_616 fr_617 => ?_)
  have n_618 : q_1 ≠ q_613 := ne_z h_596 z_615
  have n_619 : q_13 ≠ q_613 := ne_z h_597 z_615
  have n_620 : q_28 ≠ q_613 := ne_z h_598 z_615
  have n_621 : q_46 ≠ q_613 := ne_z h_599 z_615
  have n_622 : q_67 ≠ q_613 := ne_z h_600 z_615
  have n_623 : q_91 ≠ q_613 := ne_z h_601 z_615
  have n_624 : q_118 ≠ q_613 := ne_z h_602 z_615
  have n_625 : q_148 ≠ q_613 := ne_z h_603 z_615
  have n_626 : q_181 ≠ q_613 := ne_z h_604 z_615
  have n_627 : q_217 ≠ q_613 := ne_z h_605 z_615
  have n_628 : q_256 ≠ q_613 := ne_z h_606 z_615
  have n_629 : q_298 ≠ q_613 := ne_z h_607 z_615
  have n_630 : q_343 ≠ q_613 := ne_z h_608 z_615
  have n_631 : q_391 ≠ q_613 := ne_z h_609 z_615
  have n_632 : q_442 ≠ q_613 := ne_z h_610 z_615
  have n_633 : q_496 ≠ q_613 := ne_z h_611 z_615
  have n_634 : q_553 ≠ q_613 := ne_z h_612 z_615
  have n_635 : mo ≠ q_613 := ne_z h_594 z_615
  have zb_636 : M q_613 = none := ((fr_595 q_613 (Ne.symm n_635)).trans ((fr_557 q_613 (Ne.symm n_634)).trans ((fr_536 q_613 (Ne.symm n_635)).trans ((fr_500 q_613 (Ne.symm n_633)).trans ((fr_480 q_613 (Ne.symm n_635)).trans ((fr_446 q_613 (Ne.symm n_632)).trans ((fr_427 q_613 (Ne.symm n_635)).trans ((fr_395 q_613 (Ne.symm n_631)).trans ((fr_377 q_613 (Ne.symm n_635)).trans ((fr_347 q_613 (Ne.symm n_630)).trans ((fr_330 q_613 (Ne.symm n_635)).trans ((fr_302 q_613 (Ne.symm n_629)).trans ((fr_286 q_613 (Ne.symm n_635)).trans ((fr_260 q_613 (Ne.symm n_628)).trans ((fr_245 q_613 (Ne.symm n_635)).trans ((fr_221 q_613 (Ne.symm n_627)).trans ((fr_207 q_613 (Ne.symm n_635)).trans ((fr_185 q_613 (Ne.symm n_626)).trans ((fr_172 q_613 (Ne.symm n_635)).trans ((fr_152 q_613 (Ne.symm n_625)).trans ((fr_140 q_613 (Ne.symm n_635)).trans ((fr_122 q_613 (Ne.symm n_624)).trans ((fr_111 q_613 (Ne.symm n_635)).trans ((fr_95 q_613 (Ne.symm n_623)).trans ((fr_85 q_613 (Ne.symm n_635)).trans ((fr_71 q_613 (Ne.symm n_622)).trans ((fr_62 q_613 (Ne.symm n_635)).trans ((fr_50 q_613 (Ne.symm n_621)).trans ((fr_42 q_613 (Ne.symm n_635)).trans ((fr_32 q_613 (Ne.symm n_620)).trans ((fr_25 q_613 (Ne.symm n_635)).trans ((fr_17 q_613 (Ne.symm n_619)).trans ((fr_11 q_613 (Ne.symm n_635)).trans ((fr_5 q_613 (Ne.symm n_618)))))))))))))))))))))))))))))))))))).symm.trans z_615
  have h_637 : M_614 q_1 = some (.inl (cL, 16, .inr (.inl (fun _ => 0)))) := (fr_617 _ n_618).trans h_596
  have h_638 : M_614 q_13 = some (.inl (cL, 16, .inr (.inl (fun _ => 0)))) := (fr_617 _ n_619).trans h_597
  have h_639 : M_614 q_28 = some (.inl (cI, 61, .inl (fun _ => 0))) := (fr_617 _ n_620).trans h_598
  have h_640 : M_614 q_46 = some (.inl (cI, 61, .inl (fun _ => 0))) := (fr_617 _ n_621).trans h_599
  have h_641 : M_614 q_67 = some (.inl (cI, 61, .inl (fun _ => 0))) := (fr_617 _ n_622).trans h_600
  have h_642 : M_614 q_91 = some (.inl (cI, 61, .inl (fun _ => 0))) := (fr_617 _ n_623).trans h_601
  have h_643 : M_614 q_118 = some (.inl (cI, 61, .inl (fun _ => 0))) := (fr_617 _ n_624).trans h_602
  have h_644 : M_614 q_148 = some (.inl (cI, 61, .inl (fun _ => 0))) := (fr_617 _ n_625).trans h_603
  have h_645 : M_614 q_181 = some (.inl (cI, 61, .inl (fun _ => 0))) := (fr_617 _ n_626).trans h_604
  have h_646 : M_614 q_217 = some (.inl (cI, 61, .inl (fun _ => 0))) := (fr_617 _ n_627).trans h_605
  have h_647 : M_614 q_256 = some (.inl (cB, 61, .inl (fun _ => 0))) := (fr_617 _ n_628).trans h_606
  have h_648 : M_614 q_298 = some (.inl (cI, 488, .inl (fun _ => 0))) := (fr_617 _ n_629).trans h_607
  have h_649 : M_614 q_343 = some (.inl (cI, 488, .inl (fun _ => 0))) := (fr_617 _ n_630).trans h_608
  have h_650 : M_614 q_391 = some (.inl (cL, 488, .inr (.inl (fun _ => 0)))) := (fr_617 _ n_631).trans h_609
  have h_651 : M_614 q_442 = some (.inl (cL, 488, .inr (.inl (fun _ => 0)))) := (fr_617 _ n_632).trans h_610
  have h_652 : M_614 q_496 = some (.inl (cL, 488, .inr (.inl (fun _ => 0)))) := (fr_617 _ n_633).trans h_611
  have h_653 : M_614 q_553 = some (.inl (cI, 101, .inl (fun _ => 0))) := (fr_617 _ n_634).trans h_612
  have h_654 : M_614 mo = some (.inr (6, [.int 0, .ref q_1, .ref q_13, .int 0, .int 0, .ref q_28, .ref q_46, .ref q_67, .ref q_91, .ref q_118, .ref q_148, .ref q_181, .ref q_217, .ref q_256, .ref q_298, .ref q_343, .ref q_391, .ref q_442, .ref q_496, .ref q_553, .null, .null, .int 0, .int 0, .int 0, .int 0, .null, .int 0, .int 0, .int 0, .int 0, .null, .null])) := (fr_617 _ n_635).trans h_594
  refine V.putF (pc' := 153) X hK hnm h_654 uw_Model t_Model tok_Model nm_Model rfl 20 (by decide) (mcs wd_229) rfl rfl rfl rfl (Nat.le_of_ble_eq_true rfl) (fs' := [.int 0, .ref q_1, .ref q_13, .int 0, .int 0, .ref q_28, .ref q_46, .ref q_67, .ref q_91, .ref q_118, .ref q_148, .ref q_181, .ref q_217, .ref q_256, .ref q_298, .ref q_343, .ref q_391, .ref q_442, .ref q_496, .ref q_553, .ref q_613, .null, .int 0, .int 0, .int 0, .int 0, .null, .int 0, .int 0, .int 0, .int 0, .null, .null]) rfl d_Model_init_150 rfl (fun M_655 h_656 fr_657 => ?_)
  have h_658 : M_655 q_1 = some (.inl (cL, 16, .inr (.inl (fun _ => 0)))) := (fr_657 _ (Ne.symm n_6)).trans h_637
  have h_659 : M_655 q_13 = some (.inl (cL, 16, .inr (.inl (fun _ => 0)))) := (fr_657 _ (Ne.symm n_19)).trans h_638
  have h_660 : M_655 q_28 = some (.inl (cI, 61, .inl (fun _ => 0))) := (fr_657 _ (Ne.symm n_35)).trans h_639
  have h_661 : M_655 q_46 = some (.inl (cI, 61, .inl (fun _ => 0))) := (fr_657 _ (Ne.symm n_54)).trans h_640
  have h_662 : M_655 q_67 = some (.inl (cI, 61, .inl (fun _ => 0))) := (fr_657 _ (Ne.symm n_76)).trans h_641
  have h_663 : M_655 q_91 = some (.inl (cI, 61, .inl (fun _ => 0))) := (fr_657 _ (Ne.symm n_101)).trans h_642
  have h_664 : M_655 q_118 = some (.inl (cI, 61, .inl (fun _ => 0))) := (fr_657 _ (Ne.symm n_129)).trans h_643
  have h_665 : M_655 q_148 = some (.inl (cI, 61, .inl (fun _ => 0))) := (fr_657 _ (Ne.symm n_160)).trans h_644
  have h_666 : M_655 q_181 = some (.inl (cI, 61, .inl (fun _ => 0))) := (fr_657 _ (Ne.symm n_194)).trans h_645
  have h_667 : M_655 q_217 = some (.inl (cI, 61, .inl (fun _ => 0))) := (fr_657 _ (Ne.symm n_231)).trans h_646
  have h_668 : M_655 q_256 = some (.inl (cB, 61, .inl (fun _ => 0))) := (fr_657 _ (Ne.symm n_271)).trans h_647
  have h_669 : M_655 q_298 = some (.inl (cI, 488, .inl (fun _ => 0))) := (fr_657 _ (Ne.symm n_314)).trans h_648
  have h_670 : M_655 q_343 = some (.inl (cI, 488, .inl (fun _ => 0))) := (fr_657 _ (Ne.symm n_360)).trans h_649
  have h_671 : M_655 q_391 = some (.inl (cL, 488, .inr (.inl (fun _ => 0)))) := (fr_657 _ (Ne.symm n_409)).trans h_650
  have h_672 : M_655 q_442 = some (.inl (cL, 488, .inr (.inl (fun _ => 0)))) := (fr_657 _ (Ne.symm n_461)).trans h_651
  have h_673 : M_655 q_496 = some (.inl (cL, 488, .inr (.inl (fun _ => 0)))) := (fr_657 _ (Ne.symm n_516)).trans h_652
  have h_674 : M_655 q_553 = some (.inl (cI, 101, .inl (fun _ => 0))) := (fr_657 _ (Ne.symm n_574)).trans h_653
  have h_675 : M_655 q_613 = some (.inl (cI, 101, .inl (fun _ => 0))) := (fr_657 _ (Ne.symm n_635)).trans h_616
  refine V.rd (pc' := 154) (fun hl => lv_aload_n X.1 X.2.1 d_Model_init_153 rfl (lv_at hl 0 rfl)) ?_
  refine V.go (pc' := 156) (lv_bipush (v := 101) X.1 X.2.1 d_Model_init_154 (by decide)) ?_
  refine V.newa (pc' := 158) (atype := .int) X hK 0 (mcs wd_320) rfl rfl rfl (a0 := (101, .inl (fun _ => 0))) (fun _ => rfl) (by decide) (by decide) (by decide) (by decide) (by decide) d_Model_init_156 rfl (fun q_676 M_677 z_678 h_679 fr_680 => ?_)
  have n_681 : q_1 ≠ q_676 := ne_z h_658 z_678
  have n_682 : q_13 ≠ q_676 := ne_z h_659 z_678
  have n_683 : q_28 ≠ q_676 := ne_z h_660 z_678
  have n_684 : q_46 ≠ q_676 := ne_z h_661 z_678
  have n_685 : q_67 ≠ q_676 := ne_z h_662 z_678
  have n_686 : q_91 ≠ q_676 := ne_z h_663 z_678
  have n_687 : q_118 ≠ q_676 := ne_z h_664 z_678
  have n_688 : q_148 ≠ q_676 := ne_z h_665 z_678
  have n_689 : q_181 ≠ q_676 := ne_z h_666 z_678
  have n_690 : q_217 ≠ q_676 := ne_z h_667 z_678
  have n_691 : q_256 ≠ q_676 := ne_z h_668 z_678
  have n_692 : q_298 ≠ q_676 := ne_z h_669 z_678
  have n_693 : q_343 ≠ q_676 := ne_z h_670 z_678
  have n_694 : q_391 ≠ q_676 := ne_z h_671 z_678
  have n_695 : q_442 ≠ q_676 := ne_z h_672 z_678
  have n_696 : q_496 ≠ q_676 := ne_z h_673 z_678
  have n_697 : q_553 ≠ q_676 := ne_z h_674 z_678
  have n_698 : q_613 ≠ q_676 := ne_z h_675 z_678
  have n_699 : mo ≠ q_676 := ne_z h_656 z_678
  have zb_700 : M q_676 = none := ((fr_657 q_676 (Ne.symm n_699)).trans ((fr_617 q_676 (Ne.symm n_698)).trans ((fr_595 q_676 (Ne.symm n_699)).trans ((fr_557 q_676 (Ne.symm n_697)).trans ((fr_536 q_676 (Ne.symm n_699)).trans ((fr_500 q_676 (Ne.symm n_696)).trans ((fr_480 q_676 (Ne.symm n_699)).trans ((fr_446 q_676 (Ne.symm n_695)).trans ((fr_427 q_676 (Ne.symm n_699)).trans ((fr_395 q_676 (Ne.symm n_694)).trans ((fr_377 q_676 (Ne.symm n_699)).trans ((fr_347 q_676 (Ne.symm n_693)).trans ((fr_330 q_676 (Ne.symm n_699)).trans ((fr_302 q_676 (Ne.symm n_692)).trans ((fr_286 q_676 (Ne.symm n_699)).trans ((fr_260 q_676 (Ne.symm n_691)).trans ((fr_245 q_676 (Ne.symm n_699)).trans ((fr_221 q_676 (Ne.symm n_690)).trans ((fr_207 q_676 (Ne.symm n_699)).trans ((fr_185 q_676 (Ne.symm n_689)).trans ((fr_172 q_676 (Ne.symm n_699)).trans ((fr_152 q_676 (Ne.symm n_688)).trans ((fr_140 q_676 (Ne.symm n_699)).trans ((fr_122 q_676 (Ne.symm n_687)).trans ((fr_111 q_676 (Ne.symm n_699)).trans ((fr_95 q_676 (Ne.symm n_686)).trans ((fr_85 q_676 (Ne.symm n_699)).trans ((fr_71 q_676 (Ne.symm n_685)).trans ((fr_62 q_676 (Ne.symm n_699)).trans ((fr_50 q_676 (Ne.symm n_684)).trans ((fr_42 q_676 (Ne.symm n_699)).trans ((fr_32 q_676 (Ne.symm n_683)).trans ((fr_25 q_676 (Ne.symm n_699)).trans ((fr_17 q_676 (Ne.symm n_682)).trans ((fr_11 q_676 (Ne.symm n_699)).trans ((fr_5 q_676 (Ne.symm n_681)))))))))))))))))))))))))))))))))))))).symm.trans z_678
  have h_701 : M_677 q_1 = some (.inl (cL, 16, .inr (.inl (fun _ => 0)))) := (fr_680 _ n_681).trans h_658
  have h_702 : M_677 q_13 = some (.inl (cL, 16, .inr (.inl (fun _ => 0)))) := (fr_680 _ n_682).trans h_659
  have h_703 : M_677 q_28 = some (.inl (cI, 61, .inl (fun _ => 0))) := (fr_680 _ n_683).trans h_660
  have h_704 : M_677 q_46 = some (.inl (cI, 61, .inl (fun _ => 0))) := (fr_680 _ n_684).trans h_661
  have h_705 : M_677 q_67 = some (.inl (cI, 61, .inl (fun _ => 0))) := (fr_680 _ n_685).trans h_662
  have h_706 : M_677 q_91 = some (.inl (cI, 61, .inl (fun _ => 0))) := (fr_680 _ n_686).trans h_663
  have h_707 : M_677 q_118 = some (.inl (cI, 61, .inl (fun _ => 0))) := (fr_680 _ n_687).trans h_664
  have h_708 : M_677 q_148 = some (.inl (cI, 61, .inl (fun _ => 0))) := (fr_680 _ n_688).trans h_665
  have h_709 : M_677 q_181 = some (.inl (cI, 61, .inl (fun _ => 0))) := (fr_680 _ n_689).trans h_666
  have h_710 : M_677 q_217 = some (.inl (cI, 61, .inl (fun _ => 0))) := (fr_680 _ n_690).trans h_667
  have h_711 : M_677 q_256 = some (.inl (cB, 61, .inl (fun _ => 0))) := (fr_680 _ n_691).trans h_668
  have h_712 : M_677 q_298 = some (.inl (cI, 488, .inl (fun _ => 0))) := (fr_680 _ n_692).trans h_669
  have h_713 : M_677 q_343 = some (.inl (cI, 488, .inl (fun _ => 0))) := (fr_680 _ n_693).trans h_670
  have h_714 : M_677 q_391 = some (.inl (cL, 488, .inr (.inl (fun _ => 0)))) := (fr_680 _ n_694).trans h_671
  have h_715 : M_677 q_442 = some (.inl (cL, 488, .inr (.inl (fun _ => 0)))) := (fr_680 _ n_695).trans h_672
  have h_716 : M_677 q_496 = some (.inl (cL, 488, .inr (.inl (fun _ => 0)))) := (fr_680 _ n_696).trans h_673
  have h_717 : M_677 q_553 = some (.inl (cI, 101, .inl (fun _ => 0))) := (fr_680 _ n_697).trans h_674
  have h_718 : M_677 q_613 = some (.inl (cI, 101, .inl (fun _ => 0))) := (fr_680 _ n_698).trans h_675
  have h_719 : M_677 mo = some (.inr (6, [.int 0, .ref q_1, .ref q_13, .int 0, .int 0, .ref q_28, .ref q_46, .ref q_67, .ref q_91, .ref q_118, .ref q_148, .ref q_181, .ref q_217, .ref q_256, .ref q_298, .ref q_343, .ref q_391, .ref q_442, .ref q_496, .ref q_553, .ref q_613, .null, .int 0, .int 0, .int 0, .int 0, .null, .int 0, .int 0, .int 0, .int 0, .null, .null])) := (fr_680 _ n_699).trans h_656
  refine V.putF (pc' := 161) X hK hnm h_719 uw_Model t_Model tok_Model nm_Model rfl 21 (by decide) (mcs wd_211) rfl rfl rfl rfl (Nat.le_of_ble_eq_true rfl) (fs' := [.int 0, .ref q_1, .ref q_13, .int 0, .int 0, .ref q_28, .ref q_46, .ref q_67, .ref q_91, .ref q_118, .ref q_148, .ref q_181, .ref q_217, .ref q_256, .ref q_298, .ref q_343, .ref q_391, .ref q_442, .ref q_496, .ref q_553, .ref q_613, .ref q_676, .int 0, .int 0, .int 0, .int 0, .null, .int 0, .int 0, .int 0, .int 0, .null, .null]) rfl d_Model_init_158 rfl (fun M_720 h_721 fr_722 => ?_)
  have h_723 : M_720 q_1 = some (.inl (cL, 16, .inr (.inl (fun _ => 0)))) := (fr_722 _ (Ne.symm n_6)).trans h_701
  have h_724 : M_720 q_13 = some (.inl (cL, 16, .inr (.inl (fun _ => 0)))) := (fr_722 _ (Ne.symm n_19)).trans h_702
  have h_725 : M_720 q_28 = some (.inl (cI, 61, .inl (fun _ => 0))) := (fr_722 _ (Ne.symm n_35)).trans h_703
  have h_726 : M_720 q_46 = some (.inl (cI, 61, .inl (fun _ => 0))) := (fr_722 _ (Ne.symm n_54)).trans h_704
  have h_727 : M_720 q_67 = some (.inl (cI, 61, .inl (fun _ => 0))) := (fr_722 _ (Ne.symm n_76)).trans h_705
  have h_728 : M_720 q_91 = some (.inl (cI, 61, .inl (fun _ => 0))) := (fr_722 _ (Ne.symm n_101)).trans h_706
  have h_729 : M_720 q_118 = some (.inl (cI, 61, .inl (fun _ => 0))) := (fr_722 _ (Ne.symm n_129)).trans h_707
  have h_730 : M_720 q_148 = some (.inl (cI, 61, .inl (fun _ => 0))) := (fr_722 _ (Ne.symm n_160)).trans h_708
  have h_731 : M_720 q_181 = some (.inl (cI, 61, .inl (fun _ => 0))) := (fr_722 _ (Ne.symm n_194)).trans h_709
  have h_732 : M_720 q_217 = some (.inl (cI, 61, .inl (fun _ => 0))) := (fr_722 _ (Ne.symm n_231)).trans h_710
  have h_733 : M_720 q_256 = some (.inl (cB, 61, .inl (fun _ => 0))) := (fr_722 _ (Ne.symm n_271)).trans h_711
  have h_734 : M_720 q_298 = some (.inl (cI, 488, .inl (fun _ => 0))) := (fr_722 _ (Ne.symm n_314)).trans h_712
  have h_735 : M_720 q_343 = some (.inl (cI, 488, .inl (fun _ => 0))) := (fr_722 _ (Ne.symm n_360)).trans h_713
  have h_736 : M_720 q_391 = some (.inl (cL, 488, .inr (.inl (fun _ => 0)))) := (fr_722 _ (Ne.symm n_409)).trans h_714
  have h_737 : M_720 q_442 = some (.inl (cL, 488, .inr (.inl (fun _ => 0)))) := (fr_722 _ (Ne.symm n_461)).trans h_715
  have h_738 : M_720 q_496 = some (.inl (cL, 488, .inr (.inl (fun _ => 0)))) := (fr_722 _ (Ne.symm n_516)).trans h_716
  have h_739 : M_720 q_553 = some (.inl (cI, 101, .inl (fun _ => 0))) := (fr_722 _ (Ne.symm n_574)).trans h_717
  have h_740 : M_720 q_613 = some (.inl (cI, 101, .inl (fun _ => 0))) := (fr_722 _ (Ne.symm n_635)).trans h_718
  have h_741 : M_720 q_676 = some (.inl (cI, 101, .inl (fun _ => 0))) := (fr_722 _ (Ne.symm n_699)).trans h_679
  refine V.rd (pc' := 162) (fun hl => lv_aload_n X.1 X.2.1 d_Model_init_161 rfl (lv_at hl 0 rfl)) ?_
  refine V.go (pc' := 165) (lv_sipush (v := 4097) X.1 X.2.1 d_Model_init_162 (by decide)) ?_
  refine V.newa (pc' := 167) (atype := .int) X hK 0 (mcs wd_320) rfl rfl rfl (a0 := (4097, .inl (fun _ => 0))) (fun _ => rfl) (by decide) (by decide) (by decide) (by decide) (by decide) d_Model_init_165 rfl (fun q_742 M_743 z_744 h_745 fr_746 => ?_)
  have n_747 : q_1 ≠ q_742 := ne_z h_723 z_744
  have n_748 : q_13 ≠ q_742 := ne_z h_724 z_744
  have n_749 : q_28 ≠ q_742 := ne_z h_725 z_744
  have n_750 : q_46 ≠ q_742 := ne_z h_726 z_744
  have n_751 : q_67 ≠ q_742 := ne_z h_727 z_744
  have n_752 : q_91 ≠ q_742 := ne_z h_728 z_744
  have n_753 : q_118 ≠ q_742 := ne_z h_729 z_744
  have n_754 : q_148 ≠ q_742 := ne_z h_730 z_744
  have n_755 : q_181 ≠ q_742 := ne_z h_731 z_744
  have n_756 : q_217 ≠ q_742 := ne_z h_732 z_744
  have n_757 : q_256 ≠ q_742 := ne_z h_733 z_744
  have n_758 : q_298 ≠ q_742 := ne_z h_734 z_744
  have n_759 : q_343 ≠ q_742 := ne_z h_735 z_744
  have n_760 : q_391 ≠ q_742 := ne_z h_736 z_744
  have n_761 : q_442 ≠ q_742 := ne_z h_737 z_744
  have n_762 : q_496 ≠ q_742 := ne_z h_738 z_744
  have n_763 : q_553 ≠ q_742 := ne_z h_739 z_744
  have n_764 : q_613 ≠ q_742 := ne_z h_740 z_744
  have n_765 : q_676 ≠ q_742 := ne_z h_741 z_744
  have n_766 : mo ≠ q_742 := ne_z h_721 z_744
  have zb_767 : M q_742 = none := ((fr_722 q_742 (Ne.symm n_766)).trans ((fr_680 q_742 (Ne.symm n_765)).trans ((fr_657 q_742 (Ne.symm n_766)).trans ((fr_617 q_742 (Ne.symm n_764)).trans ((fr_595 q_742 (Ne.symm n_766)).trans ((fr_557 q_742 (Ne.symm n_763)).trans ((fr_536 q_742 (Ne.symm n_766)).trans ((fr_500 q_742 (Ne.symm n_762)).trans ((fr_480 q_742 (Ne.symm n_766)).trans ((fr_446 q_742 (Ne.symm n_761)).trans ((fr_427 q_742 (Ne.symm n_766)).trans ((fr_395 q_742 (Ne.symm n_760)).trans ((fr_377 q_742 (Ne.symm n_766)).trans ((fr_347 q_742 (Ne.symm n_759)).trans ((fr_330 q_742 (Ne.symm n_766)).trans ((fr_302 q_742 (Ne.symm n_758)).trans ((fr_286 q_742 (Ne.symm n_766)).trans ((fr_260 q_742 (Ne.symm n_757)).trans ((fr_245 q_742 (Ne.symm n_766)).trans ((fr_221 q_742 (Ne.symm n_756)).trans ((fr_207 q_742 (Ne.symm n_766)).trans ((fr_185 q_742 (Ne.symm n_755)).trans ((fr_172 q_742 (Ne.symm n_766)).trans ((fr_152 q_742 (Ne.symm n_754)).trans ((fr_140 q_742 (Ne.symm n_766)).trans ((fr_122 q_742 (Ne.symm n_753)).trans ((fr_111 q_742 (Ne.symm n_766)).trans ((fr_95 q_742 (Ne.symm n_752)).trans ((fr_85 q_742 (Ne.symm n_766)).trans ((fr_71 q_742 (Ne.symm n_751)).trans ((fr_62 q_742 (Ne.symm n_766)).trans ((fr_50 q_742 (Ne.symm n_750)).trans ((fr_42 q_742 (Ne.symm n_766)).trans ((fr_32 q_742 (Ne.symm n_749)).trans ((fr_25 q_742 (Ne.symm n_766)).trans ((fr_17 q_742 (Ne.symm n_748)).trans ((fr_11 q_742 (Ne.symm n_766)).trans ((fr_5 q_742 (Ne.symm n_747)))))))))))))))))))))))))))))))))))))))).symm.trans z_744
  have h_768 : M_743 q_1 = some (.inl (cL, 16, .inr (.inl (fun _ => 0)))) := (fr_746 _ n_747).trans h_723
  have h_769 : M_743 q_13 = some (.inl (cL, 16, .inr (.inl (fun _ => 0)))) := (fr_746 _ n_748).trans h_724
  have h_770 : M_743 q_28 = some (.inl (cI, 61, .inl (fun _ => 0))) := (fr_746 _ n_749).trans h_725
  have h_771 : M_743 q_46 = some (.inl (cI, 61, .inl (fun _ => 0))) := (fr_746 _ n_750).trans h_726
  have h_772 : M_743 q_67 = some (.inl (cI, 61, .inl (fun _ => 0))) := (fr_746 _ n_751).trans h_727
  have h_773 : M_743 q_91 = some (.inl (cI, 61, .inl (fun _ => 0))) := (fr_746 _ n_752).trans h_728
  have h_774 : M_743 q_118 = some (.inl (cI, 61, .inl (fun _ => 0))) := (fr_746 _ n_753).trans h_729
  have h_775 : M_743 q_148 = some (.inl (cI, 61, .inl (fun _ => 0))) := (fr_746 _ n_754).trans h_730
  have h_776 : M_743 q_181 = some (.inl (cI, 61, .inl (fun _ => 0))) := (fr_746 _ n_755).trans h_731
  have h_777 : M_743 q_217 = some (.inl (cI, 61, .inl (fun _ => 0))) := (fr_746 _ n_756).trans h_732
  have h_778 : M_743 q_256 = some (.inl (cB, 61, .inl (fun _ => 0))) := (fr_746 _ n_757).trans h_733
  have h_779 : M_743 q_298 = some (.inl (cI, 488, .inl (fun _ => 0))) := (fr_746 _ n_758).trans h_734
  have h_780 : M_743 q_343 = some (.inl (cI, 488, .inl (fun _ => 0))) := (fr_746 _ n_759).trans h_735
  have h_781 : M_743 q_391 = some (.inl (cL, 488, .inr (.inl (fun _ => 0)))) := (fr_746 _ n_760).trans h_736
  have h_782 : M_743 q_442 = some (.inl (cL, 488, .inr (.inl (fun _ => 0)))) := (fr_746 _ n_761).trans h_737
  have h_783 : M_743 q_496 = some (.inl (cL, 488, .inr (.inl (fun _ => 0)))) := (fr_746 _ n_762).trans h_738
  have h_784 : M_743 q_553 = some (.inl (cI, 101, .inl (fun _ => 0))) := (fr_746 _ n_763).trans h_739
  have h_785 : M_743 q_613 = some (.inl (cI, 101, .inl (fun _ => 0))) := (fr_746 _ n_764).trans h_740
  have h_786 : M_743 q_676 = some (.inl (cI, 101, .inl (fun _ => 0))) := (fr_746 _ n_765).trans h_741
  have h_787 : M_743 mo = some (.inr (6, [.int 0, .ref q_1, .ref q_13, .int 0, .int 0, .ref q_28, .ref q_46, .ref q_67, .ref q_91, .ref q_118, .ref q_148, .ref q_181, .ref q_217, .ref q_256, .ref q_298, .ref q_343, .ref q_391, .ref q_442, .ref q_496, .ref q_553, .ref q_613, .ref q_676, .int 0, .int 0, .int 0, .int 0, .null, .int 0, .int 0, .int 0, .int 0, .null, .null])) := (fr_746 _ n_766).trans h_721
  refine V.putF (pc' := 170) X hK hnm h_787 uw_Model t_Model tok_Model nm_Model rfl 26 (by decide) (mcs wd_244) rfl rfl rfl rfl (Nat.le_of_ble_eq_true rfl) (fs' := [.int 0, .ref q_1, .ref q_13, .int 0, .int 0, .ref q_28, .ref q_46, .ref q_67, .ref q_91, .ref q_118, .ref q_148, .ref q_181, .ref q_217, .ref q_256, .ref q_298, .ref q_343, .ref q_391, .ref q_442, .ref q_496, .ref q_553, .ref q_613, .ref q_676, .int 0, .int 0, .int 0, .int 0, .ref q_742, .int 0, .int 0, .int 0, .int 0, .null, .null]) rfl d_Model_init_167 rfl (fun M_788 h_789 fr_790 => ?_)
  have h_791 : M_788 q_1 = some (.inl (cL, 16, .inr (.inl (fun _ => 0)))) := (fr_790 _ (Ne.symm n_6)).trans h_768
  have h_792 : M_788 q_13 = some (.inl (cL, 16, .inr (.inl (fun _ => 0)))) := (fr_790 _ (Ne.symm n_19)).trans h_769
  have h_793 : M_788 q_28 = some (.inl (cI, 61, .inl (fun _ => 0))) := (fr_790 _ (Ne.symm n_35)).trans h_770
  have h_794 : M_788 q_46 = some (.inl (cI, 61, .inl (fun _ => 0))) := (fr_790 _ (Ne.symm n_54)).trans h_771
  have h_795 : M_788 q_67 = some (.inl (cI, 61, .inl (fun _ => 0))) := (fr_790 _ (Ne.symm n_76)).trans h_772
  have h_796 : M_788 q_91 = some (.inl (cI, 61, .inl (fun _ => 0))) := (fr_790 _ (Ne.symm n_101)).trans h_773
  have h_797 : M_788 q_118 = some (.inl (cI, 61, .inl (fun _ => 0))) := (fr_790 _ (Ne.symm n_129)).trans h_774
  have h_798 : M_788 q_148 = some (.inl (cI, 61, .inl (fun _ => 0))) := (fr_790 _ (Ne.symm n_160)).trans h_775
  have h_799 : M_788 q_181 = some (.inl (cI, 61, .inl (fun _ => 0))) := (fr_790 _ (Ne.symm n_194)).trans h_776
  have h_800 : M_788 q_217 = some (.inl (cI, 61, .inl (fun _ => 0))) := (fr_790 _ (Ne.symm n_231)).trans h_777
  have h_801 : M_788 q_256 = some (.inl (cB, 61, .inl (fun _ => 0))) := (fr_790 _ (Ne.symm n_271)).trans h_778
  have h_802 : M_788 q_298 = some (.inl (cI, 488, .inl (fun _ => 0))) := (fr_790 _ (Ne.symm n_314)).trans h_779
  have h_803 : M_788 q_343 = some (.inl (cI, 488, .inl (fun _ => 0))) := (fr_790 _ (Ne.symm n_360)).trans h_780
  have h_804 : M_788 q_391 = some (.inl (cL, 488, .inr (.inl (fun _ => 0)))) := (fr_790 _ (Ne.symm n_409)).trans h_781
  have h_805 : M_788 q_442 = some (.inl (cL, 488, .inr (.inl (fun _ => 0)))) := (fr_790 _ (Ne.symm n_461)).trans h_782
  have h_806 : M_788 q_496 = some (.inl (cL, 488, .inr (.inl (fun _ => 0)))) := (fr_790 _ (Ne.symm n_516)).trans h_783
  have h_807 : M_788 q_553 = some (.inl (cI, 101, .inl (fun _ => 0))) := (fr_790 _ (Ne.symm n_574)).trans h_784
  have h_808 : M_788 q_613 = some (.inl (cI, 101, .inl (fun _ => 0))) := (fr_790 _ (Ne.symm n_635)).trans h_785
  have h_809 : M_788 q_676 = some (.inl (cI, 101, .inl (fun _ => 0))) := (fr_790 _ (Ne.symm n_699)).trans h_786
  have h_810 : M_788 q_742 = some (.inl (cI, 4097, .inl (fun _ => 0))) := (fr_790 _ (Ne.symm n_766)).trans h_745
  refine V.rd (pc' := 171) (fun hl => lv_aload_n X.1 X.2.1 d_Model_init_170 rfl (lv_at hl 0 rfl)) ?_
  refine V.go (pc' := 172) (lv_iconst (v := (-1)) X.1 X.2.1 d_Model_init_171 (by decide)) ?_
  refine V.put (pc' := 175) X hK h_789 uw_Model t_Model tok_Model nm_Model rfl 27 (by decide) (mcs wd_258) rfl rfl rfl (Nat.le_of_ble_eq_true rfl) (fs' := [.int 0, .ref q_1, .ref q_13, .int 0, .int 0, .ref q_28, .ref q_46, .ref q_67, .ref q_91, .ref q_118, .ref q_148, .ref q_181, .ref q_217, .ref q_256, .ref q_298, .ref q_343, .ref q_391, .ref q_442, .ref q_496, .ref q_553, .ref q_613, .ref q_676, .int 0, .int 0, .int 0, .int 0, .ref q_742, .int (-1), .int 0, .int 0, .int 0, .null, .null]) rfl d_Model_init_172 rfl (fun M_811 h_812 fr_813 => ?_)
  have h_814 : M_811 q_1 = some (.inl (cL, 16, .inr (.inl (fun _ => 0)))) := (fr_813 _ (Ne.symm n_6)).trans h_791
  have h_815 : M_811 q_13 = some (.inl (cL, 16, .inr (.inl (fun _ => 0)))) := (fr_813 _ (Ne.symm n_19)).trans h_792
  have h_816 : M_811 q_28 = some (.inl (cI, 61, .inl (fun _ => 0))) := (fr_813 _ (Ne.symm n_35)).trans h_793
  have h_817 : M_811 q_46 = some (.inl (cI, 61, .inl (fun _ => 0))) := (fr_813 _ (Ne.symm n_54)).trans h_794
  have h_818 : M_811 q_67 = some (.inl (cI, 61, .inl (fun _ => 0))) := (fr_813 _ (Ne.symm n_76)).trans h_795
  have h_819 : M_811 q_91 = some (.inl (cI, 61, .inl (fun _ => 0))) := (fr_813 _ (Ne.symm n_101)).trans h_796
  have h_820 : M_811 q_118 = some (.inl (cI, 61, .inl (fun _ => 0))) := (fr_813 _ (Ne.symm n_129)).trans h_797
  have h_821 : M_811 q_148 = some (.inl (cI, 61, .inl (fun _ => 0))) := (fr_813 _ (Ne.symm n_160)).trans h_798
  have h_822 : M_811 q_181 = some (.inl (cI, 61, .inl (fun _ => 0))) := (fr_813 _ (Ne.symm n_194)).trans h_799
  have h_823 : M_811 q_217 = some (.inl (cI, 61, .inl (fun _ => 0))) := (fr_813 _ (Ne.symm n_231)).trans h_800
  have h_824 : M_811 q_256 = some (.inl (cB, 61, .inl (fun _ => 0))) := (fr_813 _ (Ne.symm n_271)).trans h_801
  have h_825 : M_811 q_298 = some (.inl (cI, 488, .inl (fun _ => 0))) := (fr_813 _ (Ne.symm n_314)).trans h_802
  have h_826 : M_811 q_343 = some (.inl (cI, 488, .inl (fun _ => 0))) := (fr_813 _ (Ne.symm n_360)).trans h_803
  have h_827 : M_811 q_391 = some (.inl (cL, 488, .inr (.inl (fun _ => 0)))) := (fr_813 _ (Ne.symm n_409)).trans h_804
  have h_828 : M_811 q_442 = some (.inl (cL, 488, .inr (.inl (fun _ => 0)))) := (fr_813 _ (Ne.symm n_461)).trans h_805
  have h_829 : M_811 q_496 = some (.inl (cL, 488, .inr (.inl (fun _ => 0)))) := (fr_813 _ (Ne.symm n_516)).trans h_806
  have h_830 : M_811 q_553 = some (.inl (cI, 101, .inl (fun _ => 0))) := (fr_813 _ (Ne.symm n_574)).trans h_807
  have h_831 : M_811 q_613 = some (.inl (cI, 101, .inl (fun _ => 0))) := (fr_813 _ (Ne.symm n_635)).trans h_808
  have h_832 : M_811 q_676 = some (.inl (cI, 101, .inl (fun _ => 0))) := (fr_813 _ (Ne.symm n_699)).trans h_809
  have h_833 : M_811 q_742 = some (.inl (cI, 4097, .inl (fun _ => 0))) := (fr_813 _ (Ne.symm n_766)).trans h_810
  refine V.rd (pc' := 176) (fun hl => lv_aload_n X.1 X.2.1 d_Model_init_175 rfl (lv_at hl 0 rfl)) ?_
  refine V.go (pc' := 179) (lv_sipush (v := 4097) X.1 X.2.1 d_Model_init_176 (by decide)) ?_
  refine V.newa (pc' := 181) (atype := .int) X hK 0 (mcs wd_320) rfl rfl rfl (a0 := (4097, .inl (fun _ => 0))) (fun _ => rfl) (by decide) (by decide) (by decide) (by decide) (by decide) d_Model_init_179 rfl (fun q_834 M_835 z_836 h_837 fr_838 => ?_)
  have n_839 : q_1 ≠ q_834 := ne_z h_814 z_836
  have n_840 : q_13 ≠ q_834 := ne_z h_815 z_836
  have n_841 : q_28 ≠ q_834 := ne_z h_816 z_836
  have n_842 : q_46 ≠ q_834 := ne_z h_817 z_836
  have n_843 : q_67 ≠ q_834 := ne_z h_818 z_836
  have n_844 : q_91 ≠ q_834 := ne_z h_819 z_836
  have n_845 : q_118 ≠ q_834 := ne_z h_820 z_836
  have n_846 : q_148 ≠ q_834 := ne_z h_821 z_836
  have n_847 : q_181 ≠ q_834 := ne_z h_822 z_836
  have n_848 : q_217 ≠ q_834 := ne_z h_823 z_836
  have n_849 : q_256 ≠ q_834 := ne_z h_824 z_836
  have n_850 : q_298 ≠ q_834 := ne_z h_825 z_836
  have n_851 : q_343 ≠ q_834 := ne_z h_826 z_836
  have n_852 : q_391 ≠ q_834 := ne_z h_827 z_836
  have n_853 : q_442 ≠ q_834 := ne_z h_828 z_836
  have n_854 : q_496 ≠ q_834 := ne_z h_829 z_836
  have n_855 : q_553 ≠ q_834 := ne_z h_830 z_836
  have n_856 : q_613 ≠ q_834 := ne_z h_831 z_836
  have n_857 : q_676 ≠ q_834 := ne_z h_832 z_836
  have n_858 : q_742 ≠ q_834 := ne_z h_833 z_836
  have n_859 : mo ≠ q_834 := ne_z h_812 z_836
  have zb_860 : M q_834 = none := ((fr_813 q_834 (Ne.symm n_859)).trans ((fr_790 q_834 (Ne.symm n_859)).trans ((fr_746 q_834 (Ne.symm n_858)).trans ((fr_722 q_834 (Ne.symm n_859)).trans ((fr_680 q_834 (Ne.symm n_857)).trans ((fr_657 q_834 (Ne.symm n_859)).trans ((fr_617 q_834 (Ne.symm n_856)).trans ((fr_595 q_834 (Ne.symm n_859)).trans ((fr_557 q_834 (Ne.symm n_855)).trans ((fr_536 q_834 (Ne.symm n_859)).trans ((fr_500 q_834 (Ne.symm n_854)).trans ((fr_480 q_834 (Ne.symm n_859)).trans ((fr_446 q_834 (Ne.symm n_853)).trans ((fr_427 q_834 (Ne.symm n_859)).trans ((fr_395 q_834 (Ne.symm n_852)).trans ((fr_377 q_834 (Ne.symm n_859)).trans ((fr_347 q_834 (Ne.symm n_851)).trans ((fr_330 q_834 (Ne.symm n_859)).trans ((fr_302 q_834 (Ne.symm n_850)).trans ((fr_286 q_834 (Ne.symm n_859)).trans ((fr_260 q_834 (Ne.symm n_849)).trans ((fr_245 q_834 (Ne.symm n_859)).trans ((fr_221 q_834 (Ne.symm n_848)).trans ((fr_207 q_834 (Ne.symm n_859)).trans ((fr_185 q_834 (Ne.symm n_847)).trans ((fr_172 q_834 (Ne.symm n_859)).trans ((fr_152 q_834 (Ne.symm n_846)).trans ((fr_140 q_834 (Ne.symm n_859)).trans ((fr_122 q_834 (Ne.symm n_845)).trans ((fr_111 q_834 (Ne.symm n_859)).trans ((fr_95 q_834 (Ne.symm n_844)).trans ((fr_85 q_834 (Ne.symm n_859)).trans ((fr_71 q_834 (Ne.symm n_843)).trans ((fr_62 q_834 (Ne.symm n_859)).trans ((fr_50 q_834 (Ne.symm n_842)).trans ((fr_42 q_834 (Ne.symm n_859)).trans ((fr_32 q_834 (Ne.symm n_841)).trans ((fr_25 q_834 (Ne.symm n_859)).trans ((fr_17 q_834 (Ne.symm n_840)).trans ((fr_11 q_834 (Ne.symm n_859)).trans ((fr_5 q_834 (Ne.symm n_839))))))))))))))))))))))))))))))))))))))))))).symm.trans z_836
  have h_861 : M_835 q_1 = some (.inl (cL, 16, .inr (.inl (fun _ => 0)))) := (fr_838 _ n_839).trans h_814
  have h_862 : M_835 q_13 = some (.inl (cL, 16, .inr (.inl (fun _ => 0)))) := (fr_838 _ n_840).trans h_815
  have h_863 : M_835 q_28 = some (.inl (cI, 61, .inl (fun _ => 0))) := (fr_838 _ n_841).trans h_816
  have h_864 : M_835 q_46 = some (.inl (cI, 61, .inl (fun _ => 0))) := (fr_838 _ n_842).trans h_817
  have h_865 : M_835 q_67 = some (.inl (cI, 61, .inl (fun _ => 0))) := (fr_838 _ n_843).trans h_818
  have h_866 : M_835 q_91 = some (.inl (cI, 61, .inl (fun _ => 0))) := (fr_838 _ n_844).trans h_819
  have h_867 : M_835 q_118 = some (.inl (cI, 61, .inl (fun _ => 0))) := (fr_838 _ n_845).trans h_820
  have h_868 : M_835 q_148 = some (.inl (cI, 61, .inl (fun _ => 0))) := (fr_838 _ n_846).trans h_821
  have h_869 : M_835 q_181 = some (.inl (cI, 61, .inl (fun _ => 0))) := (fr_838 _ n_847).trans h_822
  have h_870 : M_835 q_217 = some (.inl (cI, 61, .inl (fun _ => 0))) := (fr_838 _ n_848).trans h_823
  have h_871 : M_835 q_256 = some (.inl (cB, 61, .inl (fun _ => 0))) := (fr_838 _ n_849).trans h_824
  have h_872 : M_835 q_298 = some (.inl (cI, 488, .inl (fun _ => 0))) := (fr_838 _ n_850).trans h_825
  have h_873 : M_835 q_343 = some (.inl (cI, 488, .inl (fun _ => 0))) := (fr_838 _ n_851).trans h_826
  have h_874 : M_835 q_391 = some (.inl (cL, 488, .inr (.inl (fun _ => 0)))) := (fr_838 _ n_852).trans h_827
  have h_875 : M_835 q_442 = some (.inl (cL, 488, .inr (.inl (fun _ => 0)))) := (fr_838 _ n_853).trans h_828
  have h_876 : M_835 q_496 = some (.inl (cL, 488, .inr (.inl (fun _ => 0)))) := (fr_838 _ n_854).trans h_829
  have h_877 : M_835 q_553 = some (.inl (cI, 101, .inl (fun _ => 0))) := (fr_838 _ n_855).trans h_830
  have h_878 : M_835 q_613 = some (.inl (cI, 101, .inl (fun _ => 0))) := (fr_838 _ n_856).trans h_831
  have h_879 : M_835 q_676 = some (.inl (cI, 101, .inl (fun _ => 0))) := (fr_838 _ n_857).trans h_832
  have h_880 : M_835 q_742 = some (.inl (cI, 4097, .inl (fun _ => 0))) := (fr_838 _ n_858).trans h_833
  have h_881 : M_835 mo = some (.inr (6, [.int 0, .ref q_1, .ref q_13, .int 0, .int 0, .ref q_28, .ref q_46, .ref q_67, .ref q_91, .ref q_118, .ref q_148, .ref q_181, .ref q_217, .ref q_256, .ref q_298, .ref q_343, .ref q_391, .ref q_442, .ref q_496, .ref q_553, .ref q_613, .ref q_676, .int 0, .int 0, .int 0, .int 0, .ref q_742, .int (-1), .int 0, .int 0, .int 0, .null, .null])) := (fr_838 _ n_859).trans h_812
  refine V.putF (pc' := 184) X hK hnm h_881 uw_Model t_Model tok_Model nm_Model rfl 31 (by decide) (mcs wd_262) rfl rfl rfl rfl (Nat.le_of_ble_eq_true rfl) (fs' := [.int 0, .ref q_1, .ref q_13, .int 0, .int 0, .ref q_28, .ref q_46, .ref q_67, .ref q_91, .ref q_118, .ref q_148, .ref q_181, .ref q_217, .ref q_256, .ref q_298, .ref q_343, .ref q_391, .ref q_442, .ref q_496, .ref q_553, .ref q_613, .ref q_676, .int 0, .int 0, .int 0, .int 0, .ref q_742, .int (-1), .int 0, .int 0, .int 0, .ref q_834, .null]) rfl d_Model_init_181 rfl (fun M_882 h_883 fr_884 => ?_)
  have h_885 : M_882 q_1 = some (.inl (cL, 16, .inr (.inl (fun _ => 0)))) := (fr_884 _ (Ne.symm n_6)).trans h_861
  have h_886 : M_882 q_13 = some (.inl (cL, 16, .inr (.inl (fun _ => 0)))) := (fr_884 _ (Ne.symm n_19)).trans h_862
  have h_887 : M_882 q_28 = some (.inl (cI, 61, .inl (fun _ => 0))) := (fr_884 _ (Ne.symm n_35)).trans h_863
  have h_888 : M_882 q_46 = some (.inl (cI, 61, .inl (fun _ => 0))) := (fr_884 _ (Ne.symm n_54)).trans h_864
  have h_889 : M_882 q_67 = some (.inl (cI, 61, .inl (fun _ => 0))) := (fr_884 _ (Ne.symm n_76)).trans h_865
  have h_890 : M_882 q_91 = some (.inl (cI, 61, .inl (fun _ => 0))) := (fr_884 _ (Ne.symm n_101)).trans h_866
  have h_891 : M_882 q_118 = some (.inl (cI, 61, .inl (fun _ => 0))) := (fr_884 _ (Ne.symm n_129)).trans h_867
  have h_892 : M_882 q_148 = some (.inl (cI, 61, .inl (fun _ => 0))) := (fr_884 _ (Ne.symm n_160)).trans h_868
  have h_893 : M_882 q_181 = some (.inl (cI, 61, .inl (fun _ => 0))) := (fr_884 _ (Ne.symm n_194)).trans h_869
  have h_894 : M_882 q_217 = some (.inl (cI, 61, .inl (fun _ => 0))) := (fr_884 _ (Ne.symm n_231)).trans h_870
  have h_895 : M_882 q_256 = some (.inl (cB, 61, .inl (fun _ => 0))) := (fr_884 _ (Ne.symm n_271)).trans h_871
  have h_896 : M_882 q_298 = some (.inl (cI, 488, .inl (fun _ => 0))) := (fr_884 _ (Ne.symm n_314)).trans h_872
  have h_897 : M_882 q_343 = some (.inl (cI, 488, .inl (fun _ => 0))) := (fr_884 _ (Ne.symm n_360)).trans h_873
  have h_898 : M_882 q_391 = some (.inl (cL, 488, .inr (.inl (fun _ => 0)))) := (fr_884 _ (Ne.symm n_409)).trans h_874
  have h_899 : M_882 q_442 = some (.inl (cL, 488, .inr (.inl (fun _ => 0)))) := (fr_884 _ (Ne.symm n_461)).trans h_875
  have h_900 : M_882 q_496 = some (.inl (cL, 488, .inr (.inl (fun _ => 0)))) := (fr_884 _ (Ne.symm n_516)).trans h_876
  have h_901 : M_882 q_553 = some (.inl (cI, 101, .inl (fun _ => 0))) := (fr_884 _ (Ne.symm n_574)).trans h_877
  have h_902 : M_882 q_613 = some (.inl (cI, 101, .inl (fun _ => 0))) := (fr_884 _ (Ne.symm n_635)).trans h_878
  have h_903 : M_882 q_676 = some (.inl (cI, 101, .inl (fun _ => 0))) := (fr_884 _ (Ne.symm n_699)).trans h_879
  have h_904 : M_882 q_742 = some (.inl (cI, 4097, .inl (fun _ => 0))) := (fr_884 _ (Ne.symm n_766)).trans h_880
  have h_905 : M_882 q_834 = some (.inl (cI, 4097, .inl (fun _ => 0))) := (fr_884 _ (Ne.symm n_859)).trans h_837
  refine V.rd (pc' := 185) (fun hl => lv_aload_n X.1 X.2.1 d_Model_init_184 rfl (lv_at hl 0 rfl)) ?_
  refine V.go (pc' := 187) (lv_bipush (v := 101) X.1 X.2.1 d_Model_init_185 (by decide)) ?_
  refine V.newa (pc' := 189) (atype := .int) X hK 0 (mcs wd_320) rfl rfl rfl (a0 := (101, .inl (fun _ => 0))) (fun _ => rfl) (by decide) (by decide) (by decide) (by decide) (by decide) d_Model_init_187 rfl (fun q_906 M_907 z_908 h_909 fr_910 => ?_)
  have n_911 : q_1 ≠ q_906 := ne_z h_885 z_908
  have n_912 : q_13 ≠ q_906 := ne_z h_886 z_908
  have n_913 : q_28 ≠ q_906 := ne_z h_887 z_908
  have n_914 : q_46 ≠ q_906 := ne_z h_888 z_908
  have n_915 : q_67 ≠ q_906 := ne_z h_889 z_908
  have n_916 : q_91 ≠ q_906 := ne_z h_890 z_908
  have n_917 : q_118 ≠ q_906 := ne_z h_891 z_908
  have n_918 : q_148 ≠ q_906 := ne_z h_892 z_908
  have n_919 : q_181 ≠ q_906 := ne_z h_893 z_908
  have n_920 : q_217 ≠ q_906 := ne_z h_894 z_908
  have n_921 : q_256 ≠ q_906 := ne_z h_895 z_908
  have n_922 : q_298 ≠ q_906 := ne_z h_896 z_908
  have n_923 : q_343 ≠ q_906 := ne_z h_897 z_908
  have n_924 : q_391 ≠ q_906 := ne_z h_898 z_908
  have n_925 : q_442 ≠ q_906 := ne_z h_899 z_908
  have n_926 : q_496 ≠ q_906 := ne_z h_900 z_908
  have n_927 : q_553 ≠ q_906 := ne_z h_901 z_908
  have n_928 : q_613 ≠ q_906 := ne_z h_902 z_908
  have n_929 : q_676 ≠ q_906 := ne_z h_903 z_908
  have n_930 : q_742 ≠ q_906 := ne_z h_904 z_908
  have n_931 : q_834 ≠ q_906 := ne_z h_905 z_908
  have n_932 : mo ≠ q_906 := ne_z h_883 z_908
  have zb_933 : M q_906 = none := ((fr_884 q_906 (Ne.symm n_932)).trans ((fr_838 q_906 (Ne.symm n_931)).trans ((fr_813 q_906 (Ne.symm n_932)).trans ((fr_790 q_906 (Ne.symm n_932)).trans ((fr_746 q_906 (Ne.symm n_930)).trans ((fr_722 q_906 (Ne.symm n_932)).trans ((fr_680 q_906 (Ne.symm n_929)).trans ((fr_657 q_906 (Ne.symm n_932)).trans ((fr_617 q_906 (Ne.symm n_928)).trans ((fr_595 q_906 (Ne.symm n_932)).trans ((fr_557 q_906 (Ne.symm n_927)).trans ((fr_536 q_906 (Ne.symm n_932)).trans ((fr_500 q_906 (Ne.symm n_926)).trans ((fr_480 q_906 (Ne.symm n_932)).trans ((fr_446 q_906 (Ne.symm n_925)).trans ((fr_427 q_906 (Ne.symm n_932)).trans ((fr_395 q_906 (Ne.symm n_924)).trans ((fr_377 q_906 (Ne.symm n_932)).trans ((fr_347 q_906 (Ne.symm n_923)).trans ((fr_330 q_906 (Ne.symm n_932)).trans ((fr_302 q_906 (Ne.symm n_922)).trans ((fr_286 q_906 (Ne.symm n_932)).trans ((fr_260 q_906 (Ne.symm n_921)).trans ((fr_245 q_906 (Ne.symm n_932)).trans ((fr_221 q_906 (Ne.symm n_920)).trans ((fr_207 q_906 (Ne.symm n_932)).trans ((fr_185 q_906 (Ne.symm n_919)).trans ((fr_172 q_906 (Ne.symm n_932)).trans ((fr_152 q_906 (Ne.symm n_918)).trans ((fr_140 q_906 (Ne.symm n_932)).trans ((fr_122 q_906 (Ne.symm n_917)).trans ((fr_111 q_906 (Ne.symm n_932)).trans ((fr_95 q_906 (Ne.symm n_916)).trans ((fr_85 q_906 (Ne.symm n_932)).trans ((fr_71 q_906 (Ne.symm n_915)).trans ((fr_62 q_906 (Ne.symm n_932)).trans ((fr_50 q_906 (Ne.symm n_914)).trans ((fr_42 q_906 (Ne.symm n_932)).trans ((fr_32 q_906 (Ne.symm n_913)).trans ((fr_25 q_906 (Ne.symm n_932)).trans ((fr_17 q_906 (Ne.symm n_912)).trans ((fr_11 q_906 (Ne.symm n_932)).trans ((fr_5 q_906 (Ne.symm n_911))))))))))))))))))))))))))))))))))))))))))))).symm.trans z_908
  have h_934 : M_907 q_1 = some (.inl (cL, 16, .inr (.inl (fun _ => 0)))) := (fr_910 _ n_911).trans h_885
  have h_935 : M_907 q_13 = some (.inl (cL, 16, .inr (.inl (fun _ => 0)))) := (fr_910 _ n_912).trans h_886
  have h_936 : M_907 q_28 = some (.inl (cI, 61, .inl (fun _ => 0))) := (fr_910 _ n_913).trans h_887
  have h_937 : M_907 q_46 = some (.inl (cI, 61, .inl (fun _ => 0))) := (fr_910 _ n_914).trans h_888
  have h_938 : M_907 q_67 = some (.inl (cI, 61, .inl (fun _ => 0))) := (fr_910 _ n_915).trans h_889
  have h_939 : M_907 q_91 = some (.inl (cI, 61, .inl (fun _ => 0))) := (fr_910 _ n_916).trans h_890
  have h_940 : M_907 q_118 = some (.inl (cI, 61, .inl (fun _ => 0))) := (fr_910 _ n_917).trans h_891
  have h_941 : M_907 q_148 = some (.inl (cI, 61, .inl (fun _ => 0))) := (fr_910 _ n_918).trans h_892
  have h_942 : M_907 q_181 = some (.inl (cI, 61, .inl (fun _ => 0))) := (fr_910 _ n_919).trans h_893
  have h_943 : M_907 q_217 = some (.inl (cI, 61, .inl (fun _ => 0))) := (fr_910 _ n_920).trans h_894
  have h_944 : M_907 q_256 = some (.inl (cB, 61, .inl (fun _ => 0))) := (fr_910 _ n_921).trans h_895
  have h_945 : M_907 q_298 = some (.inl (cI, 488, .inl (fun _ => 0))) := (fr_910 _ n_922).trans h_896
  have h_946 : M_907 q_343 = some (.inl (cI, 488, .inl (fun _ => 0))) := (fr_910 _ n_923).trans h_897
  have h_947 : M_907 q_391 = some (.inl (cL, 488, .inr (.inl (fun _ => 0)))) := (fr_910 _ n_924).trans h_898
  have h_948 : M_907 q_442 = some (.inl (cL, 488, .inr (.inl (fun _ => 0)))) := (fr_910 _ n_925).trans h_899
  have h_949 : M_907 q_496 = some (.inl (cL, 488, .inr (.inl (fun _ => 0)))) := (fr_910 _ n_926).trans h_900
  have h_950 : M_907 q_553 = some (.inl (cI, 101, .inl (fun _ => 0))) := (fr_910 _ n_927).trans h_901
  have h_951 : M_907 q_613 = some (.inl (cI, 101, .inl (fun _ => 0))) := (fr_910 _ n_928).trans h_902
  have h_952 : M_907 q_676 = some (.inl (cI, 101, .inl (fun _ => 0))) := (fr_910 _ n_929).trans h_903
  have h_953 : M_907 q_742 = some (.inl (cI, 4097, .inl (fun _ => 0))) := (fr_910 _ n_930).trans h_904
  have h_954 : M_907 q_834 = some (.inl (cI, 4097, .inl (fun _ => 0))) := (fr_910 _ n_931).trans h_905
  have h_955 : M_907 mo = some (.inr (6, [.int 0, .ref q_1, .ref q_13, .int 0, .int 0, .ref q_28, .ref q_46, .ref q_67, .ref q_91, .ref q_118, .ref q_148, .ref q_181, .ref q_217, .ref q_256, .ref q_298, .ref q_343, .ref q_391, .ref q_442, .ref q_496, .ref q_553, .ref q_613, .ref q_676, .int 0, .int 0, .int 0, .int 0, .ref q_742, .int (-1), .int 0, .int 0, .int 0, .ref q_834, .null])) := (fr_910 _ n_932).trans h_883
  refine V.putF (pc' := 192) X hK hnm h_955 uw_Model t_Model tok_Model nm_Model rfl 32 (by decide) (mcs wd_263) rfl rfl rfl rfl (Nat.le_of_ble_eq_true rfl) (fs' := [.int 0, .ref q_1, .ref q_13, .int 0, .int 0, .ref q_28, .ref q_46, .ref q_67, .ref q_91, .ref q_118, .ref q_148, .ref q_181, .ref q_217, .ref q_256, .ref q_298, .ref q_343, .ref q_391, .ref q_442, .ref q_496, .ref q_553, .ref q_613, .ref q_676, .int 0, .int 0, .int 0, .int 0, .ref q_742, .int (-1), .int 0, .int 0, .int 0, .ref q_834, .ref q_906]) rfl d_Model_init_189 rfl (fun M_956 h_957 fr_958 => ?_)
  have h_959 : M_956 q_1 = some (.inl (cL, 16, .inr (.inl (fun _ => 0)))) := (fr_958 _ (Ne.symm n_6)).trans h_934
  have h_960 : M_956 q_13 = some (.inl (cL, 16, .inr (.inl (fun _ => 0)))) := (fr_958 _ (Ne.symm n_19)).trans h_935
  have h_961 : M_956 q_28 = some (.inl (cI, 61, .inl (fun _ => 0))) := (fr_958 _ (Ne.symm n_35)).trans h_936
  have h_962 : M_956 q_46 = some (.inl (cI, 61, .inl (fun _ => 0))) := (fr_958 _ (Ne.symm n_54)).trans h_937
  have h_963 : M_956 q_67 = some (.inl (cI, 61, .inl (fun _ => 0))) := (fr_958 _ (Ne.symm n_76)).trans h_938
  have h_964 : M_956 q_91 = some (.inl (cI, 61, .inl (fun _ => 0))) := (fr_958 _ (Ne.symm n_101)).trans h_939
  have h_965 : M_956 q_118 = some (.inl (cI, 61, .inl (fun _ => 0))) := (fr_958 _ (Ne.symm n_129)).trans h_940
  have h_966 : M_956 q_148 = some (.inl (cI, 61, .inl (fun _ => 0))) := (fr_958 _ (Ne.symm n_160)).trans h_941
  have h_967 : M_956 q_181 = some (.inl (cI, 61, .inl (fun _ => 0))) := (fr_958 _ (Ne.symm n_194)).trans h_942
  have h_968 : M_956 q_217 = some (.inl (cI, 61, .inl (fun _ => 0))) := (fr_958 _ (Ne.symm n_231)).trans h_943
  have h_969 : M_956 q_256 = some (.inl (cB, 61, .inl (fun _ => 0))) := (fr_958 _ (Ne.symm n_271)).trans h_944
  have h_970 : M_956 q_298 = some (.inl (cI, 488, .inl (fun _ => 0))) := (fr_958 _ (Ne.symm n_314)).trans h_945
  have h_971 : M_956 q_343 = some (.inl (cI, 488, .inl (fun _ => 0))) := (fr_958 _ (Ne.symm n_360)).trans h_946
  have h_972 : M_956 q_391 = some (.inl (cL, 488, .inr (.inl (fun _ => 0)))) := (fr_958 _ (Ne.symm n_409)).trans h_947
  have h_973 : M_956 q_442 = some (.inl (cL, 488, .inr (.inl (fun _ => 0)))) := (fr_958 _ (Ne.symm n_461)).trans h_948
  have h_974 : M_956 q_496 = some (.inl (cL, 488, .inr (.inl (fun _ => 0)))) := (fr_958 _ (Ne.symm n_516)).trans h_949
  have h_975 : M_956 q_553 = some (.inl (cI, 101, .inl (fun _ => 0))) := (fr_958 _ (Ne.symm n_574)).trans h_950
  have h_976 : M_956 q_613 = some (.inl (cI, 101, .inl (fun _ => 0))) := (fr_958 _ (Ne.symm n_635)).trans h_951
  have h_977 : M_956 q_676 = some (.inl (cI, 101, .inl (fun _ => 0))) := (fr_958 _ (Ne.symm n_699)).trans h_952
  have h_978 : M_956 q_742 = some (.inl (cI, 4097, .inl (fun _ => 0))) := (fr_958 _ (Ne.symm n_766)).trans h_953
  have h_979 : M_956 q_834 = some (.inl (cI, 4097, .inl (fun _ => 0))) := (fr_958 _ (Ne.symm n_859)).trans h_954
  have h_980 : M_956 q_906 = some (.inl (cI, 101, .inl (fun _ => 0))) := (fr_958 _ (Ne.symm n_932)).trans h_909
  exact V.vret X hr hlk ⟨rfl, q_1, q_13, q_28, q_46, q_67, q_91, q_118, q_148, q_181, q_217, q_256, q_298, q_343, q_391, q_442, q_496, q_553, q_613, q_676, q_742, q_834, q_906, zb_7, zb_20, zb_36, zb_55, zb_77, zb_102, zb_130, zb_161, zb_195, zb_232, zb_272, zb_315, zb_361, zb_410, zb_462, zb_517, zb_575, zb_636, zb_700, zb_767, zb_860, zb_933, n_18, n_33, n_51, n_72, n_96, n_123, n_153, n_186, n_222, n_261, n_303, n_348, n_396, n_447, n_501, n_558, n_618, n_681, n_747, n_839, n_911, n_34, n_52, n_73, n_97, n_124, n_154, n_187, n_223, n_262, n_304, n_349, n_397, n_448, n_502, n_559, n_619, n_682, n_748, n_840, n_912, n_53, n_74, n_98, n_125, n_155, n_188, n_224, n_263, n_305, n_350, n_398, n_449, n_503, n_560, n_620, n_683, n_749, n_841, n_913, n_75, n_99, n_126, n_156, n_189, n_225, n_264, n_306, n_351, n_399, n_450, n_504, n_561, n_621, n_684, n_750, n_842, n_914, n_100, n_127, n_157, n_190, n_226, n_265, n_307, n_352, n_400, n_451, n_505, n_562, n_622, n_685, n_751, n_843, n_915, n_128, n_158, n_191, n_227, n_266, n_308, n_353, n_401, n_452, n_506, n_563, n_623, n_686, n_752, n_844, n_916, n_159, n_192, n_228, n_267, n_309, n_354, n_402, n_453, n_507, n_564, n_624, n_687, n_753, n_845, n_917, n_193, n_229, n_268, n_310, n_355, n_403, n_454, n_508, n_565, n_625, n_688, n_754, n_846, n_918, n_230, n_269, n_311, n_356, n_404, n_455, n_509, n_566, n_626, n_689, n_755, n_847, n_919, n_270, n_312, n_357, n_405, n_456, n_510, n_567, n_627, n_690, n_756, n_848, n_920, n_313, n_358, n_406, n_457, n_511, n_568, n_628, n_691, n_757, n_849, n_921, n_359, n_407, n_458, n_512, n_569, n_629, n_692, n_758, n_850, n_922, n_408, n_459, n_513, n_570, n_630, n_693, n_759, n_851, n_923, n_460, n_514, n_571, n_631, n_694, n_760, n_852, n_924, n_515, n_572, n_632, n_695, n_761, n_853, n_925, n_573, n_633, n_696, n_762, n_854, n_926, n_634, n_697, n_763, n_855, n_927, n_698, n_764, n_856, n_928, n_765, n_857, n_929, n_858, n_930, n_931, h_957, h_959, h_960, h_961, h_962, h_963, h_964, h_965, h_966, h_967, h_968, h_969, h_970, h_971, h_972, h_973, h_974, h_975, h_976, h_977, h_978, h_979, h_980, (fun q n0_ n1_ n2_ n3_ n4_ n5_ n6_ n7_ n8_ n9_ n10_ n11_ n12_ n13_ n14_ n15_ n16_ n17_ n18_ n19_ n20_ n21_ n22_ => (fr_958 q n0_).trans ((fr_910 q n22_).trans ((fr_884 q n0_).trans ((fr_838 q n21_).trans ((fr_813 q n0_).trans ((fr_790 q n0_).trans ((fr_746 q n20_).trans ((fr_722 q n0_).trans ((fr_680 q n19_).trans ((fr_657 q n0_).trans ((fr_617 q n18_).trans ((fr_595 q n0_).trans ((fr_557 q n17_).trans ((fr_536 q n0_).trans ((fr_500 q n16_).trans ((fr_480 q n0_).trans ((fr_446 q n15_).trans ((fr_427 q n0_).trans ((fr_395 q n14_).trans ((fr_377 q n0_).trans ((fr_347 q n13_).trans ((fr_330 q n0_).trans ((fr_302 q n12_).trans ((fr_286 q n0_).trans ((fr_260 q n11_).trans ((fr_245 q n0_).trans ((fr_221 q n10_).trans ((fr_207 q n0_).trans ((fr_185 q n9_).trans ((fr_172 q n0_).trans ((fr_152 q n8_).trans ((fr_140 q n0_).trans ((fr_122 q n7_).trans ((fr_111 q n0_).trans ((fr_95 q n6_).trans ((fr_85 q n0_).trans ((fr_71 q n5_).trans ((fr_62 q n0_).trans ((fr_50 q n4_).trans ((fr_42 q n0_).trans ((fr_32 q n3_).trans ((fr_25 q n0_).trans ((fr_17 q n2_).trans ((fr_11 q n0_).trans ((fr_5 q n1_))))))))))))))))))))))))))))))))))))))))))))))⟩ d_Model_init_192
