theorem wd_314 : (Jvm.Cond.methodLink "PerformRanges$Cells" (3 : Nat) ({ cls := "java/lang/Object", name := "<init>", desc := "()V" } : Jvm.MethodName)) ∈ GW := gw_of (i := 89) (by decide +kernel) (by decide +kernel)
theorem wd_315 : (Jvm.Cond.instanceMethod ({ cls := "java/lang/Object", name := "<init>", desc := "()V" } : Jvm.MethodName)) ∈ GW := gw_of (i := 49) (by decide +kernel) (by decide +kernel)
theorem wd_316 : (Jvm.Cond.code ({ cls := "java/lang/Object", name := "<init>", desc := "()V" } : Jvm.MethodName) object_method_1_code (1 : Nat) (Option.none : Option Jvm.ClassFile.FieldType)) ∈ GW := gw_of (i := 50) (by decide +kernel) (by decide +kernel)
theorem wd_317 : (Jvm.Cond.arrayClass Jvm.ClassFile.FieldType.long) ∈ GW := gw_of (i := 94) (by decide +kernel) (by decide +kernel)
theorem wd_318 : (Jvm.Cond.methodLink "PerformRanges$Pile" (3 : Nat) ({ cls := "java/lang/Object", name := "<init>", desc := "()V" } : Jvm.MethodName)) ∈ GW := gw_of (i := 100) (by decide +kernel) (by decide +kernel)
theorem wd_319 : (Jvm.Cond.classLink "PerformRanges$Pile" (9 : Nat) "PerformRanges$Statement") ∈ GW := gw_of (i := 101) (by decide +kernel) (by decide +kernel)
theorem wd_320 : (Jvm.Cond.arrayClass Jvm.ClassFile.FieldType.int) ∈ GW := gw_of (i := 77) (by decide +kernel) (by decide +kernel)
theorem wd_321 : (Jvm.Cond.methodLink "PerformRanges$Program" (3 : Nat) ({ cls := "java/lang/Object", name := "<init>", desc := "()V" } : Jvm.MethodName)) ∈ GW := gw_of (i := 56) (by decide +kernel) (by decide +kernel)
theorem wd_322 : (Jvm.Cond.classLink "PerformRanges$Program" (18 : Nat) "PerformRanges$Statement") ∈ GW := gw_of (i := 57) (by decide +kernel) (by decide +kernel)
theorem wd_323 : (Jvm.Cond.methodLink "PerformRanges$Course" (3 : Nat) ({ cls := "java/lang/Object", name := "<init>", desc := "()V" } : Jvm.MethodName)) ∈ GW := gw_of (i := 83) (by decide +kernel) (by decide +kernel)
theorem wd_324 : (Jvm.Cond.classLink "PerformRanges$Course" (9 : Nat) "PerformRanges$Cells") ∈ GW := gw_of (i := 84) (by decide +kernel) (by decide +kernel)
theorem wd_325 : (Jvm.Cond.instantiable "PerformRanges$Cells" (1 : Nat)) ∈ GW := gw_of (i := 85) (by decide +kernel) (by decide +kernel)
theorem wd_326 : (Jvm.Cond.instanceMethod ({ cls := "PerformRanges$Cells", name := "<init>", desc := "()V" } : Jvm.MethodName)) ∈ GW := gw_of (i := 87) (by decide +kernel) (by decide +kernel)
theorem wd_327 : (Jvm.Cond.code ({ cls := "PerformRanges$Cells", name := "<init>", desc := "()V" } : Jvm.MethodName) prog_2_method_1_code (1 : Nat) (Option.none : Option Jvm.ClassFile.FieldType)) ∈ GW := gw_of (i := 88) (by decide +kernel) (by decide +kernel)
theorem wd_328 : (Jvm.Cond.classLink "PerformRanges$Course" (18 : Nat) "PerformRanges$Pile") ∈ GW := gw_of (i := 95) (by decide +kernel) (by decide +kernel)
theorem wd_329 : (Jvm.Cond.instantiable "PerformRanges$Pile" (5 : Nat)) ∈ GW := gw_of (i := 96) (by decide +kernel) (by decide +kernel)
theorem wd_330 : (Jvm.Cond.instanceMethod ({ cls := "PerformRanges$Pile", name := "<init>", desc := "()V" } : Jvm.MethodName)) ∈ GW := gw_of (i := 98) (by decide +kernel) (by decide +kernel)
theorem wd_331 : (Jvm.Cond.code ({ cls := "PerformRanges$Pile", name := "<init>", desc := "()V" } : Jvm.MethodName) prog_4_method_1_code (1 : Nat) (Option.none : Option Jvm.ClassFile.FieldType)) ∈ GW := gw_of (i := 99) (by decide +kernel) (by decide +kernel)
theorem wd_332 : (Jvm.Cond.methodLink "PerformRanges$Statement" (3 : Nat) ({ cls := "java/lang/Object", name := "<init>", desc := "()V" } : Jvm.MethodName)) ∈ GW := gw_of (i := 177) (by decide +kernel) (by decide +kernel)
theorem wd_333 : (Jvm.Cond.fieldLink "PerformRanges$Statement" (28 : Nat) "PerformRanges$Statement" "from" "I") ∈ GW := gw_of (i := 178) (by decide +kernel) (by decide +kernel)
theorem wd_334 : (Jvm.Cond.fieldLink "PerformRanges$Statement" (32 : Nat) "PerformRanges$Statement" "to" "I") ∈ GW := gw_of (i := 180) (by decide +kernel) (by decide +kernel)
theorem wd_335 : (Jvm.Cond.methodLink "PerformRanges" (1 : Nat) ({ cls := "java/lang/Object", name := "<init>", desc := "()V" } : Jvm.MethodName)) ∈ GW := gw_of (i := 48) (by decide +kernel) (by decide +kernel)
theorem wd_336 : (Jvm.Cond.classLink "PerformRanges" (7 : Nat) "PerformRanges$Program") ∈ GW := gw_of (i := 51) (by decide +kernel) (by decide +kernel)
theorem wd_337 : (Jvm.Cond.instantiable "PerformRanges$Program" (5 : Nat)) ∈ GW := gw_of (i := 52) (by decide +kernel) (by decide +kernel)
theorem wd_338 : (Jvm.Cond.instanceMethod ({ cls := "PerformRanges$Program", name := "<init>", desc := "()V" } : Jvm.MethodName)) ∈ GW := gw_of (i := 54) (by decide +kernel) (by decide +kernel)
theorem wd_339 : (Jvm.Cond.code ({ cls := "PerformRanges$Program", name := "<init>", desc := "()V" } : Jvm.MethodName) prog_5_method_1_code (1 : Nat) (Option.none : Option Jvm.ClassFile.FieldType)) ∈ GW := gw_of (i := 55) (by decide +kernel) (by decide +kernel)
theorem wd_340 : (Jvm.Cond.classLink "PerformRanges" (16 : Nat) "PerformRanges$Course") ∈ GW := gw_of (i := 78) (by decide +kernel) (by decide +kernel)
theorem wd_341 : (Jvm.Cond.instantiable "PerformRanges$Course" (6 : Nat)) ∈ GW := gw_of (i := 79) (by decide +kernel) (by decide +kernel)
theorem wd_342 : (Jvm.Cond.methodLink "PerformRanges" (18 : Nat) ({ cls := "PerformRanges$Course", name := "<init>", desc := "(LPerformRanges$Program;[I)V" } : Jvm.MethodName)) ∈ GW := gw_of (i := 80) (by decide +kernel) (by decide +kernel)
theorem wd_343 : (Jvm.Cond.instanceMethod ({ cls := "PerformRanges$Course", name := "<init>", desc := "(LPerformRanges$Program;[I)V" } : Jvm.MethodName)) ∈ GW := gw_of (i := 81) (by decide +kernel) (by decide +kernel)
theorem wd_344 : (Jvm.Cond.code ({ cls := "PerformRanges$Course", name := "<init>", desc := "(LPerformRanges$Program;[I)V" } : Jvm.MethodName) prog_3_method_1_code (3 : Nat) (Option.none : Option Jvm.ClassFile.FieldType)) ∈ GW := gw_of (i := 82) (by decide +kernel) (by decide +kernel)
theorem d_Cells_init_0 : decode prog_2_method_1_code 0 = .ok (.aload_n 0, 1) := by decide +kernel
theorem d_Cells_init_1 : decode prog_2_method_1_code 1 = .ok (.invokespecial 3, 3) := by decide +kernel
theorem d_Cells_init_4 : decode prog_2_method_1_code 4 = .ok (.aload_n 0, 1) := by decide +kernel
theorem d_Cells_init_5 : decode prog_2_method_1_code 5 = .ok (.bipush 16, 2) := by decide +kernel
theorem d_Cells_init_7 : decode prog_2_method_1_code 7 = .ok (.newarray .long, 2) := by decide +kernel
theorem d_Cells_init_9 : decode prog_2_method_1_code 9 = .ok (.putfield 9, 3) := by decide +kernel
theorem d_Cells_init_12 : decode prog_2_method_1_code 12 = .ok (.return_, 1) := by decide +kernel

set_option maxHeartbeats 4000000 in
set_option maxRecDepth 100000 in
theorem c_Cells_init {l : Launch} {H0 : Heap} {D : va_G} {cI cL cQ cB : ClassId} {M : mp} {ce : Nat} (gh0 : M ce = some (.inr (0, [.null]))) : MC l H0 D cls7 (tysOf cI cL cQ cB) NW ({ cls := "PerformRanges$Cells", name := "<init>", desc := "()V" } : Jvm.MethodName) (Cond.code ({ cls := "PerformRanges$Cells", name := "<init>", desc := "()V" } : Jvm.MethodName) prog_2_method_1_code 1 (Option.none : Option Jvm.ClassFile.FieldType) :: GW) ({ frames := 1, cells := 1, slots := 16, locals := 21 }) [.ref ce] M (fun v M' => v = none ∧ ∃ nq0 : Nat, M nq0 = none ∧ M' ce = some (.inr (0, [.ref nq0])) ∧ M' nq0 = some (.inl (cL, 16, .inr (.inl (fun _ => 0)))) ∧ (∀ q, q ≠ ce → q ≠ nq0 → M' q = M q)) := by
  refine MC.of (cc := prog_2_method_1_code) (nL := 1) (ret := (Option.none : Option Jvm.ClassFile.FieldType)) (lv := [(0, .ref ce)]) (by decide) rfl (Nat.le_of_ble_eq_true rfl) rfl ?_
  intro p e s m below meth c X hr hlk hnm hK
  refine V.rd (pc' := 1) (fun hl => lv_aload_n X.1 X.2.1 d_Cells_init_0 rfl (lv_at hl 0 rfl)) ?_
  refine V.obj (pc' := 4) X (mcs wd_314) (mcs wd_315) (mcs wd_316) (Nat.le_of_ble_eq_true rfl) d_Cells_init_1 (by decide) (by decide) rfl ?_
  refine V.rd (pc' := 5) (fun hl => lv_aload_n X.1 X.2.1 d_Cells_init_4 rfl (lv_at hl 0 rfl)) ?_
  refine V.go (pc' := 7) (lv_bipush (v := 16) X.1 X.2.1 d_Cells_init_5 (by decide)) ?_
  refine V.newa (pc' := 9) (atype := .long) X hK 1 (mcs wd_317) rfl rfl rfl (a0 := (16, .inr (.inl (fun _ => 0)))) (fun _ => rfl) (by decide) (by decide) (by decide) (by decide) (by decide) d_Cells_init_7 rfl (fun q_1 M_2 z_3 h_4 fr_5 => ?_)
  have n_6 : ce ≠ q_1 := ne_z gh0 z_3
  have zb_7 : M q_1 = none := z_3
  have h_8 : M_2 ce = some (.inr (0, [.null])) := (fr_5 _ n_6).trans gh0
  refine V.putF (pc' := 12) X hK hnm h_8 uw_Cells t_Cells tok_Cells nm_Cells rfl 0 (by decide) (mcs wd_0) rfl rfl rfl rfl (Nat.le_of_ble_eq_true rfl) (fs' := [.ref q_1]) rfl d_Cells_init_9 rfl (fun M_9 h_10 fr_11 => ?_)
  have h_12 : M_9 q_1 = some (.inl (cL, 16, .inr (.inl (fun _ => 0)))) := (fr_11 _ (Ne.symm n_6)).trans h_4
  exact V.vret X hr hlk ⟨rfl, q_1, zb_7, h_10, h_12, (fun q n0_ n1_ => (fr_11 q n0_).trans ((fr_5 q n1_)))⟩ d_Cells_init_12

theorem d_Pile_init_0 : decode prog_4_method_1_code 0 = .ok (.aload_n 0, 1) := by decide +kernel
theorem d_Pile_init_1 : decode prog_4_method_1_code 1 = .ok (.invokespecial 3, 3) := by decide +kernel
theorem d_Pile_init_4 : decode prog_4_method_1_code 4 = .ok (.aload_n 0, 1) := by decide +kernel
theorem d_Pile_init_5 : decode prog_4_method_1_code 5 = .ok (.bipush 100, 2) := by decide +kernel
theorem d_Pile_init_7 : decode prog_4_method_1_code 7 = .ok (.anewarray 9, 3) := by decide +kernel
theorem d_Pile_init_10 : decode prog_4_method_1_code 10 = .ok (.putfield 11, 3) := by decide +kernel
theorem d_Pile_init_13 : decode prog_4_method_1_code 13 = .ok (.aload_n 0, 1) := by decide +kernel
theorem d_Pile_init_14 : decode prog_4_method_1_code 14 = .ok (.bipush 100, 2) := by decide +kernel
theorem d_Pile_init_16 : decode prog_4_method_1_code 16 = .ok (.newarray .int, 2) := by decide +kernel
theorem d_Pile_init_18 : decode prog_4_method_1_code 18 = .ok (.putfield 17, 3) := by decide +kernel
theorem d_Pile_init_21 : decode prog_4_method_1_code 21 = .ok (.aload_n 0, 1) := by decide +kernel
theorem d_Pile_init_22 : decode prog_4_method_1_code 22 = .ok (.bipush 100, 2) := by decide +kernel
theorem d_Pile_init_24 : decode prog_4_method_1_code 24 = .ok (.newarray .int, 2) := by decide +kernel
theorem d_Pile_init_26 : decode prog_4_method_1_code 26 = .ok (.putfield 21, 3) := by decide +kernel
theorem d_Pile_init_29 : decode prog_4_method_1_code 29 = .ok (.return_, 1) := by decide +kernel

set_option maxHeartbeats 4000000 in
set_option maxRecDepth 100000 in
theorem c_Pile_init {l : Launch} {H0 : Heap} {D : va_G} {cI cL cQ cB : ClassId} {M : mp} {pi : Nat} (gh0 : M pi = some (.inr (2, [.null, .null, .null, .int 0, .int 0]))) : MC l H0 D cls7 (tysOf cI cL cQ cB) NW ({ cls := "PerformRanges$Pile", name := "<init>", desc := "()V" } : Jvm.MethodName) (Cond.code ({ cls := "PerformRanges$Pile", name := "<init>", desc := "()V" } : Jvm.MethodName) prog_4_method_1_code 1 (Option.none : Option Jvm.ClassFile.FieldType) :: GW) ({ frames := 1, cells := 3, slots := 300, locals := 21 }) [.ref pi] M (fun v M' => v = none ∧ ∃ nq0 nq1 nq2 : Nat, M nq0 = none ∧ M nq1 = none ∧ M nq2 = none ∧ nq0 ≠ nq1 ∧ nq0 ≠ nq2 ∧ nq1 ≠ nq2 ∧ M' pi = some (.inr (2, [.ref nq0, .ref nq1, .ref nq2, .int 0, .int 0])) ∧ M' nq0 = some (.inl (cQ, 100, .inr (.inr (.inr (.inr (fun _ => none)))))) ∧ M' nq1 = some (.inl (cI, 100, .inl (fun _ => 0))) ∧ M' nq2 = some (.inl (cI, 100, .inl (fun _ => 0))) ∧ (∀ q, q ≠ pi → q ≠ nq0 → q ≠ nq1 → q ≠ nq2 → M' q = M q)) := by
  refine MC.of (cc := prog_4_method_1_code) (nL := 1) (ret := (Option.none : Option Jvm.ClassFile.FieldType)) (lv := [(0, .ref pi)]) (by decide) rfl (Nat.le_of_ble_eq_true rfl) rfl ?_
  intro p e s m below meth c X hr hlk hnm hK
  refine V.rd (pc' := 1) (fun hl => lv_aload_n X.1 X.2.1 d_Pile_init_0 rfl (lv_at hl 0 rfl)) ?_
  refine V.obj (pc' := 4) X (mcs wd_318) (mcs wd_315) (mcs wd_316) (Nat.le_of_ble_eq_true rfl) d_Pile_init_1 (by decide) (by decide) rfl ?_
  refine V.rd (pc' := 5) (fun hl => lv_aload_n X.1 X.2.1 d_Pile_init_4 rfl (lv_at hl 0 rfl)) ?_
  refine V.go (pc' := 7) (lv_bipush (v := 100) X.1 X.2.1 d_Pile_init_5 (by decide)) ?_
  refine V.newq (pc' := 10) X hK 2 (mcs wd_319) (List.mem_of_getElem? (i := 1) rfl) rfl (by decide) (N' := 100) (by decide) (by decide) (by decide) (by decide) d_Pile_init_7 rfl (fun q_1 M_2 z_3 h_4 fr_5 => ?_)
  have n_6 : pi ≠ q_1 := ne_z gh0 z_3
  have zb_7 : M q_1 = none := z_3
  have h_8 : M_2 pi = some (.inr (2, [.null, .null, .null, .int 0, .int 0])) := (fr_5 _ n_6).trans gh0
  refine V.putF (pc' := 13) X hK hnm h_8 uw_Pile t_Pile tok_Pile nm_Pile rfl 0 (by decide) (mcs wd_83) rfl rfl rfl rfl (Nat.le_of_ble_eq_true rfl) (fs' := [.ref q_1, .null, .null, .int 0, .int 0]) rfl d_Pile_init_10 rfl (fun M_9 h_10 fr_11 => ?_)
  have h_12 : M_9 q_1 = some (.inl (cQ, 100, .inr (.inr (.inr (.inr (fun _ => none)))))) := (fr_11 _ (Ne.symm n_6)).trans h_4
  refine V.rd (pc' := 14) (fun hl => lv_aload_n X.1 X.2.1 d_Pile_init_13 rfl (lv_at hl 0 rfl)) ?_
  refine V.go (pc' := 16) (lv_bipush (v := 100) X.1 X.2.1 d_Pile_init_14 (by decide)) ?_
  refine V.newa (pc' := 18) (atype := .int) X hK 0 (mcs wd_320) rfl rfl rfl (a0 := (100, .inl (fun _ => 0))) (fun _ => rfl) (by decide) (by decide) (by decide) (by decide) (by decide) d_Pile_init_16 rfl (fun q_13 M_14 z_15 h_16 fr_17 => ?_)
  have n_18 : q_1 ≠ q_13 := ne_z h_12 z_15
  have n_19 : pi ≠ q_13 := ne_z h_10 z_15
  have zb_20 : M q_13 = none := ((fr_11 q_13 (Ne.symm n_19)).trans ((fr_5 q_13 (Ne.symm n_18)))).symm.trans z_15
  have h_21 : M_14 q_1 = some (.inl (cQ, 100, .inr (.inr (.inr (.inr (fun _ => none)))))) := (fr_17 _ n_18).trans h_12
  have h_22 : M_14 pi = some (.inr (2, [.ref q_1, .null, .null, .int 0, .int 0])) := (fr_17 _ n_19).trans h_10
  refine V.putF (pc' := 21) X hK hnm h_22 uw_Pile t_Pile tok_Pile nm_Pile rfl 1 (by decide) (mcs wd_16) rfl rfl rfl rfl (Nat.le_of_ble_eq_true rfl) (fs' := [.ref q_1, .ref q_13, .null, .int 0, .int 0]) rfl d_Pile_init_18 rfl (fun M_23 h_24 fr_25 => ?_)
  have h_26 : M_23 q_1 = some (.inl (cQ, 100, .inr (.inr (.inr (.inr (fun _ => none)))))) := (fr_25 _ (Ne.symm n_6)).trans h_21
  have h_27 : M_23 q_13 = some (.inl (cI, 100, .inl (fun _ => 0))) := (fr_25 _ (Ne.symm n_19)).trans h_16
  refine V.rd (pc' := 22) (fun hl => lv_aload_n X.1 X.2.1 d_Pile_init_21 rfl (lv_at hl 0 rfl)) ?_
  refine V.go (pc' := 24) (lv_bipush (v := 100) X.1 X.2.1 d_Pile_init_22 (by decide)) ?_
  refine V.newa (pc' := 26) (atype := .int) X hK 0 (mcs wd_320) rfl rfl rfl (a0 := (100, .inl (fun _ => 0))) (fun _ => rfl) (by decide) (by decide) (by decide) (by decide) (by decide) d_Pile_init_24 rfl (fun q_28 M_29 z_30 h_31 fr_32 => ?_)
  have n_33 : q_1 ≠ q_28 := ne_z h_26 z_30
  have n_34 : q_13 ≠ q_28 := ne_z h_27 z_30
  have n_35 : pi ≠ q_28 := ne_z h_24 z_30
  have zb_36 : M q_28 = none := ((fr_25 q_28 (Ne.symm n_35)).trans ((fr_17 q_28 (Ne.symm n_34)).trans ((fr_11 q_28 (Ne.symm n_35)).trans ((fr_5 q_28 (Ne.symm n_33)))))).symm.trans z_30
  have h_37 : M_29 q_1 = some (.inl (cQ, 100, .inr (.inr (.inr (.inr (fun _ => none)))))) := (fr_32 _ n_33).trans h_26
  have h_38 : M_29 q_13 = some (.inl (cI, 100, .inl (fun _ => 0))) := (fr_32 _ n_34).trans h_27
  have h_39 : M_29 pi = some (.inr (2, [.ref q_1, .ref q_13, .null, .int 0, .int 0])) := (fr_32 _ n_35).trans h_24
  refine V.putF (pc' := 29) X hK hnm h_39 uw_Pile t_Pile tok_Pile nm_Pile rfl 2 (by decide) (mcs wd_15) rfl rfl rfl rfl (Nat.le_of_ble_eq_true rfl) (fs' := [.ref q_1, .ref q_13, .ref q_28, .int 0, .int 0]) rfl d_Pile_init_26 rfl (fun M_40 h_41 fr_42 => ?_)
  have h_43 : M_40 q_1 = some (.inl (cQ, 100, .inr (.inr (.inr (.inr (fun _ => none)))))) := (fr_42 _ (Ne.symm n_6)).trans h_37
  have h_44 : M_40 q_13 = some (.inl (cI, 100, .inl (fun _ => 0))) := (fr_42 _ (Ne.symm n_19)).trans h_38
  have h_45 : M_40 q_28 = some (.inl (cI, 100, .inl (fun _ => 0))) := (fr_42 _ (Ne.symm n_35)).trans h_31
  exact V.vret X hr hlk ⟨rfl, q_1, q_13, q_28, zb_7, zb_20, zb_36, n_18, n_33, n_34, h_41, h_43, h_44, h_45, (fun q n0_ n1_ n2_ n3_ => (fr_42 q n0_).trans ((fr_32 q n3_).trans ((fr_25 q n0_).trans ((fr_17 q n2_).trans ((fr_11 q n0_).trans ((fr_5 q n1_)))))))⟩ d_Pile_init_29

theorem d_Program_init_0 : decode prog_5_method_1_code 0 = .ok (.aload_n 0, 1) := by decide +kernel
theorem d_Program_init_1 : decode prog_5_method_1_code 1 = .ok (.invokespecial 3, 3) := by decide +kernel
theorem d_Program_init_4 : decode prog_5_method_1_code 4 = .ok (.aload_n 0, 1) := by decide +kernel
theorem d_Program_init_5 : decode prog_5_method_1_code 5 = .ok (.bipush 60, 2) := by decide +kernel
theorem d_Program_init_7 : decode prog_5_method_1_code 7 = .ok (.newarray .int, 2) := by decide +kernel
theorem d_Program_init_9 : decode prog_5_method_1_code 9 = .ok (.putfield 9, 3) := by decide +kernel
theorem d_Program_init_12 : decode prog_5_method_1_code 12 = .ok (.aload_n 0, 1) := by decide +kernel
theorem d_Program_init_13 : decode prog_5_method_1_code 13 = .ok (.bipush 60, 2) := by decide +kernel
theorem d_Program_init_15 : decode prog_5_method_1_code 15 = .ok (.newarray .int, 2) := by decide +kernel
theorem d_Program_init_17 : decode prog_5_method_1_code 17 = .ok (.putfield 15, 3) := by decide +kernel
theorem d_Program_init_20 : decode prog_5_method_1_code 20 = .ok (.aload_n 0, 1) := by decide +kernel
theorem d_Program_init_21 : decode prog_5_method_1_code 21 = .ok (.bipush 60, 2) := by decide +kernel
theorem d_Program_init_23 : decode prog_5_method_1_code 23 = .ok (.anewarray 18, 3) := by decide +kernel
theorem d_Program_init_26 : decode prog_5_method_1_code 26 = .ok (.putfield 20, 3) := by decide +kernel
theorem d_Program_init_29 : decode prog_5_method_1_code 29 = .ok (.return_, 1) := by decide +kernel

set_option maxHeartbeats 4000000 in
set_option maxRecDepth 100000 in
theorem c_Program_init {l : Launch} {H0 : Heap} {D : va_G} {cI cL cQ cB : ClassId} {M : mp} {pg : Nat} (gh0 : M pg = some (.inr (3, [.null, .null, .null, .int 0, .int 0]))) : MC l H0 D cls7 (tysOf cI cL cQ cB) NW ({ cls := "PerformRanges$Program", name := "<init>", desc := "()V" } : Jvm.MethodName) (Cond.code ({ cls := "PerformRanges$Program", name := "<init>", desc := "()V" } : Jvm.MethodName) prog_5_method_1_code 1 (Option.none : Option Jvm.ClassFile.FieldType) :: GW) ({ frames := 1, cells := 3, slots := 180, locals := 21 }) [.ref pg] M (fun v M' => v = none ∧ ∃ nq0 nq1 nq2 : Nat, M nq0 = none ∧ M nq1 = none ∧ M nq2 = none ∧ nq0 ≠ nq1 ∧ nq0 ≠ nq2 ∧ nq1 ≠ nq2 ∧ M' pg = some (.inr (3, [.ref nq0, .ref nq1, .ref nq2, .int 0, .int 0])) ∧ M' nq0 = some (.inl (cI, 60, .inl (fun _ => 0))) ∧ M' nq1 = some (.inl (cI, 60, .inl (fun _ => 0))) ∧ M' nq2 = some (.inl (cQ, 60, .inr (.inr (.inr (.inr (fun _ => none)))))) ∧ (∀ q, q ≠ pg → q ≠ nq0 → q ≠ nq1 → q ≠ nq2 → M' q = M q)) := by
  refine MC.of (cc := prog_5_method_1_code) (nL := 1) (ret := (Option.none : Option Jvm.ClassFile.FieldType)) (lv := [(0, .ref pg)]) (by decide) rfl (Nat.le_of_ble_eq_true rfl) rfl ?_
  intro p e s m below meth c X hr hlk hnm hK
  refine V.rd (pc' := 1) (fun hl => lv_aload_n X.1 X.2.1 d_Program_init_0 rfl (lv_at hl 0 rfl)) ?_
  refine V.obj (pc' := 4) X (mcs wd_321) (mcs wd_315) (mcs wd_316) (Nat.le_of_ble_eq_true rfl) d_Program_init_1 (by decide) (by decide) rfl ?_
  refine V.rd (pc' := 5) (fun hl => lv_aload_n X.1 X.2.1 d_Program_init_4 rfl (lv_at hl 0 rfl)) ?_
  refine V.go (pc' := 7) (lv_bipush (v := 60) X.1 X.2.1 d_Program_init_5 (by decide)) ?_
  refine V.newa (pc' := 9) (atype := .int) X hK 0 (mcs wd_320) rfl rfl rfl (a0 := (60, .inl (fun _ => 0))) (fun _ => rfl) (by decide) (by decide) (by decide) (by decide) (by decide) d_Program_init_7 rfl (fun q_1 M_2 z_3 h_4 fr_5 => ?_)
  have n_6 : pg ≠ q_1 := ne_z gh0 z_3
  have zb_7 : M q_1 = none := z_3
  have h_8 : M_2 pg = some (.inr (3, [.null, .null, .null, .int 0, .int 0])) := (fr_5 _ n_6).trans gh0
  refine V.putF (pc' := 12) X hK hnm h_8 uw_Program t_Program tok_Program nm_Program rfl 0 (by decide) (mcs wd_3) rfl rfl rfl rfl (Nat.le_of_ble_eq_true rfl) (fs' := [.ref q_1, .null, .null, .int 0, .int 0]) rfl d_Program_init_9 rfl (fun M_9 h_10 fr_11 => ?_)
  have h_12 : M_9 q_1 = some (.inl (cI, 60, .inl (fun _ => 0))) := (fr_11 _ (Ne.symm n_6)).trans h_4
  refine V.rd (pc' := 13) (fun hl => lv_aload_n X.1 X.2.1 d_Program_init_12 rfl (lv_at hl 0 rfl)) ?_
  refine V.go (pc' := 15) (lv_bipush (v := 60) X.1 X.2.1 d_Program_init_13 (by decide)) ?_
  refine V.newa (pc' := 17) (atype := .int) X hK 0 (mcs wd_320) rfl rfl rfl (a0 := (60, .inl (fun _ => 0))) (fun _ => rfl) (by decide) (by decide) (by decide) (by decide) (by decide) d_Program_init_15 rfl (fun q_13 M_14 z_15 h_16 fr_17 => ?_)
  have n_18 : q_1 ≠ q_13 := ne_z h_12 z_15
  have n_19 : pg ≠ q_13 := ne_z h_10 z_15
  have zb_20 : M q_13 = none := ((fr_11 q_13 (Ne.symm n_19)).trans ((fr_5 q_13 (Ne.symm n_18)))).symm.trans z_15
  have h_21 : M_14 q_1 = some (.inl (cI, 60, .inl (fun _ => 0))) := (fr_17 _ n_18).trans h_12
  have h_22 : M_14 pg = some (.inr (3, [.ref q_1, .null, .null, .int 0, .int 0])) := (fr_17 _ n_19).trans h_10
  refine V.putF (pc' := 20) X hK hnm h_22 uw_Program t_Program tok_Program nm_Program rfl 1 (by decide) (mcs wd_13) rfl rfl rfl rfl (Nat.le_of_ble_eq_true rfl) (fs' := [.ref q_1, .ref q_13, .null, .int 0, .int 0]) rfl d_Program_init_17 rfl (fun M_23 h_24 fr_25 => ?_)
  have h_26 : M_23 q_1 = some (.inl (cI, 60, .inl (fun _ => 0))) := (fr_25 _ (Ne.symm n_6)).trans h_21
  have h_27 : M_23 q_13 = some (.inl (cI, 60, .inl (fun _ => 0))) := (fr_25 _ (Ne.symm n_19)).trans h_16
  refine V.rd (pc' := 21) (fun hl => lv_aload_n X.1 X.2.1 d_Program_init_20 rfl (lv_at hl 0 rfl)) ?_
  refine V.go (pc' := 23) (lv_bipush (v := 60) X.1 X.2.1 d_Program_init_21 (by decide)) ?_
  refine V.newq (pc' := 26) X hK 2 (mcs wd_322) (List.mem_of_getElem? (i := 1) rfl) rfl (by decide) (N' := 60) (by decide) (by decide) (by decide) (by decide) d_Program_init_23 rfl (fun q_28 M_29 z_30 h_31 fr_32 => ?_)
  have n_33 : q_1 ≠ q_28 := ne_z h_26 z_30
  have n_34 : q_13 ≠ q_28 := ne_z h_27 z_30
  have n_35 : pg ≠ q_28 := ne_z h_24 z_30
  have zb_36 : M q_28 = none := ((fr_25 q_28 (Ne.symm n_35)).trans ((fr_17 q_28 (Ne.symm n_34)).trans ((fr_11 q_28 (Ne.symm n_35)).trans ((fr_5 q_28 (Ne.symm n_33)))))).symm.trans z_30
  have h_37 : M_29 q_1 = some (.inl (cI, 60, .inl (fun _ => 0))) := (fr_32 _ n_33).trans h_26
  have h_38 : M_29 q_13 = some (.inl (cI, 60, .inl (fun _ => 0))) := (fr_32 _ n_34).trans h_27
  have h_39 : M_29 pg = some (.inr (3, [.ref q_1, .ref q_13, .null, .int 0, .int 0])) := (fr_32 _ n_35).trans h_24
  refine V.putF (pc' := 29) X hK hnm h_39 uw_Program t_Program tok_Program nm_Program rfl 2 (by decide) (mcs wd_69) rfl rfl rfl rfl (Nat.le_of_ble_eq_true rfl) (fs' := [.ref q_1, .ref q_13, .ref q_28, .int 0, .int 0]) rfl d_Program_init_26 rfl (fun M_40 h_41 fr_42 => ?_)
  have h_43 : M_40 q_1 = some (.inl (cI, 60, .inl (fun _ => 0))) := (fr_42 _ (Ne.symm n_6)).trans h_37
  have h_44 : M_40 q_13 = some (.inl (cI, 60, .inl (fun _ => 0))) := (fr_42 _ (Ne.symm n_19)).trans h_38
  have h_45 : M_40 q_28 = some (.inl (cQ, 60, .inr (.inr (.inr (.inr (fun _ => none)))))) := (fr_42 _ (Ne.symm n_35)).trans h_31
  exact V.vret X hr hlk ⟨rfl, q_1, q_13, q_28, zb_7, zb_20, zb_36, n_18, n_33, n_34, h_41, h_43, h_44, h_45, (fun q n0_ n1_ n2_ n3_ => (fr_42 q n0_).trans ((fr_32 q n3_).trans ((fr_25 q n0_).trans ((fr_17 q n2_).trans ((fr_11 q n0_).trans ((fr_5 q n1_)))))))⟩ d_Program_init_29

theorem d_Course_init_0 : decode prog_3_method_1_code 0 = .ok (.aload_n 0, 1) := by decide +kernel
theorem d_Course_init_1 : decode prog_3_method_1_code 1 = .ok (.invokespecial 3, 3) := by decide +kernel
theorem d_Course_init_4 : decode prog_3_method_1_code 4 = .ok (.aload_n 0, 1) := by decide +kernel
theorem d_Course_init_5 : decode prog_3_method_1_code 5 = .ok (.new 9, 3) := by decide +kernel
theorem d_Course_init_8 : decode prog_3_method_1_code 8 = .ok (.dup, 1) := by decide +kernel
theorem d_Course_init_9 : decode prog_3_method_1_code 9 = .ok (.invokespecial 11, 3) := by decide +kernel
theorem d_Course_init_12 : decode prog_3_method_1_code 12 = .ok (.putfield 12, 3) := by decide +kernel
theorem d_Course_init_15 : decode prog_3_method_1_code 15 = .ok (.aload_n 0, 1) := by decide +kernel
theorem d_Course_init_16 : decode prog_3_method_1_code 16 = .ok (.new 18, 3) := by decide +kernel
theorem d_Course_init_19 : decode prog_3_method_1_code 19 = .ok (.dup, 1) := by decide +kernel
theorem d_Course_init_20 : decode prog_3_method_1_code 20 = .ok (.invokespecial 20, 3) := by decide +kernel
theorem d_Course_init_23 : decode prog_3_method_1_code 23 = .ok (.putfield 21, 3) := by decide +kernel
theorem d_Course_init_26 : decode prog_3_method_1_code 26 = .ok (.aload_n 0, 1) := by decide +kernel
theorem d_Course_init_27 : decode prog_3_method_1_code 27 = .ok (.iconst (-1), 1) := by decide +kernel
theorem d_Course_init_28 : decode prog_3_method_1_code 28 = .ok (.putfield 25, 3) := by decide +kernel
theorem d_Course_init_31 : decode prog_3_method_1_code 31 = .ok (.aload_n 0, 1) := by decide +kernel
theorem d_Course_init_32 : decode prog_3_method_1_code 32 = .ok (.aload_n 1, 1) := by decide +kernel
theorem d_Course_init_33 : decode prog_3_method_1_code 33 = .ok (.putfield 29, 3) := by decide +kernel
theorem d_Course_init_36 : decode prog_3_method_1_code 36 = .ok (.aload_n 0, 1) := by decide +kernel
theorem d_Course_init_37 : decode prog_3_method_1_code 37 = .ok (.aload_n 2, 1) := by decide +kernel
theorem d_Course_init_38 : decode prog_3_method_1_code 38 = .ok (.putfield 33, 3) := by decide +kernel
theorem d_Course_init_41 : decode prog_3_method_1_code 41 = .ok (.return_, 1) := by decide +kernel

set_option maxHeartbeats 4000000 in
set_option maxRecDepth 100000 in
theorem c_Course_init {l : Launch} {H0 : Heap} {D : va_G} {cI cL cQ cB : ClassId} {M : mp} {co pg ra : Nat} (gh0 : M co = some (.inr (1, [.null, .null, .null, .null, .int 0, .int 0]))) : MC l H0 D cls7 (tysOf cI cL cQ cB) NW ({ cls := "PerformRanges$Course", name := "<init>", desc := "(LPerformRanges$Program;[I)V" } : Jvm.MethodName) (Cond.code ({ cls := "PerformRanges$Course", name := "<init>", desc := "(LPerformRanges$Program;[I)V" } : Jvm.MethodName) prog_3_method_1_code 3 (Option.none : Option Jvm.ClassFile.FieldType) :: GW) ({ frames := 2, cells := 6, slots := 322, locals := 41 }) [.ref co, .ref pg, .ref ra] M (fun v M' => v = none ∧ ∃ nq0 nq1 nq2 nq3 nq4 nq5 : Nat, M nq0 = none ∧ M nq1 = none ∧ M nq2 = none ∧ M nq3 = none ∧ M nq4 = none ∧ M nq5 = none ∧ nq0 ≠ nq1 ∧ nq0 ≠ nq2 ∧ nq0 ≠ nq3 ∧ nq0 ≠ nq4 ∧ nq0 ≠ nq5 ∧ nq1 ≠ nq2 ∧ nq1 ≠ nq3 ∧ nq1 ≠ nq4 ∧ nq1 ≠ nq5 ∧ nq2 ≠ nq3 ∧ nq2 ≠ nq4 ∧ nq2 ≠ nq5 ∧ nq3 ≠ nq4 ∧ nq3 ≠ nq5 ∧ nq4 ≠ nq5 ∧ M' co = some (.inr (1, [.ref pg, .ref nq0, .ref nq2, .ref ra, .int 0, .int (-1)])) ∧ M' nq0 = some (.inr (0, [.ref nq1])) ∧ M' nq1 = some (.inl (cL, 16, .inr (.inl (fun _ => 0)))) ∧ M' nq2 = some (.inr (2, [.ref nq3, .ref nq4, .ref nq5, .int 0, .int 0])) ∧ M' nq3 = some (.inl (cQ, 100, .inr (.inr (.inr (.inr (fun _ => none)))))) ∧ M' nq4 = some (.inl (cI, 100, .inl (fun _ => 0))) ∧ M' nq5 = some (.inl (cI, 100, .inl (fun _ => 0))) ∧ (∀ q, q ≠ co → q ≠ nq0 → q ≠ nq1 → q ≠ nq2 → q ≠ nq3 → q ≠ nq4 → q ≠ nq5 → M' q = M q)) := by
  refine MC.of (cc := prog_3_method_1_code) (nL := 3) (ret := (Option.none : Option Jvm.ClassFile.FieldType)) (lv := [(0, .ref co), (1, .ref pg), (2, .ref ra)]) (by decide) rfl (Nat.le_of_ble_eq_true rfl) rfl ?_
  intro p e s m below meth c X hr hlk hnm hK
  refine V.rd (pc' := 1) (fun hl => lv_aload_n X.1 X.2.1 d_Course_init_0 rfl (lv_at hl 0 rfl)) ?_
  refine V.obj (pc' := 4) X (mcs wd_323) (mcs wd_315) (mcs wd_316) (Nat.le_of_ble_eq_true rfl) d_Course_init_1 (by decide) (by decide) rfl ?_
  refine V.rd (pc' := 5) (fun hl => lv_aload_n X.1 X.2.1 d_Course_init_4 rfl (lv_at hl 0 rfl)) ?_
  refine V.new (pc' := 8) (ci := 0) X hK (fs := [.null]) uw_Cells t_Cells tok_Cells (mcs wd_324) (mcs wd_325) (mcs wd_24) rfl (fun j hj => match j, hj with | 0, _ => rfl | k + 1, h => absurd h (by omega)) (by decide) (by decide) d_Course_init_5 rfl (fun q_1 M_2 z_3 h_4 fr_5 => ?_)
  have n_6 : co ≠ q_1 := ne_z gh0 z_3
  have zb_7 : M q_1 = none := z_3
  have h_8 : M_2 co = some (.inr (1, [.null, .null, .null, .null, .int 0, .int 0])) := (fr_5 _ n_6).trans gh0
  refine V.go (pc' := 9) (lv_dup X.1 X.2.1 d_Course_init_8 rfl) ?_
  refine V.callIN (pc' := 12) X hK (c_Cells_init  (ce := q_1)   h_4  ) (ciN (n := 0) X hK (List.mem_of_getElem? (i := 4) rfl) (mcs wd_326) (mcs wd_24) wd_327 rfl (by decide +kernel) (by decide) (by decide)) rfl rfl (Nat.le_of_ble_eq_true rfl) d_Course_init_9 ⟨by decide, by decide⟩ rfl (st1 := [.ref q_1, .ref co]) rfl (fun M_9 ⟨q_12, z_13, h_10, h_14, fr_11⟩ => ?_)
  have n_15 : co ≠ q_12 := ne_z h_8 z_13
  have n_16 : q_1 ≠ q_12 := ne_z h_4 z_13
  have zb_17 : M q_12 = none := ((fr_5 q_12 (Ne.symm n_16))).symm.trans z_13
  have h_18 : M_9 co = some (.inr (1, [.null, .null, .null, .null, .int 0, .int 0])) := (fr_11 _ n_6 n_15).trans h_8
  refine V.putF (pc' := 15) X hK hnm h_18 uw_Course t_Course tok_Course nm_Course rfl 1 (by decide) (mcs wd_95) rfl rfl rfl rfl (Nat.le_of_ble_eq_true rfl) (fs' := [.null, .ref q_1, .null, .null, .int 0, .int 0]) rfl d_Course_init_12 rfl (fun M_19 h_20 fr_21 => ?_)
  have h_22 : M_19 q_1 = some (.inr (0, [.ref q_12])) := (fr_21 _ (Ne.symm n_6)).trans h_10
  have h_23 : M_19 q_12 = some (.inl (cL, 16, .inr (.inl (fun _ => 0)))) := (fr_21 _ (Ne.symm n_15)).trans h_14
  refine V.rd (pc' := 16) (fun hl => lv_aload_n X.1 X.2.1 d_Course_init_15 rfl (lv_at hl 0 rfl)) ?_
  refine V.new (pc' := 19) (ci := 2) X hK (fs := [.null, .null, .null, .int 0, .int 0]) uw_Pile t_Pile tok_Pile (mcs wd_328) (mcs wd_329) (mcs wd_81) rfl (fun j hj => match j, hj with | 0, _ => rfl | 1, _ => rfl | 2, _ => rfl | 3, _ => rfl | 4, _ => rfl | k + 5, h => absurd h (by omega)) (by decide) (by decide) d_Course_init_16 rfl (fun q_24 M_25 z_26 h_27 fr_28 => ?_)
  have n_29 : q_1 ≠ q_24 := ne_z h_22 z_26
  have n_30 : q_12 ≠ q_24 := ne_z h_23 z_26
  have n_31 : co ≠ q_24 := ne_z h_20 z_26
  have zb_32 : M q_24 = none := ((fr_21 q_24 (Ne.symm n_31)).trans ((fr_11 q_24 (Ne.symm n_29) (Ne.symm n_30)).trans ((fr_5 q_24 (Ne.symm n_29))))).symm.trans z_26
  have h_33 : M_25 q_1 = some (.inr (0, [.ref q_12])) := (fr_28 _ n_29).trans h_22
  have h_34 : M_25 q_12 = some (.inl (cL, 16, .inr (.inl (fun _ => 0)))) := (fr_28 _ n_30).trans h_23
  have h_35 : M_25 co = some (.inr (1, [.null, .ref q_1, .null, .null, .int 0, .int 0])) := (fr_28 _ n_31).trans h_20
  refine V.go (pc' := 20) (lv_dup X.1 X.2.1 d_Course_init_19 rfl) ?_
  refine V.callIN (pc' := 23) X hK (c_Pile_init  (pi := q_24)   h_27  ) (ciN (n := 0) X hK (List.mem_of_getElem? (i := 5) rfl) (mcs wd_330) (mcs wd_81) wd_331 rfl (by decide +kernel) (by decide) (by decide)) rfl rfl (Nat.le_of_ble_eq_true rfl) d_Course_init_20 ⟨by decide, by decide⟩ rfl (st1 := [.ref q_24, .ref co]) rfl (fun M_36 ⟨q_39, q_40, q_41, z_42, z_43, z_44, n_45, n_46, n_47, h_37, h_48, h_49, h_50, fr_38⟩ => ?_)
  have n_51 : q_1 ≠ q_39 := ne_z h_33 z_42
  have n_52 : q_12 ≠ q_39 := ne_z h_34 z_42
  have n_53 : co ≠ q_39 := ne_z h_35 z_42
  have n_54 : q_24 ≠ q_39 := ne_z h_27 z_42
  have n_55 : q_1 ≠ q_40 := ne_z h_33 z_43
  have n_56 : q_12 ≠ q_40 := ne_z h_34 z_43
  have n_57 : co ≠ q_40 := ne_z h_35 z_43
  have n_58 : q_24 ≠ q_40 := ne_z h_27 z_43
  have n_59 : q_1 ≠ q_41 := ne_z h_33 z_44
  have n_60 : q_12 ≠ q_41 := ne_z h_34 z_44
  have n_61 : co ≠ q_41 := ne_z h_35 z_44
  have n_62 : q_24 ≠ q_41 := ne_z h_27 z_44
  have zb_63 : M q_39 = none := ((fr_28 q_39 (Ne.symm n_54)).trans ((fr_21 q_39 (Ne.symm n_53)).trans ((fr_11 q_39 (Ne.symm n_51) (Ne.symm n_52)).trans ((fr_5 q_39 (Ne.symm n_51)))))).symm.trans z_42
  have zb_64 : M q_40 = none := ((fr_28 q_40 (Ne.symm n_58)).trans ((fr_21 q_40 (Ne.symm n_57)).trans ((fr_11 q_40 (Ne.symm n_55) (Ne.symm n_56)).trans ((fr_5 q_40 (Ne.symm n_55)))))).symm.trans z_43
  have zb_65 : M q_41 = none := ((fr_28 q_41 (Ne.symm n_62)).trans ((fr_21 q_41 (Ne.symm n_61)).trans ((fr_11 q_41 (Ne.symm n_59) (Ne.symm n_60)).trans ((fr_5 q_41 (Ne.symm n_59)))))).symm.trans z_44
  have h_66 : M_36 q_1 = some (.inr (0, [.ref q_12])) := (fr_38 _ n_29 n_51 n_55 n_59).trans h_33
  have h_67 : M_36 q_12 = some (.inl (cL, 16, .inr (.inl (fun _ => 0)))) := (fr_38 _ n_30 n_52 n_56 n_60).trans h_34
  have h_68 : M_36 co = some (.inr (1, [.null, .ref q_1, .null, .null, .int 0, .int 0])) := (fr_38 _ n_31 n_53 n_57 n_61).trans h_35
  refine V.putF (pc' := 26) X hK hnm h_68 uw_Course t_Course tok_Course nm_Course rfl 2 (by decide) (mcs wd_107) rfl rfl rfl rfl (Nat.le_of_ble_eq_true rfl) (fs' := [.null, .ref q_1, .ref q_24, .null, .int 0, .int 0]) rfl d_Course_init_23 rfl (fun M_69 h_70 fr_71 => ?_)
  have h_72 : M_69 q_1 = some (.inr (0, [.ref q_12])) := (fr_71 _ (Ne.symm n_6)).trans h_66
  have h_73 : M_69 q_12 = some (.inl (cL, 16, .inr (.inl (fun _ => 0)))) := (fr_71 _ (Ne.symm n_15)).trans h_67
  have h_74 : M_69 q_24 = some (.inr (2, [.ref q_39, .ref q_40, .ref q_41, .int 0, .int 0])) := (fr_71 _ (Ne.symm n_31)).trans h_37
  have h_75 : M_69 q_39 = some (.inl (cQ, 100, .inr (.inr (.inr (.inr (fun _ => none)))))) := (fr_71 _ (Ne.symm n_53)).trans h_48
  have h_76 : M_69 q_40 = some (.inl (cI, 100, .inl (fun _ => 0))) := (fr_71 _ (Ne.symm n_57)).trans h_49
  have h_77 : M_69 q_41 = some (.inl (cI, 100, .inl (fun _ => 0))) := (fr_71 _ (Ne.symm n_61)).trans h_50
  refine V.rd (pc' := 27) (fun hl => lv_aload_n X.1 X.2.1 d_Course_init_26 rfl (lv_at hl 0 rfl)) ?_
  refine V.go (pc' := 28) (lv_iconst (v := (-1)) X.1 X.2.1 d_Course_init_27 (by decide)) ?_
  refine V.put (pc' := 31) X hK h_70 uw_Course t_Course tok_Course nm_Course rfl 5 (by decide) (mcs wd_86) rfl rfl rfl (Nat.le_of_ble_eq_true rfl) (fs' := [.null, .ref q_1, .ref q_24, .null, .int 0, .int (-1)]) rfl d_Course_init_28 rfl (fun M_78 h_79 fr_80 => ?_)
  have h_81 : M_78 q_1 = some (.inr (0, [.ref q_12])) := (fr_80 _ (Ne.symm n_6)).trans h_72
  have h_82 : M_78 q_12 = some (.inl (cL, 16, .inr (.inl (fun _ => 0)))) := (fr_80 _ (Ne.symm n_15)).trans h_73
  have h_83 : M_78 q_24 = some (.inr (2, [.ref q_39, .ref q_40, .ref q_41, .int 0, .int 0])) := (fr_80 _ (Ne.symm n_31)).trans h_74
  have h_84 : M_78 q_39 = some (.inl (cQ, 100, .inr (.inr (.inr (.inr (fun _ => none)))))) := (fr_80 _ (Ne.symm n_53)).trans h_75
  have h_85 : M_78 q_40 = some (.inl (cI, 100, .inl (fun _ => 0))) := (fr_80 _ (Ne.symm n_57)).trans h_76
  have h_86 : M_78 q_41 = some (.inl (cI, 100, .inl (fun _ => 0))) := (fr_80 _ (Ne.symm n_61)).trans h_77
  refine V.rd (pc' := 32) (fun hl => lv_aload_n X.1 X.2.1 d_Course_init_31 rfl (lv_at hl 0 rfl)) ?_
  refine V.rd (pc' := 33) (fun hl => lv_aload_n X.1 X.2.1 d_Course_init_32 rfl (lv_at hl 1 rfl)) ?_
  refine V.putF (pc' := 36) X hK hnm h_79 uw_Course t_Course tok_Course nm_Course rfl 0 (by decide) (mcs wd_87) rfl rfl rfl rfl (Nat.le_of_ble_eq_true rfl) (fs' := [.ref pg, .ref q_1, .ref q_24, .null, .int 0, .int (-1)]) rfl d_Course_init_33 rfl (fun M_87 h_88 fr_89 => ?_)
  have h_90 : M_87 q_1 = some (.inr (0, [.ref q_12])) := (fr_89 _ (Ne.symm n_6)).trans h_81
  have h_91 : M_87 q_12 = some (.inl (cL, 16, .inr (.inl (fun _ => 0)))) := (fr_89 _ (Ne.symm n_15)).trans h_82
  have h_92 : M_87 q_24 = some (.inr (2, [.ref q_39, .ref q_40, .ref q_41, .int 0, .int 0])) := (fr_89 _ (Ne.symm n_31)).trans h_83
  have h_93 : M_87 q_39 = some (.inl (cQ, 100, .inr (.inr (.inr (.inr (fun _ => none)))))) := (fr_89 _ (Ne.symm n_53)).trans h_84
  have h_94 : M_87 q_40 = some (.inl (cI, 100, .inl (fun _ => 0))) := (fr_89 _ (Ne.symm n_57)).trans h_85
  have h_95 : M_87 q_41 = some (.inl (cI, 100, .inl (fun _ => 0))) := (fr_89 _ (Ne.symm n_61)).trans h_86
  refine V.rd (pc' := 37) (fun hl => lv_aload_n X.1 X.2.1 d_Course_init_36 rfl (lv_at hl 0 rfl)) ?_
  refine V.rd (pc' := 38) (fun hl => lv_aload_n X.1 X.2.1 d_Course_init_37 rfl (lv_at hl 2 rfl)) ?_
  refine V.putF (pc' := 41) X hK hnm h_88 uw_Course t_Course tok_Course nm_Course rfl 3 (by decide) (mcs wd_141) rfl rfl rfl rfl (Nat.le_of_ble_eq_true rfl) (fs' := [.ref pg, .ref q_1, .ref q_24, .ref ra, .int 0, .int (-1)]) rfl d_Course_init_38 rfl (fun M_96 h_97 fr_98 => ?_)
  have h_99 : M_96 q_1 = some (.inr (0, [.ref q_12])) := (fr_98 _ (Ne.symm n_6)).trans h_90
  have h_100 : M_96 q_12 = some (.inl (cL, 16, .inr (.inl (fun _ => 0)))) := (fr_98 _ (Ne.symm n_15)).trans h_91
  have h_101 : M_96 q_24 = some (.inr (2, [.ref q_39, .ref q_40, .ref q_41, .int 0, .int 0])) := (fr_98 _ (Ne.symm n_31)).trans h_92
  have h_102 : M_96 q_39 = some (.inl (cQ, 100, .inr (.inr (.inr (.inr (fun _ => none)))))) := (fr_98 _ (Ne.symm n_53)).trans h_93
  have h_103 : M_96 q_40 = some (.inl (cI, 100, .inl (fun _ => 0))) := (fr_98 _ (Ne.symm n_57)).trans h_94
  have h_104 : M_96 q_41 = some (.inl (cI, 100, .inl (fun _ => 0))) := (fr_98 _ (Ne.symm n_61)).trans h_95
  exact V.vret X hr hlk ⟨rfl, q_1, q_12, q_24, q_39, q_40, q_41, zb_7, zb_17, zb_32, zb_63, zb_64, zb_65, n_16, n_29, n_51, n_55, n_59, n_30, n_52, n_56, n_60, n_54, n_58, n_62, n_45, n_46, n_47, h_97, h_99, h_100, h_101, h_102, h_103, h_104, (fun q n0_ n1_ n2_ n3_ n4_ n5_ n6_ => (fr_98 q n0_).trans ((fr_89 q n0_).trans ((fr_80 q n0_).trans ((fr_71 q n0_).trans ((fr_38 q n3_ n4_ n5_ n6_).trans ((fr_28 q n3_).trans ((fr_21 q n0_).trans ((fr_11 q n1_ n2_).trans ((fr_5 q n1_))))))))))⟩ d_Course_init_41

theorem d_Statement_init_0 : decode prog_6_method_1_code 0 = .ok (.aload_n 0, 1) := by decide +kernel
theorem d_Statement_init_1 : decode prog_6_method_1_code 1 = .ok (.invokespecial 3, 3) := by decide +kernel
theorem d_Statement_init_4 : decode prog_6_method_1_code 4 = .ok (.aload_n 0, 1) := by decide +kernel
theorem d_Statement_init_5 : decode prog_6_method_1_code 5 = .ok (.bipush 7, 2) := by decide +kernel
theorem d_Statement_init_7 : decode prog_6_method_1_code 7 = .ok (.newarray .int, 2) := by decide +kernel
theorem d_Statement_init_9 : decode prog_6_method_1_code 9 = .ok (.putfield 9, 3) := by decide +kernel
theorem d_Statement_init_12 : decode prog_6_method_1_code 12 = .ok (.aload_n 0, 1) := by decide +kernel
theorem d_Statement_init_13 : decode prog_6_method_1_code 13 = .ok (.bipush 7, 2) := by decide +kernel
theorem d_Statement_init_15 : decode prog_6_method_1_code 15 = .ok (.newarray .long, 2) := by decide +kernel
theorem d_Statement_init_17 : decode prog_6_method_1_code 17 = .ok (.putfield 15, 3) := by decide +kernel
theorem d_Statement_init_20 : decode prog_6_method_1_code 20 = .ok (.aload_n 0, 1) := by decide +kernel
theorem d_Statement_init_21 : decode prog_6_method_1_code 21 = .ok (.bipush 7, 2) := by decide +kernel
theorem d_Statement_init_23 : decode prog_6_method_1_code 23 = .ok (.newarray .int, 2) := by decide +kernel
theorem d_Statement_init_25 : decode prog_6_method_1_code 25 = .ok (.putfield 19, 3) := by decide +kernel
theorem d_Statement_init_28 : decode prog_6_method_1_code 28 = .ok (.aload_n 0, 1) := by decide +kernel
theorem d_Statement_init_29 : decode prog_6_method_1_code 29 = .ok (.bipush 7, 2) := by decide +kernel
theorem d_Statement_init_31 : decode prog_6_method_1_code 31 = .ok (.newarray .long, 2) := by decide +kernel
theorem d_Statement_init_33 : decode prog_6_method_1_code 33 = .ok (.putfield 22, 3) := by decide +kernel
theorem d_Statement_init_36 : decode prog_6_method_1_code 36 = .ok (.aload_n 0, 1) := by decide +kernel
theorem d_Statement_init_37 : decode prog_6_method_1_code 37 = .ok (.bipush 7, 2) := by decide +kernel
theorem d_Statement_init_39 : decode prog_6_method_1_code 39 = .ok (.newarray .long, 2) := by decide +kernel
theorem d_Statement_init_41 : decode prog_6_method_1_code 41 = .ok (.putfield 25, 3) := by decide +kernel
theorem d_Statement_init_44 : decode prog_6_method_1_code 44 = .ok (.aload_n 0, 1) := by decide +kernel
theorem d_Statement_init_45 : decode prog_6_method_1_code 45 = .ok (.iload_n 1, 1) := by decide +kernel
theorem d_Statement_init_46 : decode prog_6_method_1_code 46 = .ok (.putfield 28, 3) := by decide +kernel
theorem d_Statement_init_49 : decode prog_6_method_1_code 49 = .ok (.aload_n 0, 1) := by decide +kernel
theorem d_Statement_init_50 : decode prog_6_method_1_code 50 = .ok (.iload_n 2, 1) := by decide +kernel
theorem d_Statement_init_51 : decode prog_6_method_1_code 51 = .ok (.putfield 32, 3) := by decide +kernel
theorem d_Statement_init_54 : decode prog_6_method_1_code 54 = .ok (.aload_n 0, 1) := by decide +kernel
theorem d_Statement_init_55 : decode prog_6_method_1_code 55 = .ok (.iload_n 3, 1) := by decide +kernel
theorem d_Statement_init_56 : decode prog_6_method_1_code 56 = .ok (.putfield 35, 3) := by decide +kernel
theorem d_Statement_init_59 : decode prog_6_method_1_code 59 = .ok (.aload_n 0, 1) := by decide +kernel
theorem d_Statement_init_60 : decode prog_6_method_1_code 60 = .ok (.iload 4, 2) := by decide +kernel
theorem d_Statement_init_62 : decode prog_6_method_1_code 62 = .ok (.putfield 38, 3) := by decide +kernel
theorem d_Statement_init_65 : decode prog_6_method_1_code 65 = .ok (.return_, 1) := by decide +kernel

set_option maxHeartbeats 4000000 in
set_option maxRecDepth 100000 in
theorem c_Statement_init {l : Launch} {H0 : Heap} {D : va_G} {cI cL cQ cB : ClassId} {M : mp} {sm : Nat} {x : Int32} {y : Int32} {kd : Int32} {tm : Int32} (gh0 : M sm = some (.inr (4, [.int 0, .int 0, .int 0, .int 0, .int 0, .int 0, .int 0, .null, .null, .null, .null, .null]))) : MC l H0 D cls7 (tysOf cI cL cQ cB) NW ({ cls := "PerformRanges$Statement", name := "<init>", desc := "(IIII)V" } : Jvm.MethodName) (Cond.code ({ cls := "PerformRanges$Statement", name := "<init>", desc := "(IIII)V" } : Jvm.MethodName) prog_6_method_1_code 5 (Option.none : Option Jvm.ClassFile.FieldType) :: GW) ({ frames := 1, cells := 5, slots := 35, locals := 21 }) [.ref sm, .int x, .int y, .int kd, .int tm] M (fun v M' => v = none ∧ ∃ nq0 nq1 nq2 nq3 nq4 : Nat, M nq0 = none ∧ M nq1 = none ∧ M nq2 = none ∧ M nq3 = none ∧ M nq4 = none ∧ nq0 ≠ nq1 ∧ nq0 ≠ nq2 ∧ nq0 ≠ nq3 ∧ nq0 ≠ nq4 ∧ nq1 ≠ nq2 ∧ nq1 ≠ nq3 ∧ nq1 ≠ nq4 ∧ nq2 ≠ nq3 ∧ nq2 ≠ nq4 ∧ nq3 ≠ nq4 ∧ M' sm = some (.inr (4, [.int x, .int y, .int kd, .int tm, .int 0, .int 0, .int 0, .ref nq0, .ref nq1, .ref nq2, .ref nq3, .ref nq4])) ∧ M' nq0 = some (.inl (cI, 7, .inl (fun _ => 0))) ∧ M' nq1 = some (.inl (cL, 7, .inr (.inl (fun _ => 0)))) ∧ M' nq2 = some (.inl (cI, 7, .inl (fun _ => 0))) ∧ M' nq3 = some (.inl (cL, 7, .inr (.inl (fun _ => 0)))) ∧ M' nq4 = some (.inl (cL, 7, .inr (.inl (fun _ => 0)))) ∧ (∀ q, q ≠ sm → q ≠ nq0 → q ≠ nq1 → q ≠ nq2 → q ≠ nq3 → q ≠ nq4 → M' q = M q)) := by
  refine MC.of (cc := prog_6_method_1_code) (nL := 5) (ret := (Option.none : Option Jvm.ClassFile.FieldType)) (lv := [(0, .ref sm), (1, .int x), (2, .int y), (3, .int kd), (4, .int tm)]) (by decide) rfl (Nat.le_of_ble_eq_true rfl) rfl ?_
  intro p e s m below meth c X hr hlk hnm hK
  refine V.rd (pc' := 1) (fun hl => lv_aload_n X.1 X.2.1 d_Statement_init_0 rfl (lv_at hl 0 rfl)) ?_
  refine V.obj (pc' := 4) X (mcs wd_332) (mcs wd_315) (mcs wd_316) (Nat.le_of_ble_eq_true rfl) d_Statement_init_1 (by decide) (by decide) rfl ?_
  refine V.rd (pc' := 5) (fun hl => lv_aload_n X.1 X.2.1 d_Statement_init_4 rfl (lv_at hl 0 rfl)) ?_
  refine V.go (pc' := 7) (lv_bipush (v := 7) X.1 X.2.1 d_Statement_init_5 (by decide)) ?_
  refine V.newa (pc' := 9) (atype := .int) X hK 0 (mcs wd_320) rfl rfl rfl (a0 := (7, .inl (fun _ => 0))) (fun _ => rfl) (by decide) (by decide) (by decide) (by decide) (by decide) d_Statement_init_7 rfl (fun q_1 M_2 z_3 h_4 fr_5 => ?_)
  have n_6 : sm ≠ q_1 := ne_z gh0 z_3
  have zb_7 : M q_1 = none := z_3
  have h_8 : M_2 sm = some (.inr (4, [.int 0, .int 0, .int 0, .int 0, .int 0, .int 0, .int 0, .null, .null, .null, .null, .null])) := (fr_5 _ n_6).trans gh0
  refine V.putF (pc' := 12) X hK hnm h_8 uw_Statement t_Statement tok_Statement nm_Statement rfl 7 (by decide) (mcs wd_20) rfl rfl rfl rfl (Nat.le_of_ble_eq_true rfl) (fs' := [.int 0, .int 0, .int 0, .int 0, .int 0, .int 0, .int 0, .ref q_1, .null, .null, .null, .null]) rfl d_Statement_init_9 rfl (fun M_9 h_10 fr_11 => ?_)
  have h_12 : M_9 q_1 = some (.inl (cI, 7, .inl (fun _ => 0))) := (fr_11 _ (Ne.symm n_6)).trans h_4
  refine V.rd (pc' := 13) (fun hl => lv_aload_n X.1 X.2.1 d_Statement_init_12 rfl (lv_at hl 0 rfl)) ?_
  refine V.go (pc' := 15) (lv_bipush (v := 7) X.1 X.2.1 d_Statement_init_13 (by decide)) ?_
  refine V.newa (pc' := 17) (atype := .long) X hK 1 (mcs wd_317) rfl rfl rfl (a0 := (7, .inr (.inl (fun _ => 0)))) (fun _ => rfl) (by decide) (by decide) (by decide) (by decide) (by decide) d_Statement_init_15 rfl (fun q_13 M_14 z_15 h_16 fr_17 => ?_)
  have n_18 : q_1 ≠ q_13 := ne_z h_12 z_15
  have n_19 : sm ≠ q_13 := ne_z h_10 z_15
  have zb_20 : M q_13 = none := ((fr_11 q_13 (Ne.symm n_19)).trans ((fr_5 q_13 (Ne.symm n_18)))).symm.trans z_15
  have h_21 : M_14 q_1 = some (.inl (cI, 7, .inl (fun _ => 0))) := (fr_17 _ n_18).trans h_12
  have h_22 : M_14 sm = some (.inr (4, [.int 0, .int 0, .int 0, .int 0, .int 0, .int 0, .int 0, .ref q_1, .null, .null, .null, .null])) := (fr_17 _ n_19).trans h_10
  refine V.putF (pc' := 20) X hK hnm h_22 uw_Statement t_Statement tok_Statement nm_Statement rfl 8 (by decide) (mcs wd_26) rfl rfl rfl rfl (Nat.le_of_ble_eq_true rfl) (fs' := [.int 0, .int 0, .int 0, .int 0, .int 0, .int 0, .int 0, .ref q_1, .ref q_13, .null, .null, .null]) rfl d_Statement_init_17 rfl (fun M_23 h_24 fr_25 => ?_)
  have h_26 : M_23 q_1 = some (.inl (cI, 7, .inl (fun _ => 0))) := (fr_25 _ (Ne.symm n_6)).trans h_21
  have h_27 : M_23 q_13 = some (.inl (cL, 7, .inr (.inl (fun _ => 0)))) := (fr_25 _ (Ne.symm n_19)).trans h_16
  refine V.rd (pc' := 21) (fun hl => lv_aload_n X.1 X.2.1 d_Statement_init_20 rfl (lv_at hl 0 rfl)) ?_
  refine V.go (pc' := 23) (lv_bipush (v := 7) X.1 X.2.1 d_Statement_init_21 (by decide)) ?_
  refine V.newa (pc' := 25) (atype := .int) X hK 0 (mcs wd_320) rfl rfl rfl (a0 := (7, .inl (fun _ => 0))) (fun _ => rfl) (by decide) (by decide) (by decide) (by decide) (by decide) d_Statement_init_23 rfl (fun q_28 M_29 z_30 h_31 fr_32 => ?_)
  have n_33 : q_1 ≠ q_28 := ne_z h_26 z_30
  have n_34 : q_13 ≠ q_28 := ne_z h_27 z_30
  have n_35 : sm ≠ q_28 := ne_z h_24 z_30
  have zb_36 : M q_28 = none := ((fr_25 q_28 (Ne.symm n_35)).trans ((fr_17 q_28 (Ne.symm n_34)).trans ((fr_11 q_28 (Ne.symm n_35)).trans ((fr_5 q_28 (Ne.symm n_33)))))).symm.trans z_30
  have h_37 : M_29 q_1 = some (.inl (cI, 7, .inl (fun _ => 0))) := (fr_32 _ n_33).trans h_26
  have h_38 : M_29 q_13 = some (.inl (cL, 7, .inr (.inl (fun _ => 0)))) := (fr_32 _ n_34).trans h_27
  have h_39 : M_29 sm = some (.inr (4, [.int 0, .int 0, .int 0, .int 0, .int 0, .int 0, .int 0, .ref q_1, .ref q_13, .null, .null, .null])) := (fr_32 _ n_35).trans h_24
  refine V.putF (pc' := 28) X hK hnm h_39 uw_Statement t_Statement tok_Statement nm_Statement rfl 9 (by decide) (mcs wd_27) rfl rfl rfl rfl (Nat.le_of_ble_eq_true rfl) (fs' := [.int 0, .int 0, .int 0, .int 0, .int 0, .int 0, .int 0, .ref q_1, .ref q_13, .ref q_28, .null, .null]) rfl d_Statement_init_25 rfl (fun M_40 h_41 fr_42 => ?_)
  have h_43 : M_40 q_1 = some (.inl (cI, 7, .inl (fun _ => 0))) := (fr_42 _ (Ne.symm n_6)).trans h_37
  have h_44 : M_40 q_13 = some (.inl (cL, 7, .inr (.inl (fun _ => 0)))) := (fr_42 _ (Ne.symm n_19)).trans h_38
  have h_45 : M_40 q_28 = some (.inl (cI, 7, .inl (fun _ => 0))) := (fr_42 _ (Ne.symm n_35)).trans h_31
  refine V.rd (pc' := 29) (fun hl => lv_aload_n X.1 X.2.1 d_Statement_init_28 rfl (lv_at hl 0 rfl)) ?_
  refine V.go (pc' := 31) (lv_bipush (v := 7) X.1 X.2.1 d_Statement_init_29 (by decide)) ?_
  refine V.newa (pc' := 33) (atype := .long) X hK 1 (mcs wd_317) rfl rfl rfl (a0 := (7, .inr (.inl (fun _ => 0)))) (fun _ => rfl) (by decide) (by decide) (by decide) (by decide) (by decide) d_Statement_init_31 rfl (fun q_46 M_47 z_48 h_49 fr_50 => ?_)
  have n_51 : q_1 ≠ q_46 := ne_z h_43 z_48
  have n_52 : q_13 ≠ q_46 := ne_z h_44 z_48
  have n_53 : q_28 ≠ q_46 := ne_z h_45 z_48
  have n_54 : sm ≠ q_46 := ne_z h_41 z_48
  have zb_55 : M q_46 = none := ((fr_42 q_46 (Ne.symm n_54)).trans ((fr_32 q_46 (Ne.symm n_53)).trans ((fr_25 q_46 (Ne.symm n_54)).trans ((fr_17 q_46 (Ne.symm n_52)).trans ((fr_11 q_46 (Ne.symm n_54)).trans ((fr_5 q_46 (Ne.symm n_51)))))))).symm.trans z_48
  have h_56 : M_47 q_1 = some (.inl (cI, 7, .inl (fun _ => 0))) := (fr_50 _ n_51).trans h_43
  have h_57 : M_47 q_13 = some (.inl (cL, 7, .inr (.inl (fun _ => 0)))) := (fr_50 _ n_52).trans h_44
  have h_58 : M_47 q_28 = some (.inl (cI, 7, .inl (fun _ => 0))) := (fr_50 _ n_53).trans h_45
  have h_59 : M_47 sm = some (.inr (4, [.int 0, .int 0, .int 0, .int 0, .int 0, .int 0, .int 0, .ref q_1, .ref q_13, .ref q_28, .null, .null])) := (fr_50 _ n_54).trans h_41
  refine V.putF (pc' := 36) X hK hnm h_59 uw_Statement t_Statement tok_Statement nm_Statement rfl 10 (by decide) (mcs wd_34) rfl rfl rfl rfl (Nat.le_of_ble_eq_true rfl) (fs' := [.int 0, .int 0, .int 0, .int 0, .int 0, .int 0, .int 0, .ref q_1, .ref q_13, .ref q_28, .ref q_46, .null]) rfl d_Statement_init_33 rfl (fun M_60 h_61 fr_62 => ?_)
  have h_63 : M_60 q_1 = some (.inl (cI, 7, .inl (fun _ => 0))) := (fr_62 _ (Ne.symm n_6)).trans h_56
  have h_64 : M_60 q_13 = some (.inl (cL, 7, .inr (.inl (fun _ => 0)))) := (fr_62 _ (Ne.symm n_19)).trans h_57
  have h_65 : M_60 q_28 = some (.inl (cI, 7, .inl (fun _ => 0))) := (fr_62 _ (Ne.symm n_35)).trans h_58
  have h_66 : M_60 q_46 = some (.inl (cL, 7, .inr (.inl (fun _ => 0)))) := (fr_62 _ (Ne.symm n_54)).trans h_49
  refine V.rd (pc' := 37) (fun hl => lv_aload_n X.1 X.2.1 d_Statement_init_36 rfl (lv_at hl 0 rfl)) ?_
  refine V.go (pc' := 39) (lv_bipush (v := 7) X.1 X.2.1 d_Statement_init_37 (by decide)) ?_
  refine V.newa (pc' := 41) (atype := .long) X hK 1 (mcs wd_317) rfl rfl rfl (a0 := (7, .inr (.inl (fun _ => 0)))) (fun _ => rfl) (by decide) (by decide) (by decide) (by decide) (by decide) d_Statement_init_39 rfl (fun q_67 M_68 z_69 h_70 fr_71 => ?_)
  have n_72 : q_1 ≠ q_67 := ne_z h_63 z_69
  have n_73 : q_13 ≠ q_67 := ne_z h_64 z_69
  have n_74 : q_28 ≠ q_67 := ne_z h_65 z_69
  have n_75 : q_46 ≠ q_67 := ne_z h_66 z_69
  have n_76 : sm ≠ q_67 := ne_z h_61 z_69
  have zb_77 : M q_67 = none := ((fr_62 q_67 (Ne.symm n_76)).trans ((fr_50 q_67 (Ne.symm n_75)).trans ((fr_42 q_67 (Ne.symm n_76)).trans ((fr_32 q_67 (Ne.symm n_74)).trans ((fr_25 q_67 (Ne.symm n_76)).trans ((fr_17 q_67 (Ne.symm n_73)).trans ((fr_11 q_67 (Ne.symm n_76)).trans ((fr_5 q_67 (Ne.symm n_72)))))))))).symm.trans z_69
  have h_78 : M_68 q_1 = some (.inl (cI, 7, .inl (fun _ => 0))) := (fr_71 _ n_72).trans h_63
  have h_79 : M_68 q_13 = some (.inl (cL, 7, .inr (.inl (fun _ => 0)))) := (fr_71 _ n_73).trans h_64
  have h_80 : M_68 q_28 = some (.inl (cI, 7, .inl (fun _ => 0))) := (fr_71 _ n_74).trans h_65
  have h_81 : M_68 q_46 = some (.inl (cL, 7, .inr (.inl (fun _ => 0)))) := (fr_71 _ n_75).trans h_66
  have h_82 : M_68 sm = some (.inr (4, [.int 0, .int 0, .int 0, .int 0, .int 0, .int 0, .int 0, .ref q_1, .ref q_13, .ref q_28, .ref q_46, .null])) := (fr_71 _ n_76).trans h_61
  refine V.putF (pc' := 44) X hK hnm h_82 uw_Statement t_Statement tok_Statement nm_Statement rfl 11 (by decide) (mcs wd_28) rfl rfl rfl rfl (Nat.le_of_ble_eq_true rfl) (fs' := [.int 0, .int 0, .int 0, .int 0, .int 0, .int 0, .int 0, .ref q_1, .ref q_13, .ref q_28, .ref q_46, .ref q_67]) rfl d_Statement_init_41 rfl (fun M_83 h_84 fr_85 => ?_)
  have h_86 : M_83 q_1 = some (.inl (cI, 7, .inl (fun _ => 0))) := (fr_85 _ (Ne.symm n_6)).trans h_78
  have h_87 : M_83 q_13 = some (.inl (cL, 7, .inr (.inl (fun _ => 0)))) := (fr_85 _ (Ne.symm n_19)).trans h_79
  have h_88 : M_83 q_28 = some (.inl (cI, 7, .inl (fun _ => 0))) := (fr_85 _ (Ne.symm n_35)).trans h_80
  have h_89 : M_83 q_46 = some (.inl (cL, 7, .inr (.inl (fun _ => 0)))) := (fr_85 _ (Ne.symm n_54)).trans h_81
  have h_90 : M_83 q_67 = some (.inl (cL, 7, .inr (.inl (fun _ => 0)))) := (fr_85 _ (Ne.symm n_76)).trans h_70
  refine V.rd (pc' := 45) (fun hl => lv_aload_n X.1 X.2.1 d_Statement_init_44 rfl (lv_at hl 0 rfl)) ?_
  refine V.rd (pc' := 46) (fun hl => lv_iload_n X.1 X.2.1 d_Statement_init_45 rfl (lv_at hl 1 rfl)) ?_
  refine V.putF (pc' := 49) X hK hnm h_84 uw_Statement t_Statement tok_Statement nm_Statement rfl 0 (by decide) (mcs wd_333) rfl rfl rfl rfl (Nat.le_of_ble_eq_true rfl) (fs' := [.int x, .int 0, .int 0, .int 0, .int 0, .int 0, .int 0, .ref q_1, .ref q_13, .ref q_28, .ref q_46, .ref q_67]) rfl d_Statement_init_46 rfl (fun M_91 h_92 fr_93 => ?_)
  have h_94 : M_91 q_1 = some (.inl (cI, 7, .inl (fun _ => 0))) := (fr_93 _ (Ne.symm n_6)).trans h_86
  have h_95 : M_91 q_13 = some (.inl (cL, 7, .inr (.inl (fun _ => 0)))) := (fr_93 _ (Ne.symm n_19)).trans h_87
  have h_96 : M_91 q_28 = some (.inl (cI, 7, .inl (fun _ => 0))) := (fr_93 _ (Ne.symm n_35)).trans h_88
  have h_97 : M_91 q_46 = some (.inl (cL, 7, .inr (.inl (fun _ => 0)))) := (fr_93 _ (Ne.symm n_54)).trans h_89
  have h_98 : M_91 q_67 = some (.inl (cL, 7, .inr (.inl (fun _ => 0)))) := (fr_93 _ (Ne.symm n_76)).trans h_90
  refine V.rd (pc' := 50) (fun hl => lv_aload_n X.1 X.2.1 d_Statement_init_49 rfl (lv_at hl 0 rfl)) ?_
  refine V.rd (pc' := 51) (fun hl => lv_iload_n X.1 X.2.1 d_Statement_init_50 rfl (lv_at hl 2 rfl)) ?_
  refine V.putF (pc' := 54) X hK hnm h_92 uw_Statement t_Statement tok_Statement nm_Statement rfl 1 (by decide) (mcs wd_334) rfl rfl rfl rfl (Nat.le_of_ble_eq_true rfl) (fs' := [.int x, .int y, .int 0, .int 0, .int 0, .int 0, .int 0, .ref q_1, .ref q_13, .ref q_28, .ref q_46, .ref q_67]) rfl d_Statement_init_51 rfl (fun M_99 h_100 fr_101 => ?_)
  have h_102 : M_99 q_1 = some (.inl (cI, 7, .inl (fun _ => 0))) := (fr_101 _ (Ne.symm n_6)).trans h_94
  have h_103 : M_99 q_13 = some (.inl (cL, 7, .inr (.inl (fun _ => 0)))) := (fr_101 _ (Ne.symm n_19)).trans h_95
  have h_104 : M_99 q_28 = some (.inl (cI, 7, .inl (fun _ => 0))) := (fr_101 _ (Ne.symm n_35)).trans h_96
  have h_105 : M_99 q_46 = some (.inl (cL, 7, .inr (.inl (fun _ => 0)))) := (fr_101 _ (Ne.symm n_54)).trans h_97
  have h_106 : M_99 q_67 = some (.inl (cL, 7, .inr (.inl (fun _ => 0)))) := (fr_101 _ (Ne.symm n_76)).trans h_98
  refine V.rd (pc' := 55) (fun hl => lv_aload_n X.1 X.2.1 d_Statement_init_54 rfl (lv_at hl 0 rfl)) ?_
  refine V.rd (pc' := 56) (fun hl => lv_iload_n X.1 X.2.1 d_Statement_init_55 rfl (lv_at hl 3 rfl)) ?_
  refine V.putF (pc' := 59) X hK hnm h_100 uw_Statement t_Statement tok_Statement nm_Statement rfl 2 (by decide) (mcs wd_17) rfl rfl rfl rfl (Nat.le_of_ble_eq_true rfl) (fs' := [.int x, .int y, .int kd, .int 0, .int 0, .int 0, .int 0, .ref q_1, .ref q_13, .ref q_28, .ref q_46, .ref q_67]) rfl d_Statement_init_56 rfl (fun M_107 h_108 fr_109 => ?_)
  have h_110 : M_107 q_1 = some (.inl (cI, 7, .inl (fun _ => 0))) := (fr_109 _ (Ne.symm n_6)).trans h_102
  have h_111 : M_107 q_13 = some (.inl (cL, 7, .inr (.inl (fun _ => 0)))) := (fr_109 _ (Ne.symm n_19)).trans h_103
  have h_112 : M_107 q_28 = some (.inl (cI, 7, .inl (fun _ => 0))) := (fr_109 _ (Ne.symm n_35)).trans h_104
  have h_113 : M_107 q_46 = some (.inl (cL, 7, .inr (.inl (fun _ => 0)))) := (fr_109 _ (Ne.symm n_54)).trans h_105
  have h_114 : M_107 q_67 = some (.inl (cL, 7, .inr (.inl (fun _ => 0)))) := (fr_109 _ (Ne.symm n_76)).trans h_106
  refine V.rd (pc' := 60) (fun hl => lv_aload_n X.1 X.2.1 d_Statement_init_59 rfl (lv_at hl 0 rfl)) ?_
  refine V.rd (pc' := 62) (fun hl => lv_iload X.1 X.2.1 d_Statement_init_60 (lv_at hl 4 rfl)) ?_
  refine V.putF (pc' := 65) X hK hnm h_108 uw_Statement t_Statement tok_Statement nm_Statement rfl 3 (by decide) (mcs wd_60) rfl rfl rfl rfl (Nat.le_of_ble_eq_true rfl) (fs' := [.int x, .int y, .int kd, .int tm, .int 0, .int 0, .int 0, .ref q_1, .ref q_13, .ref q_28, .ref q_46, .ref q_67]) rfl d_Statement_init_62 rfl (fun M_115 h_116 fr_117 => ?_)
  have h_118 : M_115 q_1 = some (.inl (cI, 7, .inl (fun _ => 0))) := (fr_117 _ (Ne.symm n_6)).trans h_110
  have h_119 : M_115 q_13 = some (.inl (cL, 7, .inr (.inl (fun _ => 0)))) := (fr_117 _ (Ne.symm n_19)).trans h_111
  have h_120 : M_115 q_28 = some (.inl (cI, 7, .inl (fun _ => 0))) := (fr_117 _ (Ne.symm n_35)).trans h_112
  have h_121 : M_115 q_46 = some (.inl (cL, 7, .inr (.inl (fun _ => 0)))) := (fr_117 _ (Ne.symm n_54)).trans h_113
  have h_122 : M_115 q_67 = some (.inl (cL, 7, .inr (.inl (fun _ => 0)))) := (fr_117 _ (Ne.symm n_76)).trans h_114
  exact V.vret X hr hlk ⟨rfl, q_1, q_13, q_28, q_46, q_67, zb_7, zb_20, zb_36, zb_55, zb_77, n_18, n_33, n_51, n_72, n_34, n_52, n_73, n_53, n_74, n_75, h_116, h_118, h_119, h_120, h_121, h_122, (fun q n0_ n1_ n2_ n3_ n4_ n5_ => (fr_117 q n0_).trans ((fr_109 q n0_).trans ((fr_101 q n0_).trans ((fr_93 q n0_).trans ((fr_85 q n0_).trans ((fr_71 q n5_).trans ((fr_62 q n0_).trans ((fr_50 q n4_).trans ((fr_42 q n0_).trans ((fr_32 q n3_).trans ((fr_25 q n0_).trans ((fr_17 q n2_).trans ((fr_11 q n0_).trans ((fr_5 q n1_)))))))))))))))⟩ d_Statement_init_65

theorem d_PR_init_0 : decode prog_1_method_1_code 0 = .ok (.aload_n 0, 1) := by decide +kernel
theorem d_PR_init_1 : decode prog_1_method_1_code 1 = .ok (.invokespecial 1, 3) := by decide +kernel
theorem d_PR_init_4 : decode prog_1_method_1_code 4 = .ok (.aload_n 0, 1) := by decide +kernel
theorem d_PR_init_5 : decode prog_1_method_1_code 5 = .ok (.new 7, 3) := by decide +kernel
theorem d_PR_init_8 : decode prog_1_method_1_code 8 = .ok (.dup, 1) := by decide +kernel
theorem d_PR_init_9 : decode prog_1_method_1_code 9 = .ok (.invokespecial 9, 3) := by decide +kernel
theorem d_PR_init_12 : decode prog_1_method_1_code 12 = .ok (.putfield 10, 3) := by decide +kernel
theorem d_PR_init_15 : decode prog_1_method_1_code 15 = .ok (.aload_n 0, 1) := by decide +kernel
theorem d_PR_init_16 : decode prog_1_method_1_code 16 = .ok (.new 16, 3) := by decide +kernel
theorem d_PR_init_19 : decode prog_1_method_1_code 19 = .ok (.dup, 1) := by decide +kernel
theorem d_PR_init_20 : decode prog_1_method_1_code 20 = .ok (.aload_n 0, 1) := by decide +kernel
theorem d_PR_init_21 : decode prog_1_method_1_code 21 = .ok (.getfield 10, 3) := by decide +kernel
theorem d_PR_init_24 : decode prog_1_method_1_code 24 = .ok (.sipush 4096, 3) := by decide +kernel
theorem d_PR_init_27 : decode prog_1_method_1_code 27 = .ok (.newarray .int, 2) := by decide +kernel
theorem d_PR_init_29 : decode prog_1_method_1_code 29 = .ok (.invokespecial 18, 3) := by decide +kernel
theorem d_PR_init_32 : decode prog_1_method_1_code 32 = .ok (.putfield 21, 3) := by decide +kernel
theorem d_PR_init_35 : decode prog_1_method_1_code 35 = .ok (.aload_n 0, 1) := by decide +kernel
theorem d_PR_init_36 : decode prog_1_method_1_code 36 = .ok (.new 16, 3) := by decide +kernel
theorem d_PR_init_39 : decode prog_1_method_1_code 39 = .ok (.dup, 1) := by decide +kernel
theorem d_PR_init_40 : decode prog_1_method_1_code 40 = .ok (.aload_n 0, 1) := by decide +kernel
theorem d_PR_init_41 : decode prog_1_method_1_code 41 = .ok (.getfield 10, 3) := by decide +kernel
theorem d_PR_init_44 : decode prog_1_method_1_code 44 = .ok (.iconst 0, 1) := by decide +kernel
theorem d_PR_init_45 : decode prog_1_method_1_code 45 = .ok (.newarray .int, 2) := by decide +kernel
theorem d_PR_init_47 : decode prog_1_method_1_code 47 = .ok (.invokespecial 18, 3) := by decide +kernel
theorem d_PR_init_50 : decode prog_1_method_1_code 50 = .ok (.putfield 25, 3) := by decide +kernel
theorem d_PR_init_53 : decode prog_1_method_1_code 53 = .ok (.return_, 1) := by decide +kernel

set_option maxHeartbeats 4000000 in
set_option maxRecDepth 100000 in
theorem c_PR_init {l : Launch} {H0 : Heap} {D : va_G} {cI cL cQ cB : ClassId} {M : mp} {px : Nat} (gh0 : M px = some (.inr (5, [.null, .null, .null]))) : MC l H0 D cls7 (tysOf cI cL cQ cB) NW ({ cls := "PerformRanges", name := "<init>", desc := "()V" } : Jvm.MethodName) (Cond.code ({ cls := "PerformRanges", name := "<init>", desc := "()V" } : Jvm.MethodName) prog_1_method_1_code 1 (Option.none : Option Jvm.ClassFile.FieldType) :: GW) ({ frames := 3, cells := 20, slots := 4937, locals := 63 }) [.ref px] M (fun v M' => v = none ∧ ∃ nq0 nq1 nq2 nq3 nq4 nq5 nq6 nq7 nq8 nq9 nq10 nq11 nq12 nq13 nq14 nq15 nq16 nq17 nq18 nq19 : Nat, M nq0 = none ∧ M nq1 = none ∧ M nq2 = none ∧ M nq3 = none ∧ M nq4 = none ∧ M nq5 = none ∧ M nq6 = none ∧ M nq7 = none ∧ M nq8 = none ∧ M nq9 = none ∧ M nq10 = none ∧ M nq11 = none ∧ M nq12 = none ∧ M nq13 = none ∧ M nq14 = none ∧ M nq15 = none ∧ M nq16 = none ∧ M nq17 = none ∧ M nq18 = none ∧ M nq19 = none ∧ nq0 ≠ nq1 ∧ nq0 ≠ nq2 ∧ nq0 ≠ nq3 ∧ nq0 ≠ nq4 ∧ nq0 ≠ nq5 ∧ nq0 ≠ nq6 ∧ nq0 ≠ nq7 ∧ nq0 ≠ nq8 ∧ nq0 ≠ nq9 ∧ nq0 ≠ nq10 ∧ nq0 ≠ nq11 ∧ nq0 ≠ nq12 ∧ nq0 ≠ nq13 ∧ nq0 ≠ nq14 ∧ nq0 ≠ nq15 ∧ nq0 ≠ nq16 ∧ nq0 ≠ nq17 ∧ nq0 ≠ nq18 ∧ nq0 ≠ nq19 ∧ nq1 ≠ nq2 ∧ nq1 ≠ nq3 ∧ nq1 ≠ nq4 ∧ nq1 ≠ nq5 ∧ nq1 ≠ nq6 ∧ nq1 ≠ nq7 ∧ nq1 ≠ nq8 ∧ nq1 ≠ nq9 ∧ nq1 ≠ nq10 ∧ nq1 ≠ nq11 ∧ nq1 ≠ nq12 ∧ nq1 ≠ nq13 ∧ nq1 ≠ nq14 ∧ nq1 ≠ nq15 ∧ nq1 ≠ nq16 ∧ nq1 ≠ nq17 ∧ nq1 ≠ nq18 ∧ nq1 ≠ nq19 ∧ nq2 ≠ nq3 ∧ nq2 ≠ nq4 ∧ nq2 ≠ nq5 ∧ nq2 ≠ nq6 ∧ nq2 ≠ nq7 ∧ nq2 ≠ nq8 ∧ nq2 ≠ nq9 ∧ nq2 ≠ nq10 ∧ nq2 ≠ nq11 ∧ nq2 ≠ nq12 ∧ nq2 ≠ nq13 ∧ nq2 ≠ nq14 ∧ nq2 ≠ nq15 ∧ nq2 ≠ nq16 ∧ nq2 ≠ nq17 ∧ nq2 ≠ nq18 ∧ nq2 ≠ nq19 ∧ nq3 ≠ nq4 ∧ nq3 ≠ nq5 ∧ nq3 ≠ nq6 ∧ nq3 ≠ nq7 ∧ nq3 ≠ nq8 ∧ nq3 ≠ nq9 ∧ nq3 ≠ nq10 ∧ nq3 ≠ nq11 ∧ nq3 ≠ nq12 ∧ nq3 ≠ nq13 ∧ nq3 ≠ nq14 ∧ nq3 ≠ nq15 ∧ nq3 ≠ nq16 ∧ nq3 ≠ nq17 ∧ nq3 ≠ nq18 ∧ nq3 ≠ nq19 ∧ nq4 ≠ nq5 ∧ nq4 ≠ nq6 ∧ nq4 ≠ nq7 ∧ nq4 ≠ nq8 ∧ nq4 ≠ nq9 ∧ nq4 ≠ nq10 ∧ nq4 ≠ nq11 ∧ nq4 ≠ nq12 ∧ nq4 ≠ nq13 ∧ nq4 ≠ nq14 ∧ nq4 ≠ nq15 ∧ nq4 ≠ nq16 ∧ nq4 ≠ nq17 ∧ nq4 ≠ nq18 ∧ nq4 ≠ nq19 ∧ nq5 ≠ nq6 ∧ nq5 ≠ nq7 ∧ nq5 ≠ nq8 ∧ nq5 ≠ nq9 ∧ nq5 ≠ nq10 ∧ nq5 ≠ nq11 ∧ nq5 ≠ nq12 ∧ nq5 ≠ nq13 ∧ nq5 ≠ nq14 ∧ nq5 ≠ nq15 ∧ nq5 ≠ nq16 ∧ nq5 ≠ nq17 ∧ nq5 ≠ nq18 ∧ nq5 ≠ nq19 ∧ nq6 ≠ nq7 ∧ nq6 ≠ nq8 ∧ nq6 ≠ nq9 ∧ nq6 ≠ nq10 ∧ nq6 ≠ nq11 ∧ nq6 ≠ nq12 ∧ nq6 ≠ nq13 ∧ nq6 ≠ nq14 ∧ nq6 ≠ nq15 ∧ nq6 ≠ nq16 ∧ nq6 ≠ nq17 ∧ nq6 ≠ nq18 ∧ nq6 ≠ nq19 ∧ nq7 ≠ nq8 ∧ nq7 ≠ nq9 ∧ nq7 ≠ nq10 ∧ nq7 ≠ nq11 ∧ nq7 ≠ nq12 ∧ nq7 ≠ nq13 ∧ nq7 ≠ nq14 ∧ nq7 ≠ nq15 ∧ nq7 ≠ nq16 ∧ nq7 ≠ nq17 ∧ nq7 ≠ nq18 ∧ nq7 ≠ nq19 ∧ nq8 ≠ nq9 ∧ nq8 ≠ nq10 ∧ nq8 ≠ nq11 ∧ nq8 ≠ nq12 ∧ nq8 ≠ nq13 ∧ nq8 ≠ nq14 ∧ nq8 ≠ nq15 ∧ nq8 ≠ nq16 ∧ nq8 ≠ nq17 ∧ nq8 ≠ nq18 ∧ nq8 ≠ nq19 ∧ nq9 ≠ nq10 ∧ nq9 ≠ nq11 ∧ nq9 ≠ nq12 ∧ nq9 ≠ nq13 ∧ nq9 ≠ nq14 ∧ nq9 ≠ nq15 ∧ nq9 ≠ nq16 ∧ nq9 ≠ nq17 ∧ nq9 ≠ nq18 ∧ nq9 ≠ nq19 ∧ nq10 ≠ nq11 ∧ nq10 ≠ nq12 ∧ nq10 ≠ nq13 ∧ nq10 ≠ nq14 ∧ nq10 ≠ nq15 ∧ nq10 ≠ nq16 ∧ nq10 ≠ nq17 ∧ nq10 ≠ nq18 ∧ nq10 ≠ nq19 ∧ nq11 ≠ nq12 ∧ nq11 ≠ nq13 ∧ nq11 ≠ nq14 ∧ nq11 ≠ nq15 ∧ nq11 ≠ nq16 ∧ nq11 ≠ nq17 ∧ nq11 ≠ nq18 ∧ nq11 ≠ nq19 ∧ nq12 ≠ nq13 ∧ nq12 ≠ nq14 ∧ nq12 ≠ nq15 ∧ nq12 ≠ nq16 ∧ nq12 ≠ nq17 ∧ nq12 ≠ nq18 ∧ nq12 ≠ nq19 ∧ nq13 ≠ nq14 ∧ nq13 ≠ nq15 ∧ nq13 ≠ nq16 ∧ nq13 ≠ nq17 ∧ nq13 ≠ nq18 ∧ nq13 ≠ nq19 ∧ nq14 ≠ nq15 ∧ nq14 ≠ nq16 ∧ nq14 ≠ nq17 ∧ nq14 ≠ nq18 ∧ nq14 ≠ nq19 ∧ nq15 ≠ nq16 ∧ nq15 ≠ nq17 ∧ nq15 ≠ nq18 ∧ nq15 ≠ nq19 ∧ nq16 ≠ nq17 ∧ nq16 ≠ nq18 ∧ nq16 ≠ nq19 ∧ nq17 ≠ nq18 ∧ nq17 ≠ nq19 ∧ nq18 ≠ nq19 ∧ M' px = some (.inr (5, [.ref nq0, .ref nq4, .ref nq12])) ∧ M' nq0 = some (.inr (3, [.ref nq1, .ref nq2, .ref nq3, .int 0, .int 0])) ∧ M' nq1 = some (.inl (cI, 60, .inl (fun _ => 0))) ∧ M' nq2 = some (.inl (cI, 60, .inl (fun _ => 0))) ∧ M' nq3 = some (.inl (cQ, 60, .inr (.inr (.inr (.inr (fun _ => none)))))) ∧ M' nq4 = some (.inr (1, [.ref nq0, .ref nq6, .ref nq8, .ref nq5, .int 0, .int (-1)])) ∧ M' nq5 = some (.inl (cI, 4096, .inl (fun _ => 0))) ∧ M' nq6 = some (.inr (0, [.ref nq7])) ∧ M' nq7 = some (.inl (cL, 16, .inr (.inl (fun _ => 0)))) ∧ M' nq8 = some (.inr (2, [.ref nq9, .ref nq10, .ref nq11, .int 0, .int 0])) ∧ M' nq9 = some (.inl (cQ, 100, .inr (.inr (.inr (.inr (fun _ => none)))))) ∧ M' nq10 = some (.inl (cI, 100, .inl (fun _ => 0))) ∧ M' nq11 = some (.inl (cI, 100, .inl (fun _ => 0))) ∧ M' nq12 = some (.inr (1, [.ref nq0, .ref nq14, .ref nq16, .ref nq13, .int 0, .int (-1)])) ∧ M' nq13 = some (.inl (cI, 0, .inl (fun _ => 0))) ∧ M' nq14 = some (.inr (0, [.ref nq15])) ∧ M' nq15 = some (.inl (cL, 16, .inr (.inl (fun _ => 0)))) ∧ M' nq16 = some (.inr (2, [.ref nq17, .ref nq18, .ref nq19, .int 0, .int 0])) ∧ M' nq17 = some (.inl (cQ, 100, .inr (.inr (.inr (.inr (fun _ => none)))))) ∧ M' nq18 = some (.inl (cI, 100, .inl (fun _ => 0))) ∧ M' nq19 = some (.inl (cI, 100, .inl (fun _ => 0))) ∧ (∀ q, q ≠ px → q ≠ nq0 → q ≠ nq1 → q ≠ nq2 → q ≠ nq3 → q ≠ nq4 → q ≠ nq5 → q ≠ nq6 → q ≠ nq7 → q ≠ nq8 → q ≠ nq9 → q ≠ nq10 → q ≠ nq11 → q ≠ nq12 → q ≠ nq13 → q ≠ nq14 → q ≠ nq15 → q ≠ nq16 → q ≠ nq17 → q ≠ nq18 → q ≠ nq19 → M' q = M q)) := by
  refine MC.of (cc := prog_1_method_1_code) (nL := 1) (ret := (Option.none : Option Jvm.ClassFile.FieldType)) (lv := [(0, .ref px)]) (by decide) rfl (Nat.le_of_ble_eq_true rfl) rfl ?_
  intro p e s m below meth c X hr hlk hnm hK
  refine V.rd (pc' := 1) (fun hl => lv_aload_n X.1 X.2.1 d_PR_init_0 rfl (lv_at hl 0 rfl)) ?_
  refine V.obj (pc' := 4) X (mcs wd_335) (mcs wd_315) (mcs wd_316) (Nat.le_of_ble_eq_true rfl) d_PR_init_1 (by decide) (by decide) rfl ?_
  refine V.rd (pc' := 5) (fun hl => lv_aload_n X.1 X.2.1 d_PR_init_4 rfl (lv_at hl 0 rfl)) ?_
  refine V.new (pc' := 8) (ci := 3) X hK (fs := [.null, .null, .null, .int 0, .int 0]) uw_Program t_Program tok_Program (mcs wd_336) (mcs wd_337) (mcs wd_7) rfl (fun j hj => match j, hj with | 0, _ => rfl | 1, _ => rfl | 2, _ => rfl | 3, _ => rfl | 4, _ => rfl | k + 5, h => absurd h (by omega)) (by decide) (by decide) d_PR_init_5 rfl (fun q_1 M_2 z_3 h_4 fr_5 => ?_)
  have n_6 : px ≠ q_1 := ne_z gh0 z_3
  have zb_7 : M q_1 = none := z_3
  have h_8 : M_2 px = some (.inr (5, [.null, .null, .null])) := (fr_5 _ n_6).trans gh0
  refine V.go (pc' := 9) (lv_dup X.1 X.2.1 d_PR_init_8 rfl) ?_
  refine V.callIN (pc' := 12) X hK (c_Program_init  (pg := q_1)   h_4  ) (ciN (n := 0) X hK (List.mem_of_getElem? (i := 0) rfl) (mcs wd_338) (mcs wd_7) wd_339 rfl (by decide +kernel) (by decide) (by decide)) rfl rfl (Nat.le_of_ble_eq_true rfl) d_PR_init_9 ⟨by decide, by decide⟩ rfl (st1 := [.ref q_1, .ref px]) rfl (fun M_9 ⟨q_12, q_13, q_14, z_15, z_16, z_17, n_18, n_19, n_20, h_10, h_21, h_22, h_23, fr_11⟩ => ?_)
  have n_24 : px ≠ q_12 := ne_z h_8 z_15
  have n_25 : q_1 ≠ q_12 := ne_z h_4 z_15
  have n_26 : px ≠ q_13 := ne_z h_8 z_16
  have n_27 : q_1 ≠ q_13 := ne_z h_4 z_16
  have n_28 : px ≠ q_14 := ne_z h_8 z_17
  have n_29 : q_1 ≠ q_14 := ne_z h_4 z_17
  have zb_30 : M q_12 = none := ((fr_5 q_12 (Ne.symm n_25))).symm.trans z_15
  have zb_31 : M q_13 = none := ((fr_5 q_13 (Ne.symm n_27))).symm.trans z_16
  have zb_32 : M q_14 = none := ((fr_5 q_14 (Ne.symm n_29))).symm.trans z_17
  have h_33 : M_9 px = some (.inr (5, [.null, .null, .null])) := (fr_11 _ n_6 n_24 n_26 n_28).trans h_8
  refine V.putF (pc' := 15) X hK hnm h_33 uw_PR t_PR tok_PR nm_PR rfl 0 (by decide) (mcs wd_265) rfl rfl rfl rfl (Nat.le_of_ble_eq_true rfl) (fs' := [.ref q_1, .null, .null]) rfl d_PR_init_12 rfl (fun M_34 h_35 fr_36 => ?_)
  have h_37 : M_34 q_1 = some (.inr (3, [.ref q_12, .ref q_13, .ref q_14, .int 0, .int 0])) := (fr_36 _ (Ne.symm n_6)).trans h_10
  have h_38 : M_34 q_12 = some (.inl (cI, 60, .inl (fun _ => 0))) := (fr_36 _ (Ne.symm n_24)).trans h_21
  have h_39 : M_34 q_13 = some (.inl (cI, 60, .inl (fun _ => 0))) := (fr_36 _ (Ne.symm n_26)).trans h_22
  have h_40 : M_34 q_14 = some (.inl (cQ, 60, .inr (.inr (.inr (.inr (fun _ => none)))))) := (fr_36 _ (Ne.symm n_28)).trans h_23
  refine V.rd (pc' := 16) (fun hl => lv_aload_n X.1 X.2.1 d_PR_init_15 rfl (lv_at hl 0 rfl)) ?_
  refine V.new (pc' := 19) (ci := 1) X hK (fs := [.null, .null, .null, .null, .int 0, .int 0]) uw_Course t_Course tok_Course (mcs wd_340) (mcs wd_341) (mcs wd_92) rfl (fun j hj => match j, hj with | 0, _ => rfl | 1, _ => rfl | 2, _ => rfl | 3, _ => rfl | 4, _ => rfl | 5, _ => rfl | k + 6, h => absurd h (by omega)) (by decide) (by decide) d_PR_init_16 rfl (fun q_41 M_42 z_43 h_44 fr_45 => ?_)
  have n_46 : q_1 ≠ q_41 := ne_z h_37 z_43
  have n_47 : q_12 ≠ q_41 := ne_z h_38 z_43
  have n_48 : q_13 ≠ q_41 := ne_z h_39 z_43
  have n_49 : q_14 ≠ q_41 := ne_z h_40 z_43
  have n_50 : px ≠ q_41 := ne_z h_35 z_43
  have zb_51 : M q_41 = none := ((fr_36 q_41 (Ne.symm n_50)).trans ((fr_11 q_41 (Ne.symm n_46) (Ne.symm n_47) (Ne.symm n_48) (Ne.symm n_49)).trans ((fr_5 q_41 (Ne.symm n_46))))).symm.trans z_43
  have h_52 : M_42 q_1 = some (.inr (3, [.ref q_12, .ref q_13, .ref q_14, .int 0, .int 0])) := (fr_45 _ n_46).trans h_37
  have h_53 : M_42 q_12 = some (.inl (cI, 60, .inl (fun _ => 0))) := (fr_45 _ n_47).trans h_38
  have h_54 : M_42 q_13 = some (.inl (cI, 60, .inl (fun _ => 0))) := (fr_45 _ n_48).trans h_39
  have h_55 : M_42 q_14 = some (.inl (cQ, 60, .inr (.inr (.inr (.inr (fun _ => none)))))) := (fr_45 _ n_49).trans h_40
  have h_56 : M_42 px = some (.inr (5, [.ref q_1, .null, .null])) := (fr_45 _ n_50).trans h_35
  refine V.go (pc' := 20) (lv_dup X.1 X.2.1 d_PR_init_19 rfl) ?_
  refine V.rd (pc' := 21) (fun hl => lv_aload_n X.1 X.2.1 d_PR_init_20 rfl (lv_at hl 0 rfl)) ?_
  refine V.get (pc' := 24) X hK h_56 uw_PR rfl 0 (by decide) (mcs wd_265) rfl d_PR_init_21 rfl ?_
  refine V.go (pc' := 27) (lv_sipush (v := 4096) X.1 X.2.1 d_PR_init_24 (by decide)) ?_
  refine V.newa (pc' := 29) (atype := .int) X hK 0 (mcs wd_320) rfl rfl rfl (a0 := (4096, .inl (fun _ => 0))) (fun _ => rfl) (by decide) (by decide) (by decide) (by decide) (by decide) d_PR_init_27 rfl (fun q_57 M_58 z_59 h_60 fr_61 => ?_)
  have n_62 : q_1 ≠ q_57 := ne_z h_52 z_59
  have n_63 : q_12 ≠ q_57 := ne_z h_53 z_59
  have n_64 : q_13 ≠ q_57 := ne_z h_54 z_59
  have n_65 : q_14 ≠ q_57 := ne_z h_55 z_59
  have n_66 : px ≠ q_57 := ne_z h_56 z_59
  have n_67 : q_41 ≠ q_57 := ne_z h_44 z_59
  have zb_68 : M q_57 = none := ((fr_45 q_57 (Ne.symm n_67)).trans ((fr_36 q_57 (Ne.symm n_66)).trans ((fr_11 q_57 (Ne.symm n_62) (Ne.symm n_63) (Ne.symm n_64) (Ne.symm n_65)).trans ((fr_5 q_57 (Ne.symm n_62)))))).symm.trans z_59
  have h_69 : M_58 q_1 = some (.inr (3, [.ref q_12, .ref q_13, .ref q_14, .int 0, .int 0])) := (fr_61 _ n_62).trans h_52
  have h_70 : M_58 q_12 = some (.inl (cI, 60, .inl (fun _ => 0))) := (fr_61 _ n_63).trans h_53
  have h_71 : M_58 q_13 = some (.inl (cI, 60, .inl (fun _ => 0))) := (fr_61 _ n_64).trans h_54
  have h_72 : M_58 q_14 = some (.inl (cQ, 60, .inr (.inr (.inr (.inr (fun _ => none)))))) := (fr_61 _ n_65).trans h_55
  have h_73 : M_58 px = some (.inr (5, [.ref q_1, .null, .null])) := (fr_61 _ n_66).trans h_56
  have h_74 : M_58 q_41 = some (.inr (1, [.null, .null, .null, .null, .int 0, .int 0])) := (fr_61 _ n_67).trans h_44
  refine V.callI (pc' := 32) X hK (c_Course_init  (co := q_41) (pg := q_1) (ra := q_57)   h_74  ) (ciG (n := 2) X (mcs wd_342) (mcs wd_343) (mcs wd_92) wd_344 rfl (by decide +kernel) (by decide) (by decide)) rfl rfl (Nat.le_of_ble_eq_true rfl) d_PR_init_29 ⟨by decide, by decide⟩ rfl (st1 := [.ref q_41, .ref px]) rfl (fun M_75 ⟨q_78, q_79, q_80, q_81, q_82, q_83, z_84, z_85, z_86, z_87, z_88, z_89, n_90, n_91, n_92, n_93, n_94, n_95, n_96, n_97, n_98, n_99, n_100, n_101, n_102, n_103, n_104, h_76, h_105, h_106, h_107, h_108, h_109, h_110, fr_77⟩ => ?_)
  have n_111 : q_1 ≠ q_78 := ne_z h_69 z_84
  have n_112 : q_12 ≠ q_78 := ne_z h_70 z_84
  have n_113 : q_13 ≠ q_78 := ne_z h_71 z_84
  have n_114 : q_14 ≠ q_78 := ne_z h_72 z_84
  have n_115 : px ≠ q_78 := ne_z h_73 z_84
  have n_116 : q_41 ≠ q_78 := ne_z h_74 z_84
  have n_117 : q_57 ≠ q_78 := ne_z h_60 z_84
  have n_118 : q_1 ≠ q_79 := ne_z h_69 z_85
  have n_119 : q_12 ≠ q_79 := ne_z h_70 z_85
  have n_120 : q_13 ≠ q_79 := ne_z h_71 z_85
  have n_121 : q_14 ≠ q_79 := ne_z h_72 z_85
  have n_122 : px ≠ q_79 := ne_z h_73 z_85
  have n_123 : q_41 ≠ q_79 := ne_z h_74 z_85
  have n_124 : q_57 ≠ q_79 := ne_z h_60 z_85
  have n_125 : q_1 ≠ q_80 := ne_z h_69 z_86
  have n_126 : q_12 ≠ q_80 := ne_z h_70 z_86
  have n_127 : q_13 ≠ q_80 := ne_z h_71 z_86
  have n_128 : q_14 ≠ q_80 := ne_z h_72 z_86
  have n_129 : px ≠ q_80 := ne_z h_73 z_86
  have n_130 : q_41 ≠ q_80 := ne_z h_74 z_86
  have n_131 : q_57 ≠ q_80 := ne_z h_60 z_86
  have n_132 : q_1 ≠ q_81 := ne_z h_69 z_87
  have n_133 : q_12 ≠ q_81 := ne_z h_70 z_87
  have n_134 : q_13 ≠ q_81 := ne_z h_71 z_87
  have n_135 : q_14 ≠ q_81 := ne_z h_72 z_87
  have n_136 : px ≠ q_81 := ne_z h_73 z_87
  have n_137 : q_41 ≠ q_81 := ne_z h_74 z_87
  have n_138 : q_57 ≠ q_81 := ne_z h_60 z_87
  have n_139 : q_1 ≠ q_82 := ne_z h_69 z_88
  have n_140 : q_12 ≠ q_82 := ne_z h_70 z_88
  have n_141 : q_13 ≠ q_82 := ne_z h_71 z_88
  have n_142 : q_14 ≠ q_82 := ne_z h_72 z_88
  have n_143 : px ≠ q_82 := ne_z h_73 z_88
  have n_144 : q_41 ≠ q_82 := ne_z h_74 z_88
  have n_145 : q_57 ≠ q_82 := ne_z h_60 z_88
  have n_146 : q_1 ≠ q_83 := ne_z h_69 z_89
  have n_147 : q_12 ≠ q_83 := ne_z h_70 z_89
  have n_148 : q_13 ≠ q_83 := ne_z h_71 z_89
  have n_149 : q_14 ≠ q_83 := ne_z h_72 z_89
  have n_150 : px ≠ q_83 := ne_z h_73 z_89
  have n_151 : q_41 ≠ q_83 := ne_z h_74 z_89
  have n_152 : q_57 ≠ q_83 := ne_z h_60 z_89
  have zb_153 : M q_78 = none := ((fr_61 q_78 (Ne.symm n_117)).trans ((fr_45 q_78 (Ne.symm n_116)).trans ((fr_36 q_78 (Ne.symm n_115)).trans ((fr_11 q_78 (Ne.symm n_111) (Ne.symm n_112) (Ne.symm n_113) (Ne.symm n_114)).trans ((fr_5 q_78 (Ne.symm n_111))))))).symm.trans z_84
  have zb_154 : M q_79 = none := ((fr_61 q_79 (Ne.symm n_124)).trans ((fr_45 q_79 (Ne.symm n_123)).trans ((fr_36 q_79 (Ne.symm n_122)).trans ((fr_11 q_79 (Ne.symm n_118) (Ne.symm n_119) (Ne.symm n_120) (Ne.symm n_121)).trans ((fr_5 q_79 (Ne.symm n_118))))))).symm.trans z_85
  have zb_155 : M q_80 = none := ((fr_61 q_80 (Ne.symm n_131)).trans ((fr_45 q_80 (Ne.symm n_130)).trans ((fr_36 q_80 (Ne.symm n_129)).trans ((fr_11 q_80 (Ne.symm n_125) (Ne.symm n_126) (Ne.symm n_127) (Ne.symm n_128)).trans ((fr_5 q_80 (Ne.symm n_125))))))).symm.trans z_86
  have zb_156 : M q_81 = none := ((fr_61 q_81 (Ne.symm n_138)).trans ((fr_45 q_81 (Ne.symm n_137)).trans ((fr_36 q_81 (Ne.symm n_136)).trans ((fr_11 q_81 (Ne.symm n_132) (Ne.symm n_133) (Ne.symm n_134) (Ne.symm n_135)).trans ((fr_5 q_81 (Ne.symm n_132))))))).symm.trans z_87
  have zb_157 : M q_82 = none := ((fr_61 q_82 (Ne.symm n_145)).trans ((fr_45 q_82 (Ne.symm n_144)).trans ((fr_36 q_82 (Ne.symm n_143)).trans ((fr_11 q_82 (Ne.symm n_139) (Ne.symm n_140) (Ne.symm n_141) (Ne.symm n_142)).trans ((fr_5 q_82 (Ne.symm n_139))))))).symm.trans z_88
  have zb_158 : M q_83 = none := ((fr_61 q_83 (Ne.symm n_152)).trans ((fr_45 q_83 (Ne.symm n_151)).trans ((fr_36 q_83 (Ne.symm n_150)).trans ((fr_11 q_83 (Ne.symm n_146) (Ne.symm n_147) (Ne.symm n_148) (Ne.symm n_149)).trans ((fr_5 q_83 (Ne.symm n_146))))))).symm.trans z_89
  have h_159 : M_75 q_1 = some (.inr (3, [.ref q_12, .ref q_13, .ref q_14, .int 0, .int 0])) := (fr_77 _ n_46 n_111 n_118 n_125 n_132 n_139 n_146).trans h_69
  have h_160 : M_75 q_12 = some (.inl (cI, 60, .inl (fun _ => 0))) := (fr_77 _ n_47 n_112 n_119 n_126 n_133 n_140 n_147).trans h_70
  have h_161 : M_75 q_13 = some (.inl (cI, 60, .inl (fun _ => 0))) := (fr_77 _ n_48 n_113 n_120 n_127 n_134 n_141 n_148).trans h_71
  have h_162 : M_75 q_14 = some (.inl (cQ, 60, .inr (.inr (.inr (.inr (fun _ => none)))))) := (fr_77 _ n_49 n_114 n_121 n_128 n_135 n_142 n_149).trans h_72
  have h_163 : M_75 px = some (.inr (5, [.ref q_1, .null, .null])) := (fr_77 _ n_50 n_115 n_122 n_129 n_136 n_143 n_150).trans h_73
  have h_164 : M_75 q_57 = some (.inl (cI, 4096, .inl (fun _ => 0))) := (fr_77 _ (Ne.symm n_67) n_117 n_124 n_131 n_138 n_145 n_152).trans h_60
  refine V.putF (pc' := 35) X hK hnm h_163 uw_PR t_PR tok_PR nm_PR rfl 1 (by decide) (mcs wd_274) rfl rfl rfl rfl (Nat.le_of_ble_eq_true rfl) (fs' := [.ref q_1, .ref q_41, .null]) rfl d_PR_init_32 rfl (fun M_165 h_166 fr_167 => ?_)
  have h_168 : M_165 q_1 = some (.inr (3, [.ref q_12, .ref q_13, .ref q_14, .int 0, .int 0])) := (fr_167 _ (Ne.symm n_6)).trans h_159
  have h_169 : M_165 q_12 = some (.inl (cI, 60, .inl (fun _ => 0))) := (fr_167 _ (Ne.symm n_24)).trans h_160
  have h_170 : M_165 q_13 = some (.inl (cI, 60, .inl (fun _ => 0))) := (fr_167 _ (Ne.symm n_26)).trans h_161
  have h_171 : M_165 q_14 = some (.inl (cQ, 60, .inr (.inr (.inr (.inr (fun _ => none)))))) := (fr_167 _ (Ne.symm n_28)).trans h_162
  have h_172 : M_165 q_57 = some (.inl (cI, 4096, .inl (fun _ => 0))) := (fr_167 _ (Ne.symm n_66)).trans h_164
  have h_173 : M_165 q_41 = some (.inr (1, [.ref q_1, .ref q_78, .ref q_80, .ref q_57, .int 0, .int (-1)])) := (fr_167 _ (Ne.symm n_50)).trans h_76
  have h_174 : M_165 q_78 = some (.inr (0, [.ref q_79])) := (fr_167 _ (Ne.symm n_115)).trans h_105
  have h_175 : M_165 q_79 = some (.inl (cL, 16, .inr (.inl (fun _ => 0)))) := (fr_167 _ (Ne.symm n_122)).trans h_106
  have h_176 : M_165 q_80 = some (.inr (2, [.ref q_81, .ref q_82, .ref q_83, .int 0, .int 0])) := (fr_167 _ (Ne.symm n_129)).trans h_107
  have h_177 : M_165 q_81 = some (.inl (cQ, 100, .inr (.inr (.inr (.inr (fun _ => none)))))) := (fr_167 _ (Ne.symm n_136)).trans h_108
  have h_178 : M_165 q_82 = some (.inl (cI, 100, .inl (fun _ => 0))) := (fr_167 _ (Ne.symm n_143)).trans h_109
  have h_179 : M_165 q_83 = some (.inl (cI, 100, .inl (fun _ => 0))) := (fr_167 _ (Ne.symm n_150)).trans h_110
  refine V.rd (pc' := 36) (fun hl => lv_aload_n X.1 X.2.1 d_PR_init_35 rfl (lv_at hl 0 rfl)) ?_
  refine V.new (pc' := 39) (ci := 1) X hK (fs := [.null, .null, .null, .null, .int 0, .int 0]) uw_Course t_Course tok_Course (mcs wd_340) (mcs wd_341) (mcs wd_92) rfl (fun j hj => match j, hj with | 0, _ => rfl | 1, _ => rfl | 2, _ => rfl | 3, _ => rfl | 4, _ => rfl | 5, _ => rfl | k + 6, h => absurd h (by omega)) (by decide) (by decide) d_PR_init_36 rfl (fun q_180 M_181 z_182 h_183 fr_184 => ?_)
  have n_185 : q_1 ≠ q_180 := ne_z h_168 z_182
  have n_186 : q_12 ≠ q_180 := ne_z h_169 z_182
  have n_187 : q_13 ≠ q_180 := ne_z h_170 z_182
  have n_188 : q_14 ≠ q_180 := ne_z h_171 z_182
  have n_189 : q_57 ≠ q_180 := ne_z h_172 z_182
  have n_190 : q_41 ≠ q_180 := ne_z h_173 z_182
  have n_191 : q_78 ≠ q_180 := ne_z h_174 z_182
  have n_192 : q_79 ≠ q_180 := ne_z h_175 z_182
  have n_193 : q_80 ≠ q_180 := ne_z h_176 z_182
  have n_194 : q_81 ≠ q_180 := ne_z h_177 z_182
  have n_195 : q_82 ≠ q_180 := ne_z h_178 z_182
  have n_196 : q_83 ≠ q_180 := ne_z h_179 z_182
  have n_197 : px ≠ q_180 := ne_z h_166 z_182
  have zb_198 : M q_180 = none := ((fr_167 q_180 (Ne.symm n_197)).trans ((fr_77 q_180 (Ne.symm n_190) (Ne.symm n_191) (Ne.symm n_192) (Ne.symm n_193) (Ne.symm n_194) (Ne.symm n_195) (Ne.symm n_196)).trans ((fr_61 q_180 (Ne.symm n_189)).trans ((fr_45 q_180 (Ne.symm n_190)).trans ((fr_36 q_180 (Ne.symm n_197)).trans ((fr_11 q_180 (Ne.symm n_185) (Ne.symm n_186) (Ne.symm n_187) (Ne.symm n_188)).trans ((fr_5 q_180 (Ne.symm n_185))))))))).symm.trans z_182
  have h_199 : M_181 q_1 = some (.inr (3, [.ref q_12, .ref q_13, .ref q_14, .int 0, .int 0])) := (fr_184 _ n_185).trans h_168
  have h_200 : M_181 q_12 = some (.inl (cI, 60, .inl (fun _ => 0))) := (fr_184 _ n_186).trans h_169
  have h_201 : M_181 q_13 = some (.inl (cI, 60, .inl (fun _ => 0))) := (fr_184 _ n_187).trans h_170
  have h_202 : M_181 q_14 = some (.inl (cQ, 60, .inr (.inr (.inr (.inr (fun _ => none)))))) := (fr_184 _ n_188).trans h_171
  have h_203 : M_181 q_57 = some (.inl (cI, 4096, .inl (fun _ => 0))) := (fr_184 _ n_189).trans h_172
  have h_204 : M_181 q_41 = some (.inr (1, [.ref q_1, .ref q_78, .ref q_80, .ref q_57, .int 0, .int (-1)])) := (fr_184 _ n_190).trans h_173
  have h_205 : M_181 q_78 = some (.inr (0, [.ref q_79])) := (fr_184 _ n_191).trans h_174
  have h_206 : M_181 q_79 = some (.inl (cL, 16, .inr (.inl (fun _ => 0)))) := (fr_184 _ n_192).trans h_175
  have h_207 : M_181 q_80 = some (.inr (2, [.ref q_81, .ref q_82, .ref q_83, .int 0, .int 0])) := (fr_184 _ n_193).trans h_176
  have h_208 : M_181 q_81 = some (.inl (cQ, 100, .inr (.inr (.inr (.inr (fun _ => none)))))) := (fr_184 _ n_194).trans h_177
  have h_209 : M_181 q_82 = some (.inl (cI, 100, .inl (fun _ => 0))) := (fr_184 _ n_195).trans h_178
  have h_210 : M_181 q_83 = some (.inl (cI, 100, .inl (fun _ => 0))) := (fr_184 _ n_196).trans h_179
  have h_211 : M_181 px = some (.inr (5, [.ref q_1, .ref q_41, .null])) := (fr_184 _ n_197).trans h_166
  refine V.go (pc' := 40) (lv_dup X.1 X.2.1 d_PR_init_39 rfl) ?_
  refine V.rd (pc' := 41) (fun hl => lv_aload_n X.1 X.2.1 d_PR_init_40 rfl (lv_at hl 0 rfl)) ?_
  refine V.get (pc' := 44) X hK h_211 uw_PR rfl 0 (by decide) (mcs wd_265) rfl d_PR_init_41 rfl ?_
  refine V.go (pc' := 45) (lv_iconst (v := 0) X.1 X.2.1 d_PR_init_44 (by decide)) ?_
  refine V.newa (pc' := 47) (atype := .int) X hK 0 (mcs wd_320) rfl rfl rfl (a0 := (0, .inl (fun _ => 0))) (fun _ => rfl) (by decide) (by decide) (by decide) (by decide) (by decide) d_PR_init_45 rfl (fun q_212 M_213 z_214 h_215 fr_216 => ?_)
  have n_217 : q_1 ≠ q_212 := ne_z h_199 z_214
  have n_218 : q_12 ≠ q_212 := ne_z h_200 z_214
  have n_219 : q_13 ≠ q_212 := ne_z h_201 z_214
  have n_220 : q_14 ≠ q_212 := ne_z h_202 z_214
  have n_221 : q_57 ≠ q_212 := ne_z h_203 z_214
  have n_222 : q_41 ≠ q_212 := ne_z h_204 z_214
  have n_223 : q_78 ≠ q_212 := ne_z h_205 z_214
  have n_224 : q_79 ≠ q_212 := ne_z h_206 z_214
  have n_225 : q_80 ≠ q_212 := ne_z h_207 z_214
  have n_226 : q_81 ≠ q_212 := ne_z h_208 z_214
  have n_227 : q_82 ≠ q_212 := ne_z h_209 z_214
  have n_228 : q_83 ≠ q_212 := ne_z h_210 z_214
  have n_229 : px ≠ q_212 := ne_z h_211 z_214
  have n_230 : q_180 ≠ q_212 := ne_z h_183 z_214
  have zb_231 : M q_212 = none := ((fr_184 q_212 (Ne.symm n_230)).trans ((fr_167 q_212 (Ne.symm n_229)).trans ((fr_77 q_212 (Ne.symm n_222) (Ne.symm n_223) (Ne.symm n_224) (Ne.symm n_225) (Ne.symm n_226) (Ne.symm n_227) (Ne.symm n_228)).trans ((fr_61 q_212 (Ne.symm n_221)).trans ((fr_45 q_212 (Ne.symm n_222)).trans ((fr_36 q_212 (Ne.symm n_229)).trans ((fr_11 q_212 (Ne.symm n_217) (Ne.symm n_218) (Ne.symm n_219) (Ne.symm n_220)).trans ((fr_5 q_212 (Ne.symm n_217)))))))))).symm.trans z_214
  have h_232 : M_213 q_1 = some (.inr (3, [.ref q_12, .ref q_13, .ref q_14, .int 0, .int 0])) := (fr_216 _ n_217).trans h_199
  have h_233 : M_213 q_12 = some (.inl (cI, 60, .inl (fun _ => 0))) := (fr_216 _ n_218).trans h_200
  have h_234 : M_213 q_13 = some (.inl (cI, 60, .inl (fun _ => 0))) := (fr_216 _ n_219).trans h_201
  have h_235 : M_213 q_14 = some (.inl (cQ, 60, .inr (.inr (.inr (.inr (fun _ => none)))))) := (fr_216 _ n_220).trans h_202
  have h_236 : M_213 q_57 = some (.inl (cI, 4096, .inl (fun _ => 0))) := (fr_216 _ n_221).trans h_203
  have h_237 : M_213 q_41 = some (.inr (1, [.ref q_1, .ref q_78, .ref q_80, .ref q_57, .int 0, .int (-1)])) := (fr_216 _ n_222).trans h_204
  have h_238 : M_213 q_78 = some (.inr (0, [.ref q_79])) := (fr_216 _ n_223).trans h_205
  have h_239 : M_213 q_79 = some (.inl (cL, 16, .inr (.inl (fun _ => 0)))) := (fr_216 _ n_224).trans h_206
  have h_240 : M_213 q_80 = some (.inr (2, [.ref q_81, .ref q_82, .ref q_83, .int 0, .int 0])) := (fr_216 _ n_225).trans h_207
  have h_241 : M_213 q_81 = some (.inl (cQ, 100, .inr (.inr (.inr (.inr (fun _ => none)))))) := (fr_216 _ n_226).trans h_208
  have h_242 : M_213 q_82 = some (.inl (cI, 100, .inl (fun _ => 0))) := (fr_216 _ n_227).trans h_209
  have h_243 : M_213 q_83 = some (.inl (cI, 100, .inl (fun _ => 0))) := (fr_216 _ n_228).trans h_210
  have h_244 : M_213 px = some (.inr (5, [.ref q_1, .ref q_41, .null])) := (fr_216 _ n_229).trans h_211
  have h_245 : M_213 q_180 = some (.inr (1, [.null, .null, .null, .null, .int 0, .int 0])) := (fr_216 _ n_230).trans h_183
  refine V.callI (pc' := 50) X hK (c_Course_init  (co := q_180) (pg := q_1) (ra := q_212)   h_245  ) (ciG (n := 2) X (mcs wd_342) (mcs wd_343) (mcs wd_92) wd_344 rfl (by decide +kernel) (by decide) (by decide)) rfl rfl (Nat.le_of_ble_eq_true rfl) d_PR_init_47 ⟨by decide, by decide⟩ rfl (st1 := [.ref q_180, .ref px]) rfl (fun M_246 ⟨q_249, q_250, q_251, q_252, q_253, q_254, z_255, z_256, z_257, z_258, z_259, z_260, n_261, n_262, n_263, n_264, n_265, n_266, n_267, n_268, n_269, n_270, n_271, n_272, n_273, n_274, n_275, h_247, h_276, h_277, h_278, h_279, h_280, h_281, fr_248⟩ => ?_)
  have n_282 : q_1 ≠ q_249 := ne_z h_232 z_255
  have n_283 : q_12 ≠ q_249 := ne_z h_233 z_255
  have n_284 : q_13 ≠ q_249 := ne_z h_234 z_255
  have n_285 : q_14 ≠ q_249 := ne_z h_235 z_255
  have n_286 : q_57 ≠ q_249 := ne_z h_236 z_255
  have n_287 : q_41 ≠ q_249 := ne_z h_237 z_255
  have n_288 : q_78 ≠ q_249 := ne_z h_238 z_255
  have n_289 : q_79 ≠ q_249 := ne_z h_239 z_255
  have n_290 : q_80 ≠ q_249 := ne_z h_240 z_255
  have n_291 : q_81 ≠ q_249 := ne_z h_241 z_255
  have n_292 : q_82 ≠ q_249 := ne_z h_242 z_255
  have n_293 : q_83 ≠ q_249 := ne_z h_243 z_255
  have n_294 : px ≠ q_249 := ne_z h_244 z_255
  have n_295 : q_180 ≠ q_249 := ne_z h_245 z_255
  have n_296 : q_212 ≠ q_249 := ne_z h_215 z_255
  have n_297 : q_1 ≠ q_250 := ne_z h_232 z_256
  have n_298 : q_12 ≠ q_250 := ne_z h_233 z_256
  have n_299 : q_13 ≠ q_250 := ne_z h_234 z_256
  have n_300 : q_14 ≠ q_250 := ne_z h_235 z_256
  have n_301 : q_57 ≠ q_250 := ne_z h_236 z_256
  have n_302 : q_41 ≠ q_250 := ne_z h_237 z_256
  have n_303 : q_78 ≠ q_250 := ne_z h_238 z_256
  have n_304 : q_79 ≠ q_250 := ne_z h_239 z_256
  have n_305 : q_80 ≠ q_250 := ne_z h_240 z_256
  have n_306 : q_81 ≠ q_250 := ne_z h_241 z_256
  have n_307 : q_82 ≠ q_250 := ne_z h_242 z_256
  have n_308 : q_83 ≠ q_250 := ne_z h_243 z_256
  have n_309 : px ≠ q_250 := ne_z h_244 z_256
  have n_310 : q_180 ≠ q_250 := ne_z h_245 z_256
  have n_311 : q_212 ≠ q_250 := ne_z h_215 z_256
  have n_312 : q_1 ≠ q_251 := ne_z h_232 z_257
  have n_313 : q_12 ≠ q_251 := ne_z h_233 z_257
  have n_314 : q_13 ≠ q_251 := ne_z h_234 z_257
  have n_315 : q_14 ≠ q_251 := ne_z h_235 z_257
  have n_316 : q_57 ≠ q_251 := ne_z h_236 z_257
  have n_317 : q_41 ≠ q_251 := ne_z h_237 z_257
  have n_318 : q_78 ≠ q_251 := ne_z h_238 z_257
  have n_319 : q_79 ≠ q_251 := ne_z h_239 z_257
  have n_320 : q_80 ≠ q_251 := ne_z h_240 z_257
  have n_321 : q_81 ≠ q_251 := ne_z h_241 z_257
  have n_322 : q_82 ≠ q_251 := ne_z h_242 z_257
  have n_323 : q_83 ≠ q_251 := ne_z h_243 z_257
  have n_324 : px ≠ q_251 := ne_z h_244 z_257
  have n_325 : q_180 ≠ q_251 := ne_z h_245 z_257
  have n_326 : q_212 ≠ q_251 := ne_z h_215 z_257
  have n_327 : q_1 ≠ q_252 := ne_z h_232 z_258
  have n_328 : q_12 ≠ q_252 := ne_z h_233 z_258
  have n_329 : q_13 ≠ q_252 := ne_z h_234 z_258
  have n_330 : q_14 ≠ q_252 := ne_z h_235 z_258
  have n_331 : q_57 ≠ q_252 := ne_z h_236 z_258
  have n_332 : q_41 ≠ q_252 := ne_z h_237 z_258
  have n_333 : q_78 ≠ q_252 := ne_z h_238 z_258
  have n_334 : q_79 ≠ q_252 := ne_z h_239 z_258
  have n_335 : q_80 ≠ q_252 := ne_z h_240 z_258
  have n_336 : q_81 ≠ q_252 := ne_z h_241 z_258
  have n_337 : q_82 ≠ q_252 := ne_z h_242 z_258
  have n_338 : q_83 ≠ q_252 := ne_z h_243 z_258
  have n_339 : px ≠ q_252 := ne_z h_244 z_258
  have n_340 : q_180 ≠ q_252 := ne_z h_245 z_258
  have n_341 : q_212 ≠ q_252 := ne_z h_215 z_258
  have n_342 : q_1 ≠ q_253 := ne_z h_232 z_259
  have n_343 : q_12 ≠ q_253 := ne_z h_233 z_259
  have n_344 : q_13 ≠ q_253 := ne_z h_234 z_259
  have n_345 : q_14 ≠ q_253 := ne_z h_235 z_259
  have n_346 : q_57 ≠ q_253 := ne_z h_236 z_259
  have n_347 : q_41 ≠ q_253 := ne_z h_237 z_259
  have n_348 : q_78 ≠ q_253 := ne_z h_238 z_259
  have n_349 : q_79 ≠ q_253 := ne_z h_239 z_259
  have n_350 : q_80 ≠ q_253 := ne_z h_240 z_259
  have n_351 : q_81 ≠ q_253 := ne_z h_241 z_259
  have n_352 : q_82 ≠ q_253 := ne_z h_242 z_259
  have n_353 : q_83 ≠ q_253 := ne_z h_243 z_259
  have n_354 : px ≠ q_253 := ne_z h_244 z_259
  have n_355 : q_180 ≠ q_253 := ne_z h_245 z_259
  have n_356 : q_212 ≠ q_253 := ne_z h_215 z_259
  have n_357 : q_1 ≠ q_254 := ne_z h_232 z_260
  have n_358 : q_12 ≠ q_254 := ne_z h_233 z_260
  have n_359 : q_13 ≠ q_254 := ne_z h_234 z_260
  have n_360 : q_14 ≠ q_254 := ne_z h_235 z_260
  have n_361 : q_57 ≠ q_254 := ne_z h_236 z_260
  have n_362 : q_41 ≠ q_254 := ne_z h_237 z_260
  have n_363 : q_78 ≠ q_254 := ne_z h_238 z_260
  have n_364 : q_79 ≠ q_254 := ne_z h_239 z_260
  have n_365 : q_80 ≠ q_254 := ne_z h_240 z_260
  have n_366 : q_81 ≠ q_254 := ne_z h_241 z_260
  have n_367 : q_82 ≠ q_254 := ne_z h_242 z_260
  have n_368 : q_83 ≠ q_254 := ne_z h_243 z_260
  have n_369 : px ≠ q_254 := ne_z h_244 z_260
  have n_370 : q_180 ≠ q_254 := ne_z h_245 z_260
  have n_371 : q_212 ≠ q_254 := ne_z h_215 z_260
  have zb_372 : M q_249 = none := ((fr_216 q_249 (Ne.symm n_296)).trans ((fr_184 q_249 (Ne.symm n_295)).trans ((fr_167 q_249 (Ne.symm n_294)).trans ((fr_77 q_249 (Ne.symm n_287) (Ne.symm n_288) (Ne.symm n_289) (Ne.symm n_290) (Ne.symm n_291) (Ne.symm n_292) (Ne.symm n_293)).trans ((fr_61 q_249 (Ne.symm n_286)).trans ((fr_45 q_249 (Ne.symm n_287)).trans ((fr_36 q_249 (Ne.symm n_294)).trans ((fr_11 q_249 (Ne.symm n_282) (Ne.symm n_283) (Ne.symm n_284) (Ne.symm n_285)).trans ((fr_5 q_249 (Ne.symm n_282))))))))))).symm.trans z_255
  have zb_373 : M q_250 = none := ((fr_216 q_250 (Ne.symm n_311)).trans ((fr_184 q_250 (Ne.symm n_310)).trans ((fr_167 q_250 (Ne.symm n_309)).trans ((fr_77 q_250 (Ne.symm n_302) (Ne.symm n_303) (Ne.symm n_304) (Ne.symm n_305) (Ne.symm n_306) (Ne.symm n_307) (Ne.symm n_308)).trans ((fr_61 q_250 (Ne.symm n_301)).trans ((fr_45 q_250 (Ne.symm n_302)).trans ((fr_36 q_250 (Ne.symm n_309)).trans ((fr_11 q_250 (Ne.symm n_297) (Ne.symm n_298) (Ne.symm n_299) (Ne.symm n_300)).trans ((fr_5 q_250 (Ne.symm n_297))))))))))).symm.trans z_256
  have zb_374 : M q_251 = none := ((fr_216 q_251 (Ne.symm n_326)).trans ((fr_184 q_251 (Ne.symm n_325)).trans ((fr_167 q_251 (Ne.symm n_324)).trans ((fr_77 q_251 (Ne.symm n_317) (Ne.symm n_318) (Ne.symm n_319) (Ne.symm n_320) (Ne.symm n_321) (Ne.symm n_322) (Ne.symm n_323)).trans ((fr_61 q_251 (Ne.symm n_316)).trans ((fr_45 q_251 (Ne.symm n_317)).trans ((fr_36 q_251 (Ne.symm n_324)).trans ((fr_11 q_251 (Ne.symm n_312) (Ne.symm n_313) (Ne.symm n_314) (Ne.symm n_315)).trans ((fr_5 q_251 (Ne.symm n_312))))))))))).symm.trans z_257
  have zb_375 : M q_252 = none := ((fr_216 q_252 (Ne.symm n_341)).trans ((fr_184 q_252 (Ne.symm n_340)).trans ((fr_167 q_252 (Ne.symm n_339)).trans ((fr_77 q_252 (Ne.symm n_332) (Ne.symm n_333) (Ne.symm n_334) (Ne.symm n_335) (Ne.symm n_336) (Ne.symm n_337) (Ne.symm n_338)).trans ((fr_61 q_252 (Ne.symm n_331)).trans ((fr_45 q_252 (Ne.symm n_332)).trans ((fr_36 q_252 (Ne.symm n_339)).trans ((fr_11 q_252 (Ne.symm n_327) (Ne.symm n_328) (Ne.symm n_329) (Ne.symm n_330)).trans ((fr_5 q_252 (Ne.symm n_327))))))))))).symm.trans z_258
  have zb_376 : M q_253 = none := ((fr_216 q_253 (Ne.symm n_356)).trans ((fr_184 q_253 (Ne.symm n_355)).trans ((fr_167 q_253 (Ne.symm n_354)).trans ((fr_77 q_253 (Ne.symm n_347) (Ne.symm n_348) (Ne.symm n_349) (Ne.symm n_350) (Ne.symm n_351) (Ne.symm n_352) (Ne.symm n_353)).trans ((fr_61 q_253 (Ne.symm n_346)).trans ((fr_45 q_253 (Ne.symm n_347)).trans ((fr_36 q_253 (Ne.symm n_354)).trans ((fr_11 q_253 (Ne.symm n_342) (Ne.symm n_343) (Ne.symm n_344) (Ne.symm n_345)).trans ((fr_5 q_253 (Ne.symm n_342))))))))))).symm.trans z_259
  have zb_377 : M q_254 = none := ((fr_216 q_254 (Ne.symm n_371)).trans ((fr_184 q_254 (Ne.symm n_370)).trans ((fr_167 q_254 (Ne.symm n_369)).trans ((fr_77 q_254 (Ne.symm n_362) (Ne.symm n_363) (Ne.symm n_364) (Ne.symm n_365) (Ne.symm n_366) (Ne.symm n_367) (Ne.symm n_368)).trans ((fr_61 q_254 (Ne.symm n_361)).trans ((fr_45 q_254 (Ne.symm n_362)).trans ((fr_36 q_254 (Ne.symm n_369)).trans ((fr_11 q_254 (Ne.symm n_357) (Ne.symm n_358) (Ne.symm n_359) (Ne.symm n_360)).trans ((fr_5 q_254 (Ne.symm n_357))))))))))).symm.trans z_260
  have h_378 : M_246 q_1 = some (.inr (3, [.ref q_12, .ref q_13, .ref q_14, .int 0, .int 0])) := (fr_248 _ n_185 n_282 n_297 n_312 n_327 n_342 n_357).trans h_232
  have h_379 : M_246 q_12 = some (.inl (cI, 60, .inl (fun _ => 0))) := (fr_248 _ n_186 n_283 n_298 n_313 n_328 n_343 n_358).trans h_233
  have h_380 : M_246 q_13 = some (.inl (cI, 60, .inl (fun _ => 0))) := (fr_248 _ n_187 n_284 n_299 n_314 n_329 n_344 n_359).trans h_234
  have h_381 : M_246 q_14 = some (.inl (cQ, 60, .inr (.inr (.inr (.inr (fun _ => none)))))) := (fr_248 _ n_188 n_285 n_300 n_315 n_330 n_345 n_360).trans h_235
  have h_382 : M_246 q_57 = some (.inl (cI, 4096, .inl (fun _ => 0))) := (fr_248 _ n_189 n_286 n_301 n_316 n_331 n_346 n_361).trans h_236
  have h_383 : M_246 q_41 = some (.inr (1, [.ref q_1, .ref q_78, .ref q_80, .ref q_57, .int 0, .int (-1)])) := (fr_248 _ n_190 n_287 n_302 n_317 n_332 n_347 n_362).trans h_237
  have h_384 : M_246 q_78 = some (.inr (0, [.ref q_79])) := (fr_248 _ n_191 n_288 n_303 n_318 n_333 n_348 n_363).trans h_238
  have h_385 : M_246 q_79 = some (.inl (cL, 16, .inr (.inl (fun _ => 0)))) := (fr_248 _ n_192 n_289 n_304 n_319 n_334 n_349 n_364).trans h_239
  have h_386 : M_246 q_80 = some (.inr (2, [.ref q_81, .ref q_82, .ref q_83, .int 0, .int 0])) := (fr_248 _ n_193 n_290 n_305 n_320 n_335 n_350 n_365).trans h_240
  have h_387 : M_246 q_81 = some (.inl (cQ, 100, .inr (.inr (.inr (.inr (fun _ => none)))))) := (fr_248 _ n_194 n_291 n_306 n_321 n_336 n_351 n_366).trans h_241
  have h_388 : M_246 q_82 = some (.inl (cI, 100, .inl (fun _ => 0))) := (fr_248 _ n_195 n_292 n_307 n_322 n_337 n_352 n_367).trans h_242
  have h_389 : M_246 q_83 = some (.inl (cI, 100, .inl (fun _ => 0))) := (fr_248 _ n_196 n_293 n_308 n_323 n_338 n_353 n_368).trans h_243
  have h_390 : M_246 px = some (.inr (5, [.ref q_1, .ref q_41, .null])) := (fr_248 _ n_197 n_294 n_309 n_324 n_339 n_354 n_369).trans h_244
  have h_391 : M_246 q_212 = some (.inl (cI, 0, .inl (fun _ => 0))) := (fr_248 _ (Ne.symm n_230) n_296 n_311 n_326 n_341 n_356 n_371).trans h_215
  refine V.putF (pc' := 53) X hK hnm h_390 uw_PR t_PR tok_PR nm_PR rfl 2 (by decide) (mcs wd_295) rfl rfl rfl rfl (Nat.le_of_ble_eq_true rfl) (fs' := [.ref q_1, .ref q_41, .ref q_180]) rfl d_PR_init_50 rfl (fun M_392 h_393 fr_394 => ?_)
  have h_395 : M_392 q_1 = some (.inr (3, [.ref q_12, .ref q_13, .ref q_14, .int 0, .int 0])) := (fr_394 _ (Ne.symm n_6)).trans h_378
  have h_396 : M_392 q_12 = some (.inl (cI, 60, .inl (fun _ => 0))) := (fr_394 _ (Ne.symm n_24)).trans h_379
  have h_397 : M_392 q_13 = some (.inl (cI, 60, .inl (fun _ => 0))) := (fr_394 _ (Ne.symm n_26)).trans h_380
  have h_398 : M_392 q_14 = some (.inl (cQ, 60, .inr (.inr (.inr (.inr (fun _ => none)))))) := (fr_394 _ (Ne.symm n_28)).trans h_381
  have h_399 : M_392 q_57 = some (.inl (cI, 4096, .inl (fun _ => 0))) := (fr_394 _ (Ne.symm n_66)).trans h_382
  have h_400 : M_392 q_41 = some (.inr (1, [.ref q_1, .ref q_78, .ref q_80, .ref q_57, .int 0, .int (-1)])) := (fr_394 _ (Ne.symm n_50)).trans h_383
  have h_401 : M_392 q_78 = some (.inr (0, [.ref q_79])) := (fr_394 _ (Ne.symm n_115)).trans h_384
  have h_402 : M_392 q_79 = some (.inl (cL, 16, .inr (.inl (fun _ => 0)))) := (fr_394 _ (Ne.symm n_122)).trans h_385
  have h_403 : M_392 q_80 = some (.inr (2, [.ref q_81, .ref q_82, .ref q_83, .int 0, .int 0])) := (fr_394 _ (Ne.symm n_129)).trans h_386
  have h_404 : M_392 q_81 = some (.inl (cQ, 100, .inr (.inr (.inr (.inr (fun _ => none)))))) := (fr_394 _ (Ne.symm n_136)).trans h_387
  have h_405 : M_392 q_82 = some (.inl (cI, 100, .inl (fun _ => 0))) := (fr_394 _ (Ne.symm n_143)).trans h_388
  have h_406 : M_392 q_83 = some (.inl (cI, 100, .inl (fun _ => 0))) := (fr_394 _ (Ne.symm n_150)).trans h_389
  have h_407 : M_392 q_212 = some (.inl (cI, 0, .inl (fun _ => 0))) := (fr_394 _ (Ne.symm n_229)).trans h_391
  have h_408 : M_392 q_180 = some (.inr (1, [.ref q_1, .ref q_249, .ref q_251, .ref q_212, .int 0, .int (-1)])) := (fr_394 _ (Ne.symm n_197)).trans h_247
  have h_409 : M_392 q_249 = some (.inr (0, [.ref q_250])) := (fr_394 _ (Ne.symm n_294)).trans h_276
  have h_410 : M_392 q_250 = some (.inl (cL, 16, .inr (.inl (fun _ => 0)))) := (fr_394 _ (Ne.symm n_309)).trans h_277
  have h_411 : M_392 q_251 = some (.inr (2, [.ref q_252, .ref q_253, .ref q_254, .int 0, .int 0])) := (fr_394 _ (Ne.symm n_324)).trans h_278
  have h_412 : M_392 q_252 = some (.inl (cQ, 100, .inr (.inr (.inr (.inr (fun _ => none)))))) := (fr_394 _ (Ne.symm n_339)).trans h_279
  have h_413 : M_392 q_253 = some (.inl (cI, 100, .inl (fun _ => 0))) := (fr_394 _ (Ne.symm n_354)).trans h_280
  have h_414 : M_392 q_254 = some (.inl (cI, 100, .inl (fun _ => 0))) := (fr_394 _ (Ne.symm n_369)).trans h_281
  exact V.vret X hr hlk ⟨rfl, q_1, q_12, q_13, q_14, q_41, q_57, q_78, q_79, q_80, q_81, q_82, q_83, q_180, q_212, q_249, q_250, q_251, q_252, q_253, q_254, zb_7, zb_30, zb_31, zb_32, zb_51, zb_68, zb_153, zb_154, zb_155, zb_156, zb_157, zb_158, zb_198, zb_231, zb_372, zb_373, zb_374, zb_375, zb_376, zb_377, n_25, n_27, n_29, n_46, n_62, n_111, n_118, n_125, n_132, n_139, n_146, n_185, n_217, n_282, n_297, n_312, n_327, n_342, n_357, n_18, n_19, n_47, n_63, n_112, n_119, n_126, n_133, n_140, n_147, n_186, n_218, n_283, n_298, n_313, n_328, n_343, n_358, n_20, n_48, n_64, n_113, n_120, n_127, n_134, n_141, n_148, n_187, n_219, n_284, n_299, n_314, n_329, n_344, n_359, n_49, n_65, n_114, n_121, n_128, n_135, n_142, n_149, n_188, n_220, n_285, n_300, n_315, n_330, n_345, n_360, n_67, n_116, n_123, n_130, n_137, n_144, n_151, n_190, n_222, n_287, n_302, n_317, n_332, n_347, n_362, n_117, n_124, n_131, n_138, n_145, n_152, n_189, n_221, n_286, n_301, n_316, n_331, n_346, n_361, n_90, n_91, n_92, n_93, n_94, n_191, n_223, n_288, n_303, n_318, n_333, n_348, n_363, n_95, n_96, n_97, n_98, n_192, n_224, n_289, n_304, n_319, n_334, n_349, n_364, n_99, n_100, n_101, n_193, n_225, n_290, n_305, n_320, n_335, n_350, n_365, n_102, n_103, n_194, n_226, n_291, n_306, n_321, n_336, n_351, n_366, n_104, n_195, n_227, n_292, n_307, n_322, n_337, n_352, n_367, n_196, n_228, n_293, n_308, n_323, n_338, n_353, n_368, n_230, n_295, n_310, n_325, n_340, n_355, n_370, n_296, n_311, n_326, n_341, n_356, n_371, n_261, n_262, n_263, n_264, n_265, n_266, n_267, n_268, n_269, n_270, n_271, n_272, n_273, n_274, n_275, h_393, h_395, h_396, h_397, h_398, h_400, h_399, h_401, h_402, h_403, h_404, h_405, h_406, h_408, h_407, h_409, h_410, h_411, h_412, h_413, h_414, (fun q n0_ n1_ n2_ n3_ n4_ n5_ n6_ n7_ n8_ n9_ n10_ n11_ n12_ n13_ n14_ n15_ n16_ n17_ n18_ n19_ n20_ => (fr_394 q n0_).trans ((fr_248 q n13_ n15_ n16_ n17_ n18_ n19_ n20_).trans ((fr_216 q n14_).trans ((fr_184 q n13_).trans ((fr_167 q n0_).trans ((fr_77 q n5_ n7_ n8_ n9_ n10_ n11_ n12_).trans ((fr_61 q n6_).trans ((fr_45 q n5_).trans ((fr_36 q n0_).trans ((fr_11 q n1_ n2_ n3_ n4_).trans ((fr_5 q n1_))))))))))))⟩ d_PR_init_53
