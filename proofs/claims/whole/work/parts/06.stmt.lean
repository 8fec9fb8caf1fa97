theorem wd_17 : (Jvm.Cond.fieldLink "PerformRanges$Statement" (35 : Nat) "PerformRanges$Statement" "kind" "I") ∈ GW := gw_of (i := 183) (by decide +kernel) (by decide +kernel)
theorem wd_18 : (Jvm.Cond.fieldLink "PerformRanges$Statement" (41 : Nat) "PerformRanges$Statement" "conditions" "I") ∈ GW := gw_of (i := 186) (by decide +kernel) (by decide +kernel)
theorem wd_19 : (Jvm.Cond.fieldLink "PerformRanges$Statement" (48 : Nat) "PerformRanges$Statement" "levels" "I") ∈ GW := gw_of (i := 187) (by decide +kernel) (by decide +kernel)
theorem wd_20 : (Jvm.Cond.fieldLink "PerformRanges$Statement" (9 : Nat) "PerformRanges$Statement" "conditionCells" "[I") ∈ GW := gw_of (i := 188) (by decide +kernel) (by decide +kernel)
theorem wd_21 : (Jvm.Cond.methodLink "PerformRanges$Statement" (79 : Nat) ({ cls := "PerformRanges$Cells", name := "value", desc := "(I)J" } : Jvm.MethodName)) ∈ GW := gw_of (i := 311) (by decide +kernel) (by decide +kernel)
theorem wd_22 : (Jvm.Cond.instanceMethod ({ cls := "PerformRanges$Cells", name := "value", desc := "(I)J" } : Jvm.MethodName)) ∈ GW := gw_of (i := 312) (by decide +kernel) (by decide +kernel)
theorem wd_23 : (Jvm.Cond.selects "PerformRanges$Cells" ({ cls := "PerformRanges$Cells", name := "value", desc := "(I)J" } : Jvm.MethodName) ({ cls := "PerformRanges$Cells", name := "value", desc := "(I)J" } : Jvm.MethodName)) ∈ GW := gw_of (i := 313) (by decide +kernel) (by decide +kernel)
theorem wd_24 : (Jvm.Cond.initialized "PerformRanges$Cells") ∈ GW := gw_of (i := 34) (by decide +kernel) (by decide +kernel)
theorem wd_25 : (Jvm.Cond.code ({ cls := "PerformRanges$Cells", name := "value", desc := "(I)J" } : Jvm.MethodName) prog_2_method_2_code (2 : Nat) (Option.some Jvm.ClassFile.FieldType.long)) ∈ GW := gw_of (i := 314) (by decide +kernel) (by decide +kernel)
theorem wd_26 : (Jvm.Cond.fieldLink "PerformRanges$Statement" (15 : Nat) "PerformRanges$Statement" "conditionValues" "[J") ∈ GW := gw_of (i := 189) (by decide +kernel) (by decide +kernel)
theorem wd_27 : (Jvm.Cond.fieldLink "PerformRanges$Statement" (19 : Nat) "PerformRanges$Statement" "levelCells" "[I") ∈ GW := gw_of (i := 190) (by decide +kernel) (by decide +kernel)
theorem wd_28 : (Jvm.Cond.fieldLink "PerformRanges$Statement" (25 : Nat) "PerformRanges$Statement" "levelSteps" "[J") ∈ GW := gw_of (i := 192) (by decide +kernel) (by decide +kernel)
theorem wd_29 : (Jvm.Cond.methodLink "PerformRanges$Statement" (85 : Nat) ({ cls := "PerformRanges$Cells", name := "grow", desc := "(IJ)V" } : Jvm.MethodName)) ∈ GW := gw_of (i := 335) (by decide +kernel) (by decide +kernel)
theorem wd_30 : (Jvm.Cond.instanceMethod ({ cls := "PerformRanges$Cells", name := "grow", desc := "(IJ)V" } : Jvm.MethodName)) ∈ GW := gw_of (i := 336) (by decide +kernel) (by decide +kernel)
theorem wd_31 : (Jvm.Cond.selects "PerformRanges$Cells" ({ cls := "PerformRanges$Cells", name := "grow", desc := "(IJ)V" } : Jvm.MethodName) ({ cls := "PerformRanges$Cells", name := "grow", desc := "(IJ)V" } : Jvm.MethodName)) ∈ GW := gw_of (i := 337) (by decide +kernel) (by decide +kernel)
theorem wd_32 : (Jvm.Cond.code ({ cls := "PerformRanges$Cells", name := "grow", desc := "(IJ)V" } : Jvm.MethodName) prog_2_method_4_code (4 : Nat) (Option.none : Option Jvm.ClassFile.FieldType)) ∈ GW := gw_of (i := 338) (by decide +kernel) (by decide +kernel)
theorem wd_33 : (Jvm.Cond.fieldLink "PerformRanges$Statement" (44 : Nat) "PerformRanges$Statement" "askedFirst" "Z") ∈ GW := gw_of (i := 185) (by decide +kernel) (by decide +kernel)
theorem wd_34 : (Jvm.Cond.fieldLink "PerformRanges$Statement" (22 : Nat) "PerformRanges$Statement" "firstValues" "[J") ∈ GW := gw_of (i := 191) (by decide +kernel) (by decide +kernel)
theorem wd_35 : (Jvm.Cond.methodLink "PerformRanges$Statement" (51 : Nat) ({ cls := "java/lang/Math", name := "max", desc := "(II)I" } : Jvm.MethodName)) ∈ GW := gw_of (i := 246) (by decide +kernel) (by decide +kernel)
theorem wd_36 : (Jvm.Cond.static ({ cls := "java/lang/Math", name := "max", desc := "(II)I" } : Jvm.MethodName)) ∈ GW := gw_of (i := 247) (by decide +kernel) (by decide +kernel)
theorem wd_37 : (Jvm.Cond.initialized "java/lang/Math") ∈ GW := gw_of (i := 38) (by decide +kernel) (by decide +kernel)
theorem wd_38 : (Jvm.Cond.code ({ cls := "java/lang/Math", name := "max", desc := "(II)I" } : Jvm.MethodName) prog_11_method_65_code (2 : Nat) (Option.some Jvm.ClassFile.FieldType.int)) ∈ GW := gw_of (i := 248) (by decide +kernel) (by decide +kernel)
theorem wd_39 : (Jvm.Cond.methodLink "PerformRanges$Statement" (89 : Nat) ({ cls := "PerformRanges$Cells", name := "become", desc := "(IJ)V" } : Jvm.MethodName)) ∈ GW := gw_of (i := 319) (by decide +kernel) (by decide +kernel)
theorem wd_40 : (Jvm.Cond.instanceMethod ({ cls := "PerformRanges$Cells", name := "become", desc := "(IJ)V" } : Jvm.MethodName)) ∈ GW := gw_of (i := 320) (by decide +kernel) (by decide +kernel)
theorem wd_41 : (Jvm.Cond.selects "PerformRanges$Cells" ({ cls := "PerformRanges$Cells", name := "become", desc := "(IJ)V" } : Jvm.MethodName) ({ cls := "PerformRanges$Cells", name := "become", desc := "(IJ)V" } : Jvm.MethodName)) ∈ GW := gw_of (i := 321) (by decide +kernel) (by decide +kernel)
theorem wd_42 : (Jvm.Cond.code ({ cls := "PerformRanges$Cells", name := "become", desc := "(IJ)V" } : Jvm.MethodName) prog_2_method_3_code (4 : Nat) (Option.none : Option Jvm.ClassFile.FieldType)) ∈ GW := gw_of (i := 322) (by decide +kernel) (by decide +kernel)
theorem wd_43 : (Jvm.Cond.methodLink "PerformRanges$Statement" (57 : Nat) ({ cls := "PerformRanges$Statement", name := "holds", desc := "(ILPerformRanges$Cells;)Z" } : Jvm.MethodName)) ∈ GW := gw_of (i := 307) (by decide +kernel) (by decide +kernel)
theorem wd_44 : (Jvm.Cond.instanceMethod ({ cls := "PerformRanges$Statement", name := "holds", desc := "(ILPerformRanges$Cells;)Z" } : Jvm.MethodName)) ∈ GW := gw_of (i := 309) (by decide +kernel) (by decide +kernel)
theorem wd_45 : (Jvm.Cond.selects "PerformRanges$Statement" ({ cls := "PerformRanges$Statement", name := "holds", desc := "(ILPerformRanges$Cells;)Z" } : Jvm.MethodName) ({ cls := "PerformRanges$Statement", name := "holds", desc := "(ILPerformRanges$Cells;)Z" } : Jvm.MethodName)) ∈ GW := gw_of (i := 3) (by decide +kernel) (by decide +kernel)
theorem wd_46 : (Jvm.Cond.initialized "PerformRanges$Statement") ∈ GW := gw_of (i := 37) (by decide +kernel) (by decide +kernel)
theorem wd_47 : (Jvm.Cond.code ({ cls := "PerformRanges$Statement", name := "holds", desc := "(ILPerformRanges$Cells;)Z" } : Jvm.MethodName) prog_6_method_10_code (3 : Nat) (Option.some Jvm.ClassFile.FieldType.boolean)) ∈ GW := gw_of (i := 310) (by decide +kernel) (by decide +kernel)
theorem wd_48 : (Jvm.Cond.methodLink "PerformRanges$Statement" (75 : Nat) ({ cls := "PerformRanges$Statement", name := "firstLevelThatHolds", desc := "(LPerformRanges$Cells;)I" } : Jvm.MethodName)) ∈ GW := gw_of (i := 327) (by decide +kernel) (by decide +kernel)
theorem wd_49 : (Jvm.Cond.instanceMethod ({ cls := "PerformRanges$Statement", name := "firstLevelThatHolds", desc := "(LPerformRanges$Cells;)I" } : Jvm.MethodName)) ∈ GW := gw_of (i := 329) (by decide +kernel) (by decide +kernel)
theorem wd_50 : (Jvm.Cond.selects "PerformRanges$Statement" ({ cls := "PerformRanges$Statement", name := "firstLevelThatHolds", desc := "(LPerformRanges$Cells;)I" } : Jvm.MethodName) ({ cls := "PerformRanges$Statement", name := "firstLevelThatHolds", desc := "(LPerformRanges$Cells;)I" } : Jvm.MethodName)) ∈ GW := gw_of (i := 6) (by decide +kernel) (by decide +kernel)
theorem wd_51 : (Jvm.Cond.code ({ cls := "PerformRanges$Statement", name := "firstLevelThatHolds", desc := "(LPerformRanges$Cells;)I" } : Jvm.MethodName) prog_6_method_8_code (3 : Nat) (Option.some Jvm.ClassFile.FieldType.int)) ∈ GW := gw_of (i := 330) (by decide +kernel) (by decide +kernel)
theorem wd_52 : (Jvm.Cond.methodLink "PerformRanges$Statement" (72 : Nat) ({ cls := "PerformRanges$Statement", name := "takeStep", desc := "(ILPerformRanges$Cells;)V" } : Jvm.MethodName)) ∈ GW := gw_of (i := 331) (by decide +kernel) (by decide +kernel)
theorem wd_53 : (Jvm.Cond.instanceMethod ({ cls := "PerformRanges$Statement", name := "takeStep", desc := "(ILPerformRanges$Cells;)V" } : Jvm.MethodName)) ∈ GW := gw_of (i := 333) (by decide +kernel) (by decide +kernel)
theorem wd_54 : (Jvm.Cond.selects "PerformRanges$Statement" ({ cls := "PerformRanges$Statement", name := "takeStep", desc := "(ILPerformRanges$Cells;)V" } : Jvm.MethodName) ({ cls := "PerformRanges$Statement", name := "takeStep", desc := "(ILPerformRanges$Cells;)V" } : Jvm.MethodName)) ∈ GW := gw_of (i := 7) (by decide +kernel) (by decide +kernel)
theorem wd_55 : (Jvm.Cond.code ({ cls := "PerformRanges$Statement", name := "takeStep", desc := "(ILPerformRanges$Cells;)V" } : Jvm.MethodName) prog_6_method_11_code (3 : Nat) (Option.none : Option Jvm.ClassFile.FieldType)) ∈ GW := gw_of (i := 334) (by decide +kernel) (by decide +kernel)
theorem wd_56 : (Jvm.Cond.methodLink "PerformRanges$Statement" (61 : Nat) ({ cls := "PerformRanges$Statement", name := "takeFirstValues", desc := "(ILPerformRanges$Cells;)V" } : Jvm.MethodName)) ∈ GW := gw_of (i := 315) (by decide +kernel) (by decide +kernel)
theorem wd_57 : (Jvm.Cond.instanceMethod ({ cls := "PerformRanges$Statement", name := "takeFirstValues", desc := "(ILPerformRanges$Cells;)V" } : Jvm.MethodName)) ∈ GW := gw_of (i := 317) (by decide +kernel) (by decide +kernel)
theorem wd_58 : (Jvm.Cond.selects "PerformRanges$Statement" ({ cls := "PerformRanges$Statement", name := "takeFirstValues", desc := "(ILPerformRanges$Cells;)V" } : Jvm.MethodName) ({ cls := "PerformRanges$Statement", name := "takeFirstValues", desc := "(ILPerformRanges$Cells;)V" } : Jvm.MethodName)) ∈ GW := gw_of (i := 4) (by decide +kernel) (by decide +kernel)
theorem wd_59 : (Jvm.Cond.code ({ cls := "PerformRanges$Statement", name := "takeFirstValues", desc := "(ILPerformRanges$Cells;)V" } : Jvm.MethodName) prog_6_method_12_code (4 : Nat) (Option.none : Option Jvm.ClassFile.FieldType)) ∈ GW := gw_of (i := 318) (by decide +kernel) (by decide +kernel)
theorem wd_60 : (Jvm.Cond.fieldLink "PerformRanges$Statement" (38 : Nat) "PerformRanges$Statement" "times" "I") ∈ GW := gw_of (i := 184) (by decide +kernel) (by decide +kernel)
theorem wd_61 : (Jvm.Cond.methodLink "PerformRanges$Statement" (65 : Nat) ({ cls := "PerformRanges$Statement", name := "findsTurn", desc := "(LPerformRanges$Cells;)Z" } : Jvm.MethodName)) ∈ GW := gw_of (i := 323) (by decide +kernel) (by decide +kernel)
theorem wd_62 : (Jvm.Cond.instanceMethod ({ cls := "PerformRanges$Statement", name := "findsTurn", desc := "(LPerformRanges$Cells;)Z" } : Jvm.MethodName)) ∈ GW := gw_of (i := 325) (by decide +kernel) (by decide +kernel)
theorem wd_63 : (Jvm.Cond.selects "PerformRanges$Statement" ({ cls := "PerformRanges$Statement", name := "findsTurn", desc := "(LPerformRanges$Cells;)Z" } : Jvm.MethodName) ({ cls := "PerformRanges$Statement", name := "findsTurn", desc := "(LPerformRanges$Cells;)Z" } : Jvm.MethodName)) ∈ GW := gw_of (i := 5) (by decide +kernel) (by decide +kernel)
theorem wd_64 : (Jvm.Cond.code ({ cls := "PerformRanges$Statement", name := "findsTurn", desc := "(LPerformRanges$Cells;)Z" } : Jvm.MethodName) prog_6_method_7_code (4 : Nat) (Option.some Jvm.ClassFile.FieldType.boolean)) ∈ GW := gw_of (i := 326) (by decide +kernel) (by decide +kernel)
theorem wd_65 : (Jvm.Cond.methodLink "PerformRanges$Statement" (69 : Nat) ({ cls := "PerformRanges$Statement", name := "stepsLastOpenLevel", desc := "(LPerformRanges$Cells;)Z" } : Jvm.MethodName)) ∈ GW := gw_of (i := 392) (by decide +kernel) (by decide +kernel)
theorem wd_66 : (Jvm.Cond.instanceMethod ({ cls := "PerformRanges$Statement", name := "stepsLastOpenLevel", desc := "(LPerformRanges$Cells;)Z" } : Jvm.MethodName)) ∈ GW := gw_of (i := 394) (by decide +kernel) (by decide +kernel)
theorem wd_67 : (Jvm.Cond.selects "PerformRanges$Statement" ({ cls := "PerformRanges$Statement", name := "stepsLastOpenLevel", desc := "(LPerformRanges$Cells;)Z" } : Jvm.MethodName) ({ cls := "PerformRanges$Statement", name := "stepsLastOpenLevel", desc := "(LPerformRanges$Cells;)Z" } : Jvm.MethodName)) ∈ GW := gw_of (i := 13) (by decide +kernel) (by decide +kernel)
theorem wd_68 : (Jvm.Cond.code ({ cls := "PerformRanges$Statement", name := "stepsLastOpenLevel", desc := "(LPerformRanges$Cells;)Z" } : Jvm.MethodName) prog_6_method_9_code (3 : Nat) (Option.some Jvm.ClassFile.FieldType.boolean)) ∈ GW := gw_of (i := 395) (by decide +kernel) (by decide +kernel)
theorem d_Statement_isWhole_0 : decode prog_6_method_4_code 0 = .ok (.aload_n 0, 1) := by decide +kernel
theorem d_Statement_isWhole_1 : decode prog_6_method_4_code 1 = .ok (.getfield 35, 3) := by decide +kernel
theorem d_Statement_isWhole_4 : decode prog_6_method_4_code 4 = .ok (.iconst 2, 1) := by decide +kernel
theorem d_Statement_isWhole_5 : decode prog_6_method_4_code 5 = .ok (.if_icmp .ne 16, 3) := by decide +kernel
theorem d_Statement_isWhole_8 : decode prog_6_method_4_code 8 = .ok (.aload_n 0, 1) := by decide +kernel
theorem d_Statement_isWhole_9 : decode prog_6_method_4_code 9 = .ok (.getfield 41, 3) := by decide +kernel
theorem d_Statement_isWhole_12 : decode prog_6_method_4_code 12 = .ok (.ifCond .le 7, 3) := by decide +kernel
theorem d_Statement_isWhole_15 : decode prog_6_method_4_code 15 = .ok (.iconst 1, 1) := by decide +kernel
theorem d_Statement_isWhole_16 : decode prog_6_method_4_code 16 = .ok (.goto 4, 3) := by decide +kernel
theorem d_Statement_isWhole_19 : decode prog_6_method_4_code 19 = .ok (.iconst 0, 1) := by decide +kernel
theorem d_Statement_isWhole_20 : decode prog_6_method_4_code 20 = .ok (.ireturn, 1) := by decide +kernel
theorem d_Statement_isWhole_21 : decode prog_6_method_4_code 21 = .ok (.aload_n 0, 1) := by decide +kernel
theorem d_Statement_isWhole_22 : decode prog_6_method_4_code 22 = .ok (.getfield 35, 3) := by decide +kernel
theorem d_Statement_isWhole_25 : decode prog_6_method_4_code 25 = .ok (.iconst 3, 1) := by decide +kernel
theorem d_Statement_isWhole_26 : decode prog_6_method_4_code 26 = .ok (.if_icmp .ne 21, 3) := by decide +kernel
theorem d_Statement_isWhole_29 : decode prog_6_method_4_code 29 = .ok (.aload_n 0, 1) := by decide +kernel
theorem d_Statement_isWhole_30 : decode prog_6_method_4_code 30 = .ok (.getfield 48, 3) := by decide +kernel
theorem d_Statement_isWhole_33 : decode prog_6_method_4_code 33 = .ok (.ifCond .le 18, 3) := by decide +kernel
theorem d_Statement_isWhole_36 : decode prog_6_method_4_code 36 = .ok (.aload_n 0, 1) := by decide +kernel
theorem d_Statement_isWhole_37 : decode prog_6_method_4_code 37 = .ok (.getfield 41, 3) := by decide +kernel
theorem d_Statement_isWhole_40 : decode prog_6_method_4_code 40 = .ok (.aload_n 0, 1) := by decide +kernel
theorem d_Statement_isWhole_41 : decode prog_6_method_4_code 41 = .ok (.getfield 48, 3) := by decide +kernel
theorem d_Statement_isWhole_44 : decode prog_6_method_4_code 44 = .ok (.if_icmp .lt 7, 3) := by decide +kernel
theorem d_Statement_isWhole_47 : decode prog_6_method_4_code 47 = .ok (.iconst 1, 1) := by decide +kernel
theorem d_Statement_isWhole_48 : decode prog_6_method_4_code 48 = .ok (.goto 4, 3) := by decide +kernel
theorem d_Statement_isWhole_51 : decode prog_6_method_4_code 51 = .ok (.iconst 0, 1) := by decide +kernel
theorem d_Statement_isWhole_52 : decode prog_6_method_4_code 52 = .ok (.ireturn, 1) := by decide +kernel

def sp_isWhole (sk : Int32) (sc : Int32) (sl : Int32) : Int32 := if sk = 2 then (if sc ≤ 0 then 0 else 1) else if sk = 3 then (if sl ≤ 0 then 0 else if sc < sl then 0 else 1) else 1
set_option maxHeartbeats 4000000 in
set_option maxRecDepth 100000 in
theorem c_isWhole {l : Launch} {H0 : Heap} {D : va_G} {cI cL cQ cB : ClassId} {M : mp} {sm acc acv alc afv als : Nat} {sf : Int32} {sto : Int32} {sk : Int32} {sn : Int32} {saf : Int32} {sc : Int32} {sl : Int32} (gh0 : M sm = some (.inr (4, [.int sf, .int sto, .int sk, .int sn, .int saf, .int sc, .int sl, .ref acc, .ref acv, .ref alc, .ref afv, .ref als]))) : MC l H0 D cls7 (tysOf cI cL cQ cB) NW ({ cls := "PerformRanges$Statement", name := "isWhole", desc := "()Z" } : Jvm.MethodName) (Cond.code ({ cls := "PerformRanges$Statement", name := "isWhole", desc := "()Z" } : Jvm.MethodName) prog_6_method_4_code 1 (Option.some Jvm.ClassFile.FieldType.boolean) :: GW) ({ frames := 0, cells := 0, slots := 0, locals := 0 }) [.ref sm] M (fun v M' => v = some (.int (sp_isWhole sk sc sl)) ∧ M' = M) := by
  refine MC.of (cc := prog_6_method_4_code) (nL := 1) (ret := (Option.some Jvm.ClassFile.FieldType.boolean)) (lv := [(0, .ref sm)]) (by decide) rfl (Nat.le_of_ble_eq_true rfl) rfl ?_
  intro p e s m below meth c X hr hlk hnm hK
  refine V.rd (pc' := 1) (fun hl => lv_aload_n X.1 X.2.1 d_Statement_isWhole_0 rfl (lv_at hl 0 rfl)) ?_
  refine V.get (pc' := 4) X hK gh0 uw_Statement rfl 2 (by decide) (mcs wd_17) rfl d_Statement_isWhole_1 rfl ?_
  refine V.go (pc' := 5) (lv_iconst (v := 2) X.1 X.2.1 d_Statement_isWhole_4 (by decide)) ?_
  refine V.bn (pc' := 8) (tgt := 21) (P := sk = 2) (lv_icmp_ne X.1 X.2.1 d_Statement_isWhole_5 (by decide)) (fun c_1 => ?_) (fun c_1 => ?_)
  · have i_2 := congrArg Int32.toInt c_1
    rw [show (2 : Int32).toInt = 2 from rfl] at i_2
    refine V.rd (pc' := 9) (fun hl => lv_aload_n X.1 X.2.1 d_Statement_isWhole_8 rfl (lv_at hl 0 rfl)) ?_
    refine V.get (pc' := 12) X hK gh0 uw_Statement rfl 5 (by decide) (mcs wd_18) rfl d_Statement_isWhole_9 rfl ?_
    refine V.br (pc' := 15) (tgt := 19) (P := sc ≤ 0) (lv_if_le X.1 X.2.1 d_Statement_isWhole_12 (by decide)) (fun c_3 => ?_) (fun c_3 => ?_)
    · have i_4 := Int32.le_iff_toInt_le.mp c_3
      rw [show (0 : Int32).toInt = 0 from rfl] at i_4
      refine V.go (pc' := 20) (lv_iconst (v := 0) X.1 X.2.1 d_Statement_isWhole_19 (by decide)) ?_
      exact V.zret X hr hlk rfl ⟨(by simp only [sp_isWhole, if_pos c_1, if_pos c_3]), rfl⟩ d_Statement_isWhole_20
    · have i_5 := mt Int32.le_iff_toInt_le.mpr c_3
      rw [show (0 : Int32).toInt = 0 from rfl] at i_5
      refine V.go (pc' := 16) (lv_iconst (v := 1) X.1 X.2.1 d_Statement_isWhole_15 (by decide)) ?_
      refine V.go (pc' := 20) (lv_goto X.1 X.2.1 d_Statement_isWhole_16 (by decide)) ?_
      exact V.zret X hr hlk rfl ⟨(by simp only [sp_isWhole, if_pos c_1, if_neg c_3]), rfl⟩ d_Statement_isWhole_20
  · have i_6 := mt Int32.toInt_inj.mp c_1
    rw [show (2 : Int32).toInt = 2 from rfl] at i_6
    refine V.rd (pc' := 22) (fun hl => lv_aload_n X.1 X.2.1 d_Statement_isWhole_21 rfl (lv_at hl 0 rfl)) ?_
    refine V.get (pc' := 25) X hK gh0 uw_Statement rfl 2 (by decide) (mcs wd_17) rfl d_Statement_isWhole_22 rfl ?_
    refine V.go (pc' := 26) (lv_iconst (v := 3) X.1 X.2.1 d_Statement_isWhole_25 (by decide)) ?_
    refine V.bn (pc' := 29) (tgt := 47) (P := sk = 3) (lv_icmp_ne X.1 X.2.1 d_Statement_isWhole_26 (by decide)) (fun c_7 => ?_) (fun c_7 => ?_)
    · have i_8 := congrArg Int32.toInt c_7
      rw [show (3 : Int32).toInt = 3 from rfl] at i_8
      refine V.rd (pc' := 30) (fun hl => lv_aload_n X.1 X.2.1 d_Statement_isWhole_29 rfl (lv_at hl 0 rfl)) ?_
      refine V.get (pc' := 33) X hK gh0 uw_Statement rfl 6 (by decide) (mcs wd_19) rfl d_Statement_isWhole_30 rfl ?_
      refine V.br (pc' := 36) (tgt := 51) (P := sl ≤ 0) (lv_if_le X.1 X.2.1 d_Statement_isWhole_33 (by decide)) (fun c_9 => ?_) (fun c_9 => ?_)
      · have i_10 := Int32.le_iff_toInt_le.mp c_9
        rw [show (0 : Int32).toInt = 0 from rfl] at i_10
        refine V.go (pc' := 52) (lv_iconst (v := 0) X.1 X.2.1 d_Statement_isWhole_51 (by decide)) ?_
        exact V.zret X hr hlk rfl ⟨(by simp only [sp_isWhole, if_neg c_1, if_pos c_7, if_pos c_9]), rfl⟩ d_Statement_isWhole_52
      · have i_11 := mt Int32.le_iff_toInt_le.mpr c_9
        rw [show (0 : Int32).toInt = 0 from rfl] at i_11
        refine V.rd (pc' := 37) (fun hl => lv_aload_n X.1 X.2.1 d_Statement_isWhole_36 rfl (lv_at hl 0 rfl)) ?_
        refine V.get (pc' := 40) X hK gh0 uw_Statement rfl 5 (by decide) (mcs wd_18) rfl d_Statement_isWhole_37 rfl ?_
        refine V.rd (pc' := 41) (fun hl => lv_aload_n X.1 X.2.1 d_Statement_isWhole_40 rfl (lv_at hl 0 rfl)) ?_
        refine V.get (pc' := 44) X hK gh0 uw_Statement rfl 6 (by decide) (mcs wd_19) rfl d_Statement_isWhole_41 rfl ?_
        refine V.br (pc' := 47) (tgt := 51) (P := sc < sl) (lv_icmp_lt X.1 X.2.1 d_Statement_isWhole_44 (by decide)) (fun c_12 => ?_) (fun c_12 => ?_)
        · have i_13 := Int32.lt_iff_toInt_lt.mp c_12
          refine V.go (pc' := 52) (lv_iconst (v := 0) X.1 X.2.1 d_Statement_isWhole_51 (by decide)) ?_
          exact V.zret X hr hlk rfl ⟨(by simp only [sp_isWhole, if_neg c_1, if_pos c_7, if_neg c_9, if_pos c_12]), rfl⟩ d_Statement_isWhole_52
        · have i_14 := mt Int32.lt_iff_toInt_lt.mpr c_12
          refine V.go (pc' := 48) (lv_iconst (v := 1) X.1 X.2.1 d_Statement_isWhole_47 (by decide)) ?_
          refine V.go (pc' := 52) (lv_goto X.1 X.2.1 d_Statement_isWhole_48 (by decide)) ?_
          exact V.zret X hr hlk rfl ⟨(by simp only [sp_isWhole, if_neg c_1, if_pos c_7, if_neg c_9, if_neg c_12]), rfl⟩ d_Statement_isWhole_52
    · have i_15 := mt Int32.toInt_inj.mp c_7
      rw [show (3 : Int32).toInt = 3 from rfl] at i_15
      refine V.go (pc' := 48) (lv_iconst (v := 1) X.1 X.2.1 d_Statement_isWhole_47 (by decide)) ?_
      refine V.go (pc' := 52) (lv_goto X.1 X.2.1 d_Statement_isWhole_48 (by decide)) ?_
      exact V.zret X hr hlk rfl ⟨(by simp only [sp_isWhole, if_neg c_1, if_neg c_7]), rfl⟩ d_Statement_isWhole_52

theorem d_Statement_holds_0 : decode prog_6_method_10_code 0 = .ok (.iload_n 1, 1) := by decide +kernel
theorem d_Statement_holds_1 : decode prog_6_method_10_code 1 = .ok (.iconst 1, 1) := by decide +kernel
theorem d_Statement_holds_2 : decode prog_6_method_10_code 2 = .ok (.if_icmp .lt 9, 3) := by decide +kernel
theorem d_Statement_holds_5 : decode prog_6_method_10_code 5 = .ok (.iload_n 1, 1) := by decide +kernel
theorem d_Statement_holds_6 : decode prog_6_method_10_code 6 = .ok (.bipush 7, 2) := by decide +kernel
theorem d_Statement_holds_8 : decode prog_6_method_10_code 8 = .ok (.if_icmp .le 5, 3) := by decide +kernel
theorem d_Statement_holds_11 : decode prog_6_method_10_code 11 = .ok (.iconst 0, 1) := by decide +kernel
theorem d_Statement_holds_12 : decode prog_6_method_10_code 12 = .ok (.ireturn, 1) := by decide +kernel
theorem d_Statement_holds_13 : decode prog_6_method_10_code 13 = .ok (.aload_n 2, 1) := by decide +kernel
theorem d_Statement_holds_14 : decode prog_6_method_10_code 14 = .ok (.aload_n 0, 1) := by decide +kernel
theorem d_Statement_holds_15 : decode prog_6_method_10_code 15 = .ok (.getfield 9, 3) := by decide +kernel
theorem d_Statement_holds_18 : decode prog_6_method_10_code 18 = .ok (.iload_n 1, 1) := by decide +kernel
theorem d_Statement_holds_19 : decode prog_6_method_10_code 19 = .ok (.iconst 1, 1) := by decide +kernel
theorem d_Statement_holds_20 : decode prog_6_method_10_code 20 = .ok (.isub, 1) := by decide +kernel
theorem d_Statement_holds_21 : decode prog_6_method_10_code 21 = .ok (.iaload, 1) := by decide +kernel
theorem d_Statement_holds_22 : decode prog_6_method_10_code 22 = .ok (.invokevirtual 79, 3) := by decide +kernel
theorem d_Statement_holds_25 : decode prog_6_method_10_code 25 = .ok (.aload_n 0, 1) := by decide +kernel
theorem d_Statement_holds_26 : decode prog_6_method_10_code 26 = .ok (.getfield 15, 3) := by decide +kernel
theorem d_Statement_holds_29 : decode prog_6_method_10_code 29 = .ok (.iload_n 1, 1) := by decide +kernel
theorem d_Statement_holds_30 : decode prog_6_method_10_code 30 = .ok (.iconst 1, 1) := by decide +kernel
theorem d_Statement_holds_31 : decode prog_6_method_10_code 31 = .ok (.isub, 1) := by decide +kernel
theorem d_Statement_holds_32 : decode prog_6_method_10_code 32 = .ok (.laload, 1) := by decide +kernel
theorem d_Statement_holds_33 : decode prog_6_method_10_code 33 = .ok (.lcmp, 1) := by decide +kernel
theorem d_Statement_holds_34 : decode prog_6_method_10_code 34 = .ok (.ifCond .lt 7, 3) := by decide +kernel
theorem d_Statement_holds_37 : decode prog_6_method_10_code 37 = .ok (.iconst 1, 1) := by decide +kernel
theorem d_Statement_holds_38 : decode prog_6_method_10_code 38 = .ok (.goto 4, 3) := by decide +kernel
theorem d_Statement_holds_41 : decode prog_6_method_10_code 41 = .ok (.iconst 0, 1) := by decide +kernel
theorem d_Statement_holds_42 : decode prog_6_method_10_code 42 = .ok (.ireturn, 1) := by decide +kernel

def sp_holds (kc : Nat → Int32) (kv : Nat → Int64) (f : Nat → Int64) (x : Int32) : Int32 := if x < 1 then 0 else if x ≤ 7 then (if (lg_cmp (sp_Cells_value f (kc (x - 1).toNatClampNeg)) (kv (x - 1).toNatClampNeg)) < 0 then 0 else 1) else 0
set_option maxHeartbeats 4000000 in
set_option maxRecDepth 100000 in
theorem c_holds {l : Launch} {H0 : Heap} {D : va_G} {cI cL cQ cB : ClassId} {M : mp} {sm acc acv alc afv als ce va : Nat} {sf : Int32} {sto : Int32} {sk : Int32} {sn : Int32} {saf : Int32} {sc : Int32} {sl : Int32} {kc : Nat → Int32} {kv : Nat → Int64} {f : Nat → Int64} {x : Int32} (gh0 : M sm = some (.inr (4, [.int sf, .int sto, .int sk, .int sn, .int saf, .int sc, .int sl, .ref acc, .ref acv, .ref alc, .ref afv, .ref als]))) (gh1 : M acc = some (.inl (cI, 7, .inl kc))) (gh2 : M acv = some (.inl (cL, 7, .inr (.inl kv)))) (gh3 : M ce = some (.inr (0, [.ref va]))) (gh4 : M va = some (.inl (cL, 16, .inr (.inl f)))) : MC l H0 D cls7 (tysOf cI cL cQ cB) NW ({ cls := "PerformRanges$Statement", name := "holds", desc := "(ILPerformRanges$Cells;)Z" } : Jvm.MethodName) (Cond.code ({ cls := "PerformRanges$Statement", name := "holds", desc := "(ILPerformRanges$Cells;)Z" } : Jvm.MethodName) prog_6_method_10_code 3 (Option.some Jvm.ClassFile.FieldType.boolean) :: GW) ({ frames := 1, cells := 0, slots := 0, locals := 21 }) [.ref sm, .int x, .ref ce] M (fun v M' => v = some (.int (sp_holds kc kv f x)) ∧ M' = M) := by
  refine MC.of (cc := prog_6_method_10_code) (nL := 3) (ret := (Option.some Jvm.ClassFile.FieldType.boolean)) (lv := [(0, .ref sm), (1, .int x), (2, .ref ce)]) (by decide) rfl (Nat.le_of_ble_eq_true rfl) rfl ?_
  intro p e s m below meth c X hr hlk hnm hK
  refine V.rd (pc' := 1) (fun hl => lv_iload_n X.1 X.2.1 d_Statement_holds_0 rfl (lv_at hl 1 rfl)) ?_
  refine V.go (pc' := 2) (lv_iconst (v := 1) X.1 X.2.1 d_Statement_holds_1 (by decide)) ?_
  refine V.br (pc' := 5) (tgt := 11) (P := x < 1) (lv_icmp_lt X.1 X.2.1 d_Statement_holds_2 (by decide)) (fun c_1 => ?_) (fun c_1 => ?_)
  · have i_2 := Int32.lt_iff_toInt_lt.mp c_1
    rw [show (1 : Int32).toInt = 1 from rfl] at i_2
    refine V.go (pc' := 12) (lv_iconst (v := 0) X.1 X.2.1 d_Statement_holds_11 (by decide)) ?_
    exact V.zret X hr hlk rfl ⟨(by simp only [sp_holds, if_pos c_1]), rfl⟩ d_Statement_holds_12
  · have i_3 := mt Int32.lt_iff_toInt_lt.mpr c_1
    rw [show (1 : Int32).toInt = 1 from rfl] at i_3
    refine V.rd (pc' := 6) (fun hl => lv_iload_n X.1 X.2.1 d_Statement_holds_5 rfl (lv_at hl 1 rfl)) ?_
    refine V.go (pc' := 8) (lv_bipush (v := 7) X.1 X.2.1 d_Statement_holds_6 (by decide)) ?_
    refine V.br (pc' := 11) (tgt := 13) (P := x ≤ 7) (lv_icmp_le X.1 X.2.1 d_Statement_holds_8 (by decide)) (fun c_4 => ?_) (fun c_4 => ?_)
    · have i_5 := Int32.le_iff_toInt_le.mp c_4
      rw [show (7 : Int32).toInt = 7 from rfl] at i_5
      refine V.rd (pc' := 14) (fun hl => lv_aload_n X.1 X.2.1 d_Statement_holds_13 rfl (lv_at hl 2 rfl)) ?_
      refine V.rd (pc' := 15) (fun hl => lv_aload_n X.1 X.2.1 d_Statement_holds_14 rfl (lv_at hl 0 rfl)) ?_
      refine V.get (pc' := 18) X hK gh0 uw_Statement rfl 7 (by decide) (mcs wd_20) rfl d_Statement_holds_15 rfl ?_
      refine V.rd (pc' := 19) (fun hl => lv_iload_n X.1 X.2.1 d_Statement_holds_18 rfl (lv_at hl 1 rfl)) ?_
      refine V.go (pc' := 20) (lv_iconst (v := 1) X.1 X.2.1 d_Statement_holds_19 (by decide)) ?_
      refine V.go (pc' := 21) (lv_isub X.1 X.2.1 d_Statement_holds_20) ?_
      have s_6 : (x - 1).toInt = x.toInt - 1 := i32_sub1 (by omega)
      refine V.iald (pc' := 22) X hK 0 gh1 rfl (vin (by omega) (by omega)) d_Statement_holds_21 rfl ?_
      refine V.callV0 (pc' := 25) X hK (c_Cells_value  (ce := ce) (va := va) (f := f) (x := kc (x - 1).toNatClampNeg)   gh3 gh4  ) gh3 rfl (cwG (n := 1) X (mcs wd_21) (mcs wd_22) (mcs wd_23) (mcs wd_24) wd_25 (by decide +kernel) (by decide) (by decide)) rfl rfl (Nat.le_of_ble_eq_true rfl) d_Statement_holds_22 ⟨by decide, by decide⟩ rfl (st1 := [.long (sp_Cells_value f (kc (x - 1).toNatClampNeg))]) rfl ?_
      refine V.rd (pc' := 26) (fun hl => lv_aload_n X.1 X.2.1 d_Statement_holds_25 rfl (lv_at hl 0 rfl)) ?_
      refine V.get (pc' := 29) X hK gh0 uw_Statement rfl 8 (by decide) (mcs wd_26) rfl d_Statement_holds_26 rfl ?_
      refine V.rd (pc' := 30) (fun hl => lv_iload_n X.1 X.2.1 d_Statement_holds_29 rfl (lv_at hl 1 rfl)) ?_
      refine V.go (pc' := 31) (lv_iconst (v := 1) X.1 X.2.1 d_Statement_holds_30 (by decide)) ?_
      refine V.go (pc' := 32) (lv_isub X.1 X.2.1 d_Statement_holds_31) ?_
      have s_8 : (x - 1).toInt = x.toInt - 1 := i32_sub1 (by omega)
      refine V.lald (pc' := 33) X hK 1 gh2 rfl (vin (by omega) (by omega)) d_Statement_holds_32 rfl ?_
      refine V.go (pc' := 34) (W.lcmp X.1 X.2.1 d_Statement_holds_33) ?_
      refine V.br (pc' := 37) (tgt := 41) (P := (lg_cmp (sp_Cells_value f (kc (x - 1).toNatClampNeg)) (kv (x - 1).toNatClampNeg)) < 0) (lv_if_lt X.1 X.2.1 d_Statement_holds_34 (by decide)) (fun c_9 => ?_) (fun c_9 => ?_)
      · refine V.go (pc' := 42) (lv_iconst (v := 0) X.1 X.2.1 d_Statement_holds_41 (by decide)) ?_
        exact V.zret X hr hlk rfl ⟨(by simp only [sp_holds, if_neg c_1, if_pos c_4, if_pos c_9]), rfl⟩ d_Statement_holds_42
      · refine V.go (pc' := 38) (lv_iconst (v := 1) X.1 X.2.1 d_Statement_holds_37 (by decide)) ?_
        refine V.go (pc' := 42) (lv_goto X.1 X.2.1 d_Statement_holds_38 (by decide)) ?_
        exact V.zret X hr hlk rfl ⟨(by simp only [sp_holds, if_neg c_1, if_pos c_4, if_neg c_9]), rfl⟩ d_Statement_holds_42
    · have i_10 := mt Int32.le_iff_toInt_le.mpr c_4
      rw [show (7 : Int32).toInt = 7 from rfl] at i_10
      refine V.go (pc' := 12) (lv_iconst (v := 0) X.1 X.2.1 d_Statement_holds_11 (by decide)) ?_
      exact V.zret X hr hlk rfl ⟨(by simp only [sp_holds, if_neg c_1, if_neg c_4]), rfl⟩ d_Statement_holds_12

theorem d_Statement_takeStep_0 : decode prog_6_method_11_code 0 = .ok (.iload_n 1, 1) := by decide +kernel
theorem d_Statement_takeStep_1 : decode prog_6_method_11_code 1 = .ok (.iconst 1, 1) := by decide +kernel
theorem d_Statement_takeStep_2 : decode prog_6_method_11_code 2 = .ok (.if_icmp .lt 29, 3) := by decide +kernel
theorem d_Statement_takeStep_5 : decode prog_6_method_11_code 5 = .ok (.iload_n 1, 1) := by decide +kernel
theorem d_Statement_takeStep_6 : decode prog_6_method_11_code 6 = .ok (.bipush 7, 2) := by decide +kernel
theorem d_Statement_takeStep_8 : decode prog_6_method_11_code 8 = .ok (.if_icmp .gt 23, 3) := by decide +kernel
theorem d_Statement_takeStep_11 : decode prog_6_method_11_code 11 = .ok (.aload_n 2, 1) := by decide +kernel
theorem d_Statement_takeStep_12 : decode prog_6_method_11_code 12 = .ok (.aload_n 0, 1) := by decide +kernel
theorem d_Statement_takeStep_13 : decode prog_6_method_11_code 13 = .ok (.getfield 19, 3) := by decide +kernel
theorem d_Statement_takeStep_16 : decode prog_6_method_11_code 16 = .ok (.iload_n 1, 1) := by decide +kernel
theorem d_Statement_takeStep_17 : decode prog_6_method_11_code 17 = .ok (.iconst 1, 1) := by decide +kernel
theorem d_Statement_takeStep_18 : decode prog_6_method_11_code 18 = .ok (.isub, 1) := by decide +kernel
theorem d_Statement_takeStep_19 : decode prog_6_method_11_code 19 = .ok (.iaload, 1) := by decide +kernel
theorem d_Statement_takeStep_20 : decode prog_6_method_11_code 20 = .ok (.aload_n 0, 1) := by decide +kernel
theorem d_Statement_takeStep_21 : decode prog_6_method_11_code 21 = .ok (.getfield 25, 3) := by decide +kernel
theorem d_Statement_takeStep_24 : decode prog_6_method_11_code 24 = .ok (.iload_n 1, 1) := by decide +kernel
theorem d_Statement_takeStep_25 : decode prog_6_method_11_code 25 = .ok (.iconst 1, 1) := by decide +kernel
theorem d_Statement_takeStep_26 : decode prog_6_method_11_code 26 = .ok (.isub, 1) := by decide +kernel
theorem d_Statement_takeStep_27 : decode prog_6_method_11_code 27 = .ok (.laload, 1) := by decide +kernel
theorem d_Statement_takeStep_28 : decode prog_6_method_11_code 28 = .ok (.invokevirtual 85, 3) := by decide +kernel
theorem d_Statement_takeStep_31 : decode prog_6_method_11_code 31 = .ok (.return_, 1) := by decide +kernel

def sp_takeStep_va (lc : Nat → Int32) (lz : Nat → Int64) (f : Nat → Int64) (x : Int32) : Nat → Int64 := if x < 1 then f else if 7 < x then f else sp_Cells_grow_va f (lc (x - 1).toNatClampNeg) (lz (x - 1).toNatClampNeg)
set_option maxHeartbeats 4000000 in
set_option maxRecDepth 100000 in
theorem c_takeStep {l : Launch} {H0 : Heap} {D : va_G} {cI cL cQ cB : ClassId} {M : mp} {sm acc acv alc afv als ce va : Nat} {sf : Int32} {sto : Int32} {sk : Int32} {sn : Int32} {saf : Int32} {sc : Int32} {sl : Int32} {lc : Nat → Int32} {lz : Nat → Int64} {f : Nat → Int64} {x : Int32} (gh0 : M sm = some (.inr (4, [.int sf, .int sto, .int sk, .int sn, .int saf, .int sc, .int sl, .ref acc, .ref acv, .ref alc, .ref afv, .ref als]))) (gh1 : M alc = some (.inl (cI, 7, .inl lc))) (gh2 : M als = some (.inl (cL, 7, .inr (.inl lz)))) (gh3 : M ce = some (.inr (0, [.ref va]))) (gh4 : M va = some (.inl (cL, 16, .inr (.inl f)))) : MC l H0 D cls7 (tysOf cI cL cQ cB) NW ({ cls := "PerformRanges$Statement", name := "takeStep", desc := "(ILPerformRanges$Cells;)V" } : Jvm.MethodName) (Cond.code ({ cls := "PerformRanges$Statement", name := "takeStep", desc := "(ILPerformRanges$Cells;)V" } : Jvm.MethodName) prog_6_method_11_code 3 (Option.none : Option Jvm.ClassFile.FieldType) :: GW) ({ frames := 1, cells := 0, slots := 0, locals := 23 }) [.ref sm, .int x, .ref ce] M (fun v M' => v = none ∧ M' va = some (.inl (cL, 16, .inr (.inl (sp_takeStep_va lc lz f x)))) ∧ (∀ q, q ≠ va → M' q = M q)) := by
  refine MC.of (cc := prog_6_method_11_code) (nL := 3) (ret := (Option.none : Option Jvm.ClassFile.FieldType)) (lv := [(0, .ref sm), (1, .int x), (2, .ref ce)]) (by decide) rfl (Nat.le_of_ble_eq_true rfl) rfl ?_
  intro p e s m below meth c X hr hlk hnm hK
  refine V.rd (pc' := 1) (fun hl => lv_iload_n X.1 X.2.1 d_Statement_takeStep_0 rfl (lv_at hl 1 rfl)) ?_
  refine V.go (pc' := 2) (lv_iconst (v := 1) X.1 X.2.1 d_Statement_takeStep_1 (by decide)) ?_
  refine V.br (pc' := 5) (tgt := 31) (P := x < 1) (lv_icmp_lt X.1 X.2.1 d_Statement_takeStep_2 (by decide)) (fun c_1 => ?_) (fun c_1 => ?_)
  · have i_2 := Int32.lt_iff_toInt_lt.mp c_1
    rw [show (1 : Int32).toInt = 1 from rfl] at i_2
    exact V.vret X hr hlk ⟨rfl, (by simp only [sp_takeStep_va, if_pos c_1]; exact gh4), (fun q n0_ => rfl)⟩ d_Statement_takeStep_31
  · have i_3 := mt Int32.lt_iff_toInt_lt.mpr c_1
    rw [show (1 : Int32).toInt = 1 from rfl] at i_3
    refine V.rd (pc' := 6) (fun hl => lv_iload_n X.1 X.2.1 d_Statement_takeStep_5 rfl (lv_at hl 1 rfl)) ?_
    refine V.go (pc' := 8) (lv_bipush (v := 7) X.1 X.2.1 d_Statement_takeStep_6 (by decide)) ?_
    refine V.br (pc' := 11) (tgt := 31) (P := 7 < x) (lv_icmp_gt X.1 X.2.1 d_Statement_takeStep_8 (by decide)) (fun c_4 => ?_) (fun c_4 => ?_)
    · have i_5 := Int32.lt_iff_toInt_lt.mp c_4
      rw [show (7 : Int32).toInt = 7 from rfl] at i_5
      exact V.vret X hr hlk ⟨rfl, (by simp only [sp_takeStep_va, if_neg c_1, if_pos c_4]; exact gh4), (fun q n0_ => rfl)⟩ d_Statement_takeStep_31
    · have i_6 := mt Int32.lt_iff_toInt_lt.mpr c_4
      rw [show (7 : Int32).toInt = 7 from rfl] at i_6
      refine V.rd (pc' := 12) (fun hl => lv_aload_n X.1 X.2.1 d_Statement_takeStep_11 rfl (lv_at hl 2 rfl)) ?_
      refine V.rd (pc' := 13) (fun hl => lv_aload_n X.1 X.2.1 d_Statement_takeStep_12 rfl (lv_at hl 0 rfl)) ?_
      refine V.get (pc' := 16) X hK gh0 uw_Statement rfl 9 (by decide) (mcs wd_27) rfl d_Statement_takeStep_13 rfl ?_
      refine V.rd (pc' := 17) (fun hl => lv_iload_n X.1 X.2.1 d_Statement_takeStep_16 rfl (lv_at hl 1 rfl)) ?_
      refine V.go (pc' := 18) (lv_iconst (v := 1) X.1 X.2.1 d_Statement_takeStep_17 (by decide)) ?_
      refine V.go (pc' := 19) (lv_isub X.1 X.2.1 d_Statement_takeStep_18) ?_
      have s_7 : (x - 1).toInt = x.toInt - 1 := i32_sub1 (by omega)
      refine V.iald (pc' := 20) X hK 0 gh1 rfl (vin (by omega) (by omega)) d_Statement_takeStep_19 rfl ?_
      refine V.rd (pc' := 21) (fun hl => lv_aload_n X.1 X.2.1 d_Statement_takeStep_20 rfl (lv_at hl 0 rfl)) ?_
      refine V.get (pc' := 24) X hK gh0 uw_Statement rfl 11 (by decide) (mcs wd_28) rfl d_Statement_takeStep_21 rfl ?_
      refine V.rd (pc' := 25) (fun hl => lv_iload_n X.1 X.2.1 d_Statement_takeStep_24 rfl (lv_at hl 1 rfl)) ?_
      refine V.go (pc' := 26) (lv_iconst (v := 1) X.1 X.2.1 d_Statement_takeStep_25 (by decide)) ?_
      refine V.go (pc' := 27) (lv_isub X.1 X.2.1 d_Statement_takeStep_26) ?_
      have s_8 : (x - 1).toInt = x.toInt - 1 := i32_sub1 (by omega)
      refine V.lald (pc' := 28) X hK 1 gh2 rfl (vin (by omega) (by omega)) d_Statement_takeStep_27 rfl ?_
      refine V.callV (pc' := 31) X hK (c_Cells_grow  (ce := ce) (va := va) (f := f) (x := lc (x - 1).toNatClampNeg) (y := lz (x - 1).toNatClampNeg)   gh3 gh4  ) gh3 rfl (cwG (n := 2) X (mcs wd_29) (mcs wd_30) (mcs wd_31) (mcs wd_24) wd_32 (by decide +kernel) (by decide) (by decide)) rfl rfl (Nat.le_of_ble_eq_true rfl) d_Statement_takeStep_28 ⟨by decide, by decide⟩ rfl (st1 := []) rfl (fun M_9 ⟨h_10, fr_11⟩ => ?_)
      have h_12 : M_9 sm = some (.inr (4, [.int sf, .int sto, .int sk, .int sn, .int saf, .int sc, .int sl, .ref acc, .ref acv, .ref alc, .ref afv, .ref als])) := (fr_11 _ (ne_k gh0 gh4 (i := 4) (j := 100016) rfl rfl (by decide))).trans gh0
      have h_13 : M_9 alc = some (.inl (cI, 7, .inl lc)) := (fr_11 _ (ne_k gh1 gh4 (i := 1007) (j := 100016) rfl rfl (by decide))).trans gh1
      have h_14 : M_9 als = some (.inl (cL, 7, .inr (.inl lz))) := (fr_11 _ (ne_k gh2 gh4 (i := 100007) (j := 100016) rfl rfl (by decide))).trans gh2
      have h_15 : M_9 ce = some (.inr (0, [.ref va])) := (fr_11 _ (ne_k gh3 gh4 (i := 0) (j := 100016) rfl rfl (by decide))).trans gh3
      exact V.vret X hr hlk ⟨rfl, (by simp only [sp_takeStep_va, if_neg c_1, if_neg c_4]; exact h_10), (fun q n0_ => (fr_11 q n0_))⟩ d_Statement_takeStep_31

theorem d_Statement_addCondition_0 : decode prog_6_method_2_code 0 = .ok (.aload_n 0, 1) := by decide +kernel
theorem d_Statement_addCondition_1 : decode prog_6_method_2_code 1 = .ok (.getfield 35, 3) := by decide +kernel
theorem d_Statement_addCondition_4 : decode prog_6_method_2_code 4 = .ok (.iconst 2, 1) := by decide +kernel
theorem d_Statement_addCondition_5 : decode prog_6_method_2_code 5 = .ok (.if_icmp .eq 11, 3) := by decide +kernel
theorem d_Statement_addCondition_8 : decode prog_6_method_2_code 8 = .ok (.aload_n 0, 1) := by decide +kernel
theorem d_Statement_addCondition_9 : decode prog_6_method_2_code 9 = .ok (.getfield 35, 3) := by decide +kernel
theorem d_Statement_addCondition_12 : decode prog_6_method_2_code 12 = .ok (.iconst 3, 1) := by decide +kernel
theorem d_Statement_addCondition_13 : decode prog_6_method_2_code 13 = .ok (.if_icmp .ne 12, 3) := by decide +kernel
theorem d_Statement_addCondition_16 : decode prog_6_method_2_code 16 = .ok (.aload_n 0, 1) := by decide +kernel
theorem d_Statement_addCondition_17 : decode prog_6_method_2_code 17 = .ok (.getfield 41, 3) := by decide +kernel
theorem d_Statement_addCondition_20 : decode prog_6_method_2_code 20 = .ok (.bipush 7, 2) := by decide +kernel
theorem d_Statement_addCondition_22 : decode prog_6_method_2_code 22 = .ok (.if_icmp .lt 5, 3) := by decide +kernel
theorem d_Statement_addCondition_25 : decode prog_6_method_2_code 25 = .ok (.iconst (-1), 1) := by decide +kernel
theorem d_Statement_addCondition_26 : decode prog_6_method_2_code 26 = .ok (.ireturn, 1) := by decide +kernel
theorem d_Statement_addCondition_27 : decode prog_6_method_2_code 27 = .ok (.aload_n 0, 1) := by decide +kernel
theorem d_Statement_addCondition_28 : decode prog_6_method_2_code 28 = .ok (.getfield 41, 3) := by decide +kernel
theorem d_Statement_addCondition_31 : decode prog_6_method_2_code 31 = .ok (.ifCond .ne 9, 3) := by decide +kernel
theorem d_Statement_addCondition_34 : decode prog_6_method_2_code 34 = .ok (.aload_n 0, 1) := by decide +kernel
theorem d_Statement_addCondition_35 : decode prog_6_method_2_code 35 = .ok (.iload 4, 2) := by decide +kernel
theorem d_Statement_addCondition_37 : decode prog_6_method_2_code 37 = .ok (.putfield 44, 3) := by decide +kernel
theorem d_Statement_addCondition_40 : decode prog_6_method_2_code 40 = .ok (.aload_n 0, 1) := by decide +kernel
theorem d_Statement_addCondition_41 : decode prog_6_method_2_code 41 = .ok (.getfield 9, 3) := by decide +kernel
theorem d_Statement_addCondition_44 : decode prog_6_method_2_code 44 = .ok (.aload_n 0, 1) := by decide +kernel
theorem d_Statement_addCondition_45 : decode prog_6_method_2_code 45 = .ok (.getfield 41, 3) := by decide +kernel
theorem d_Statement_addCondition_48 : decode prog_6_method_2_code 48 = .ok (.iload_n 1, 1) := by decide +kernel
theorem d_Statement_addCondition_49 : decode prog_6_method_2_code 49 = .ok (.iastore, 1) := by decide +kernel
theorem d_Statement_addCondition_50 : decode prog_6_method_2_code 50 = .ok (.aload_n 0, 1) := by decide +kernel
theorem d_Statement_addCondition_51 : decode prog_6_method_2_code 51 = .ok (.getfield 15, 3) := by decide +kernel
theorem d_Statement_addCondition_54 : decode prog_6_method_2_code 54 = .ok (.aload_n 0, 1) := by decide +kernel
theorem d_Statement_addCondition_55 : decode prog_6_method_2_code 55 = .ok (.getfield 41, 3) := by decide +kernel
theorem d_Statement_addCondition_58 : decode prog_6_method_2_code 58 = .ok (.lload_n 2, 1) := by decide +kernel
theorem d_Statement_addCondition_59 : decode prog_6_method_2_code 59 = .ok (.lastore, 1) := by decide +kernel
theorem d_Statement_addCondition_60 : decode prog_6_method_2_code 60 = .ok (.aload_n 0, 1) := by decide +kernel
theorem d_Statement_addCondition_61 : decode prog_6_method_2_code 61 = .ok (.dup, 1) := by decide +kernel
theorem d_Statement_addCondition_62 : decode prog_6_method_2_code 62 = .ok (.getfield 41, 3) := by decide +kernel
theorem d_Statement_addCondition_65 : decode prog_6_method_2_code 65 = .ok (.iconst 1, 1) := by decide +kernel
theorem d_Statement_addCondition_66 : decode prog_6_method_2_code 66 = .ok (.iadd, 1) := by decide +kernel
theorem d_Statement_addCondition_67 : decode prog_6_method_2_code 67 = .ok (.putfield 41, 3) := by decide +kernel
theorem d_Statement_addCondition_70 : decode prog_6_method_2_code 70 = .ok (.aload_n 0, 1) := by decide +kernel
theorem d_Statement_addCondition_71 : decode prog_6_method_2_code 71 = .ok (.getfield 41, 3) := by decide +kernel
theorem d_Statement_addCondition_74 : decode prog_6_method_2_code 74 = .ok (.ireturn, 1) := by decide +kernel

def sp_addCondition (sk : Int32) (sc : Int32) : Int32 := if sk = 2 then (if sc < 7 then sc + 1 else (-1)) else if sk = 3 then (if sc < 7 then sc + 1 else (-1)) else (-1)
def sp_addCondition_sm_4 (sk : Int32) (saf : Int32) (sc : Int32) (b : Int32) : Int32 := if sk = 2 then (if sc < 7 then (if sc = 0 then b else saf) else saf) else if sk = 3 then (if sc < 7 then (if sc = 0 then b else saf) else saf) else saf
def sp_addCondition_sm_5 (sk : Int32) (sc : Int32) : Int32 := if sk = 2 then (if sc < 7 then sc + 1 else sc) else if sk = 3 then (if sc < 7 then sc + 1 else sc) else sc
def sp_addCondition_acc (sk : Int32) (sc : Int32) (kc : Nat → Int32) (x : Int32) : Nat → Int32 := if sk = 2 then (if sc < 7 then upd kc sc.toNatClampNeg x else kc) else if sk = 3 then (if sc < 7 then upd kc sc.toNatClampNeg x else kc) else kc
def sp_addCondition_acv (sk : Int32) (sc : Int32) (kv : Nat → Int64) (y : Int64) : Nat → Int64 := if sk = 2 then (if sc < 7 then vp_updL kv sc.toNatClampNeg y else kv) else if sk = 3 then (if sc < 7 then vp_updL kv sc.toNatClampNeg y else kv) else kv
set_option maxHeartbeats 4000000 in
set_option maxRecDepth 100000 in
theorem c_addCondition {l : Launch} {H0 : Heap} {D : va_G} {cI cL cQ cB : ClassId} {M : mp} {sm acc acv alc afv als : Nat} {sf : Int32} {sto : Int32} {sk : Int32} {sn : Int32} {saf : Int32} {sc : Int32} {sl : Int32} {kc : Nat → Int32} {kv : Nat → Int64} {x : Int32} {y : Int64} {b : Int32} (hb : b = 0 ∨ b = 1) (hsc : 0 ≤ sc.toInt) (gh0 : M sm = some (.inr (4, [.int sf, .int sto, .int sk, .int sn, .int saf, .int sc, .int sl, .ref acc, .ref acv, .ref alc, .ref afv, .ref als]))) (gh1 : M acc = some (.inl (cI, 7, .inl kc))) (gh2 : M acv = some (.inl (cL, 7, .inr (.inl kv)))) : MC l H0 D cls7 (tysOf cI cL cQ cB) NW ({ cls := "PerformRanges$Statement", name := "addCondition", desc := "(IJZ)I" } : Jvm.MethodName) (Cond.code ({ cls := "PerformRanges$Statement", name := "addCondition", desc := "(IJZ)I" } : Jvm.MethodName) prog_6_method_2_code 5 (Option.some Jvm.ClassFile.FieldType.int) :: GW) ({ frames := 0, cells := 0, slots := 0, locals := 0 }) [.ref sm, .int x, .long y, .int b] M (fun v M' => v = some (.int (sp_addCondition sk sc)) ∧ M' sm = some (.inr (4, [.int sf, .int sto, .int sk, .int sn, .int (sp_addCondition_sm_4 sk saf sc b), .int (sp_addCondition_sm_5 sk sc), .int sl, .ref acc, .ref acv, .ref alc, .ref afv, .ref als])) ∧ M' acc = some (.inl (cI, 7, .inl (sp_addCondition_acc sk sc kc x))) ∧ M' acv = some (.inl (cL, 7, .inr (.inl (sp_addCondition_acv sk sc kv y)))) ∧ (∀ q, q ≠ sm → q ≠ acc → q ≠ acv → M' q = M q)) := by
  refine MC.of (cc := prog_6_method_2_code) (nL := 5) (ret := (Option.some Jvm.ClassFile.FieldType.int)) (lv := [(0, .ref sm), (1, .int x), (2, .long y), (4, .int b)]) (by decide) rfl (Nat.le_of_ble_eq_true rfl) rfl ?_
  intro p e s m below meth c X hr hlk hnm hK
  refine V.rd (pc' := 1) (fun hl => lv_aload_n X.1 X.2.1 d_Statement_addCondition_0 rfl (lv_at hl 0 rfl)) ?_
  refine V.get (pc' := 4) X hK gh0 uw_Statement rfl 2 (by decide) (mcs wd_17) rfl d_Statement_addCondition_1 rfl ?_
  refine V.go (pc' := 5) (lv_iconst (v := 2) X.1 X.2.1 d_Statement_addCondition_4 (by decide)) ?_
  refine V.br (pc' := 8) (tgt := 16) (P := sk = 2) (lv_icmp_eq X.1 X.2.1 d_Statement_addCondition_5 (by decide)) (fun c_1 => ?_) (fun c_1 => ?_)
  · have i_2 := congrArg Int32.toInt c_1
    rw [show (2 : Int32).toInt = 2 from rfl] at i_2
    refine V.rd (pc' := 17) (fun hl => lv_aload_n X.1 X.2.1 d_Statement_addCondition_16 rfl (lv_at hl 0 rfl)) ?_
    refine V.get (pc' := 20) X hK gh0 uw_Statement rfl 5 (by decide) (mcs wd_18) rfl d_Statement_addCondition_17 rfl ?_
    refine V.go (pc' := 22) (lv_bipush (v := 7) X.1 X.2.1 d_Statement_addCondition_20 (by decide)) ?_
    refine V.br (pc' := 25) (tgt := 27) (P := sc < 7) (lv_icmp_lt X.1 X.2.1 d_Statement_addCondition_22 (by decide)) (fun c_3 => ?_) (fun c_3 => ?_)
    · have i_4 := Int32.lt_iff_toInt_lt.mp c_3
      rw [show (7 : Int32).toInt = 7 from rfl] at i_4
      refine V.rd (pc' := 28) (fun hl => lv_aload_n X.1 X.2.1 d_Statement_addCondition_27 rfl (lv_at hl 0 rfl)) ?_
      refine V.get (pc' := 31) X hK gh0 uw_Statement rfl 5 (by decide) (mcs wd_18) rfl d_Statement_addCondition_28 rfl ?_
      refine V.bn (pc' := 34) (tgt := 40) (P := sc = 0) (lv_if_ne X.1 X.2.1 d_Statement_addCondition_31 (by decide)) (fun c_5 => ?_) (fun c_5 => ?_)
      · have i_6 := congrArg Int32.toInt c_5
        rw [show (0 : Int32).toInt = 0 from rfl] at i_6
        refine V.rd (pc' := 35) (fun hl => lv_aload_n X.1 X.2.1 d_Statement_addCondition_34 rfl (lv_at hl 0 rfl)) ?_
        refine V.rd (pc' := 37) (fun hl => lv_iload X.1 X.2.1 d_Statement_addCondition_35 (lv_at hl 3 rfl)) ?_
        refine V.put (pc' := 40) X hK gh0 uw_Statement t_Statement tok_Statement nm_Statement rfl 4 (by decide) (mcs wd_33) rfl (nb_ok hb) (fb_ok hb) (Nat.le_of_ble_eq_true rfl) (fs' := [.int sf, .int sto, .int sk, .int sn, .int b, .int sc, .int sl, .ref acc, .ref acv, .ref alc, .ref afv, .ref als]) rfl d_Statement_addCondition_37 rfl (fun M_7 h_8 fr_9 => ?_)
        have h_10 : M_7 acc = some (.inl (cI, 7, .inl kc)) := (fr_9 _ (ne_k gh1 gh0 (i := 1007) (j := 4) rfl rfl (by decide))).trans gh1
        have h_11 : M_7 acv = some (.inl (cL, 7, .inr (.inl kv))) := (fr_9 _ (ne_k gh2 gh0 (i := 100007) (j := 4) rfl rfl (by decide))).trans gh2
        refine V.rd (pc' := 41) (fun hl => lv_aload_n X.1 X.2.1 d_Statement_addCondition_40 rfl (lv_at hl 0 rfl)) ?_
        refine V.get (pc' := 44) X hK h_8 uw_Statement rfl 7 (by decide) (mcs wd_20) rfl d_Statement_addCondition_41 rfl ?_
        refine V.rd (pc' := 45) (fun hl => lv_aload_n X.1 X.2.1 d_Statement_addCondition_44 rfl (lv_at hl 0 rfl)) ?_
        refine V.get (pc' := 48) X hK h_8 uw_Statement rfl 5 (by decide) (mcs wd_18) rfl d_Statement_addCondition_45 rfl ?_
        refine V.rd (pc' := 49) (fun hl => lv_iload_n X.1 X.2.1 d_Statement_addCondition_48 rfl (lv_at hl 1 rfl)) ?_
        refine V.iast (pc' := 50) X hK 0 h_10 rfl (vin (by omega) (by omega)) d_Statement_addCondition_49 rfl (fun M_12 h_13 fr_14 => ?_)
        have h_15 : M_12 acv = some (.inl (cL, 7, .inr (.inl kv))) := (fr_14 _ (ne_k h_11 h_10 (i := 100007) (j := 1007) rfl rfl (by decide))).trans h_11
        have h_16 : M_12 sm = some (.inr (4, [.int sf, .int sto, .int sk, .int sn, .int b, .int sc, .int sl, .ref acc, .ref acv, .ref alc, .ref afv, .ref als])) := (fr_14 _ (ne_k h_8 h_10 (i := 4) (j := 1007) rfl rfl (by decide))).trans h_8
        refine V.rd (pc' := 51) (fun hl => lv_aload_n X.1 X.2.1 d_Statement_addCondition_50 rfl (lv_at hl 0 rfl)) ?_
        refine V.get (pc' := 54) X hK h_16 uw_Statement rfl 8 (by decide) (mcs wd_26) rfl d_Statement_addCondition_51 rfl ?_
        refine V.rd (pc' := 55) (fun hl => lv_aload_n X.1 X.2.1 d_Statement_addCondition_54 rfl (lv_at hl 0 rfl)) ?_
        refine V.get (pc' := 58) X hK h_16 uw_Statement rfl 5 (by decide) (mcs wd_18) rfl d_Statement_addCondition_55 rfl ?_
        refine V.rd (pc' := 59) (fun hl => lv_lload_n X.1 X.2.1 d_Statement_addCondition_58 rfl (lv_at hl 2 rfl)) ?_
        refine V.last (pc' := 60) X hK 1 h_15 rfl (vin (by omega) (by omega)) d_Statement_addCondition_59 rfl (fun M_17 h_18 fr_19 => ?_)
        have h_20 : M_17 sm = some (.inr (4, [.int sf, .int sto, .int sk, .int sn, .int b, .int sc, .int sl, .ref acc, .ref acv, .ref alc, .ref afv, .ref als])) := (fr_19 _ (ne_k h_16 h_15 (i := 4) (j := 100007) rfl rfl (by decide))).trans h_16
        have h_21 : M_17 acc = some (.inl (cI, 7, .inl (upd kc sc.toNatClampNeg x))) := (fr_19 _ (ne_k h_13 h_15 (i := 1007) (j := 100007) rfl rfl (by decide))).trans h_13
        refine V.rd (pc' := 61) (fun hl => lv_aload_n X.1 X.2.1 d_Statement_addCondition_60 rfl (lv_at hl 0 rfl)) ?_
        refine V.go (pc' := 62) (lv_dup X.1 X.2.1 d_Statement_addCondition_61 rfl) ?_
        refine V.get (pc' := 65) X hK h_20 uw_Statement rfl 5 (by decide) (mcs wd_18) rfl d_Statement_addCondition_62 rfl ?_
        refine V.go (pc' := 66) (lv_iconst (v := 1) X.1 X.2.1 d_Statement_addCondition_65 (by decide)) ?_
        refine V.go (pc' := 67) (lv_iadd X.1 X.2.1 d_Statement_addCondition_66) ?_
        have s_22 : (sc + 1).toInt = sc.toInt + 1 := i32_add1 (by omega)
        refine V.put (pc' := 70) X hK h_20 uw_Statement t_Statement tok_Statement nm_Statement rfl 5 (by decide) (mcs wd_18) rfl rfl rfl (Nat.le_of_ble_eq_true rfl) (fs' := [.int sf, .int sto, .int sk, .int sn, .int b, .int (sc + 1), .int sl, .ref acc, .ref acv, .ref alc, .ref afv, .ref als]) rfl d_Statement_addCondition_67 rfl (fun M_23 h_24 fr_25 => ?_)
        have h_26 : M_23 acc = some (.inl (cI, 7, .inl (upd kc sc.toNatClampNeg x))) := (fr_25 _ (ne_k h_21 h_20 (i := 1007) (j := 4) rfl rfl (by decide))).trans h_21
        have h_27 : M_23 acv = some (.inl (cL, 7, .inr (.inl (vp_updL kv sc.toNatClampNeg y)))) := (fr_25 _ (ne_k h_18 h_20 (i := 100007) (j := 4) rfl rfl (by decide))).trans h_18
        refine V.rd (pc' := 71) (fun hl => lv_aload_n X.1 X.2.1 d_Statement_addCondition_70 rfl (lv_at hl 0 rfl)) ?_
        refine V.get (pc' := 74) X hK h_24 uw_Statement rfl 5 (by decide) (mcs wd_18) rfl d_Statement_addCondition_71 rfl ?_
        exact V.iret X hr hlk ⟨(by simp only [sp_addCondition, if_pos c_1, if_pos c_3, if_pos c_5]), (by simp only [sp_addCondition_sm_4, sp_addCondition_sm_5, if_pos c_1, if_pos c_3, if_pos c_5]; exact h_24), (by simp only [sp_addCondition_acc, if_pos c_1, if_pos c_3, if_pos c_5]; exact h_26), (by simp only [sp_addCondition_acv, if_pos c_1, if_pos c_3, if_pos c_5]; exact h_27), (fun q n0_ n1_ n2_ => (fr_25 q n0_).trans ((fr_19 q n2_).trans ((fr_14 q n1_).trans ((fr_9 q n0_)))))⟩ d_Statement_addCondition_74
      · have i_28 := mt Int32.toInt_inj.mp c_5
        rw [show (0 : Int32).toInt = 0 from rfl] at i_28
        refine V.rd (pc' := 41) (fun hl => lv_aload_n X.1 X.2.1 d_Statement_addCondition_40 rfl (lv_at hl 0 rfl)) ?_
        refine V.get (pc' := 44) X hK gh0 uw_Statement rfl 7 (by decide) (mcs wd_20) rfl d_Statement_addCondition_41 rfl ?_
        refine V.rd (pc' := 45) (fun hl => lv_aload_n X.1 X.2.1 d_Statement_addCondition_44 rfl (lv_at hl 0 rfl)) ?_
        refine V.get (pc' := 48) X hK gh0 uw_Statement rfl 5 (by decide) (mcs wd_18) rfl d_Statement_addCondition_45 rfl ?_
        refine V.rd (pc' := 49) (fun hl => lv_iload_n X.1 X.2.1 d_Statement_addCondition_48 rfl (lv_at hl 1 rfl)) ?_
        refine V.iast (pc' := 50) X hK 0 gh1 rfl (vin (by omega) (by omega)) d_Statement_addCondition_49 rfl (fun M_29 h_30 fr_31 => ?_)
        have h_32 : M_29 sm = some (.inr (4, [.int sf, .int sto, .int sk, .int sn, .int saf, .int sc, .int sl, .ref acc, .ref acv, .ref alc, .ref afv, .ref als])) := (fr_31 _ (ne_k gh0 gh1 (i := 4) (j := 1007) rfl rfl (by decide))).trans gh0
        have h_33 : M_29 acv = some (.inl (cL, 7, .inr (.inl kv))) := (fr_31 _ (ne_k gh2 gh1 (i := 100007) (j := 1007) rfl rfl (by decide))).trans gh2
        refine V.rd (pc' := 51) (fun hl => lv_aload_n X.1 X.2.1 d_Statement_addCondition_50 rfl (lv_at hl 0 rfl)) ?_
        refine V.get (pc' := 54) X hK h_32 uw_Statement rfl 8 (by decide) (mcs wd_26) rfl d_Statement_addCondition_51 rfl ?_
        refine V.rd (pc' := 55) (fun hl => lv_aload_n X.1 X.2.1 d_Statement_addCondition_54 rfl (lv_at hl 0 rfl)) ?_
        refine V.get (pc' := 58) X hK h_32 uw_Statement rfl 5 (by decide) (mcs wd_18) rfl d_Statement_addCondition_55 rfl ?_
        refine V.rd (pc' := 59) (fun hl => lv_lload_n X.1 X.2.1 d_Statement_addCondition_58 rfl (lv_at hl 2 rfl)) ?_
        refine V.last (pc' := 60) X hK 1 h_33 rfl (vin (by omega) (by omega)) d_Statement_addCondition_59 rfl (fun M_34 h_35 fr_36 => ?_)
        have h_37 : M_34 sm = some (.inr (4, [.int sf, .int sto, .int sk, .int sn, .int saf, .int sc, .int sl, .ref acc, .ref acv, .ref alc, .ref afv, .ref als])) := (fr_36 _ (ne_k h_32 h_33 (i := 4) (j := 100007) rfl rfl (by decide))).trans h_32
        have h_38 : M_34 acc = some (.inl (cI, 7, .inl (upd kc sc.toNatClampNeg x))) := (fr_36 _ (ne_k h_30 h_33 (i := 1007) (j := 100007) rfl rfl (by decide))).trans h_30
        refine V.rd (pc' := 61) (fun hl => lv_aload_n X.1 X.2.1 d_Statement_addCondition_60 rfl (lv_at hl 0 rfl)) ?_
        refine V.go (pc' := 62) (lv_dup X.1 X.2.1 d_Statement_addCondition_61 rfl) ?_
        refine V.get (pc' := 65) X hK h_37 uw_Statement rfl 5 (by decide) (mcs wd_18) rfl d_Statement_addCondition_62 rfl ?_
        refine V.go (pc' := 66) (lv_iconst (v := 1) X.1 X.2.1 d_Statement_addCondition_65 (by decide)) ?_
        refine V.go (pc' := 67) (lv_iadd X.1 X.2.1 d_Statement_addCondition_66) ?_
        have s_39 : (sc + 1).toInt = sc.toInt + 1 := i32_add1 (by omega)
        refine V.put (pc' := 70) X hK h_37 uw_Statement t_Statement tok_Statement nm_Statement rfl 5 (by decide) (mcs wd_18) rfl rfl rfl (Nat.le_of_ble_eq_true rfl) (fs' := [.int sf, .int sto, .int sk, .int sn, .int saf, .int (sc + 1), .int sl, .ref acc, .ref acv, .ref alc, .ref afv, .ref als]) rfl d_Statement_addCondition_67 rfl (fun M_40 h_41 fr_42 => ?_)
        have h_43 : M_40 acc = some (.inl (cI, 7, .inl (upd kc sc.toNatClampNeg x))) := (fr_42 _ (ne_k h_38 h_37 (i := 1007) (j := 4) rfl rfl (by decide))).trans h_38
        have h_44 : M_40 acv = some (.inl (cL, 7, .inr (.inl (vp_updL kv sc.toNatClampNeg y)))) := (fr_42 _ (ne_k h_35 h_37 (i := 100007) (j := 4) rfl rfl (by decide))).trans h_35
        refine V.rd (pc' := 71) (fun hl => lv_aload_n X.1 X.2.1 d_Statement_addCondition_70 rfl (lv_at hl 0 rfl)) ?_
        refine V.get (pc' := 74) X hK h_41 uw_Statement rfl 5 (by decide) (mcs wd_18) rfl d_Statement_addCondition_71 rfl ?_
        exact V.iret X hr hlk ⟨(by simp only [sp_addCondition, if_pos c_1, if_pos c_3, if_neg c_5]), (by simp only [sp_addCondition_sm_4, sp_addCondition_sm_5, if_pos c_1, if_pos c_3, if_neg c_5]; exact h_41), (by simp only [sp_addCondition_acc, if_pos c_1, if_pos c_3, if_neg c_5]; exact h_43), (by simp only [sp_addCondition_acv, if_pos c_1, if_pos c_3, if_neg c_5]; exact h_44), (fun q n0_ n1_ n2_ => (fr_42 q n0_).trans ((fr_36 q n2_).trans ((fr_31 q n1_))))⟩ d_Statement_addCondition_74
    · have i_45 := mt Int32.lt_iff_toInt_lt.mpr c_3
      rw [show (7 : Int32).toInt = 7 from rfl] at i_45
      refine V.go (pc' := 26) (lv_iconst (v := (-1)) X.1 X.2.1 d_Statement_addCondition_25 (by decide)) ?_
      exact V.iret X hr hlk ⟨(by simp only [sp_addCondition, if_pos c_1, if_neg c_3]), (by simp only [sp_addCondition_sm_4, sp_addCondition_sm_5, if_pos c_1, if_neg c_3]; exact gh0), (by simp only [sp_addCondition_acc, if_pos c_1, if_neg c_3]; exact gh1), (by simp only [sp_addCondition_acv, if_pos c_1, if_neg c_3]; exact gh2), (fun q n0_ n1_ n2_ => rfl)⟩ d_Statement_addCondition_26
  · have i_46 := mt Int32.toInt_inj.mp c_1
    rw [show (2 : Int32).toInt = 2 from rfl] at i_46
    refine V.rd (pc' := 9) (fun hl => lv_aload_n X.1 X.2.1 d_Statement_addCondition_8 rfl (lv_at hl 0 rfl)) ?_
    refine V.get (pc' := 12) X hK gh0 uw_Statement rfl 2 (by decide) (mcs wd_17) rfl d_Statement_addCondition_9 rfl ?_
    refine V.go (pc' := 13) (lv_iconst (v := 3) X.1 X.2.1 d_Statement_addCondition_12 (by decide)) ?_
    refine V.bn (pc' := 16) (tgt := 25) (P := sk = 3) (lv_icmp_ne X.1 X.2.1 d_Statement_addCondition_13 (by decide)) (fun c_47 => ?_) (fun c_47 => ?_)
    · have i_48 := congrArg Int32.toInt c_47
      rw [show (3 : Int32).toInt = 3 from rfl] at i_48
      refine V.rd (pc' := 17) (fun hl => lv_aload_n X.1 X.2.1 d_Statement_addCondition_16 rfl (lv_at hl 0 rfl)) ?_
      refine V.get (pc' := 20) X hK gh0 uw_Statement rfl 5 (by decide) (mcs wd_18) rfl d_Statement_addCondition_17 rfl ?_
      refine V.go (pc' := 22) (lv_bipush (v := 7) X.1 X.2.1 d_Statement_addCondition_20 (by decide)) ?_
      refine V.br (pc' := 25) (tgt := 27) (P := sc < 7) (lv_icmp_lt X.1 X.2.1 d_Statement_addCondition_22 (by decide)) (fun c_49 => ?_) (fun c_49 => ?_)
      · have i_50 := Int32.lt_iff_toInt_lt.mp c_49
        rw [show (7 : Int32).toInt = 7 from rfl] at i_50
        refine V.rd (pc' := 28) (fun hl => lv_aload_n X.1 X.2.1 d_Statement_addCondition_27 rfl (lv_at hl 0 rfl)) ?_
        refine V.get (pc' := 31) X hK gh0 uw_Statement rfl 5 (by decide) (mcs wd_18) rfl d_Statement_addCondition_28 rfl ?_
        refine V.bn (pc' := 34) (tgt := 40) (P := sc = 0) (lv_if_ne X.1 X.2.1 d_Statement_addCondition_31 (by decide)) (fun c_51 => ?_) (fun c_51 => ?_)
        · have i_52 := congrArg Int32.toInt c_51
          rw [show (0 : Int32).toInt = 0 from rfl] at i_52
          refine V.rd (pc' := 35) (fun hl => lv_aload_n X.1 X.2.1 d_Statement_addCondition_34 rfl (lv_at hl 0 rfl)) ?_
          refine V.rd (pc' := 37) (fun hl => lv_iload X.1 X.2.1 d_Statement_addCondition_35 (lv_at hl 3 rfl)) ?_
          refine V.put (pc' := 40) X hK gh0 uw_Statement t_Statement tok_Statement nm_Statement rfl 4 (by decide) (mcs wd_33) rfl (nb_ok hb) (fb_ok hb) (Nat.le_of_ble_eq_true rfl) (fs' := [.int sf, .int sto, .int sk, .int sn, .int b, .int sc, .int sl, .ref acc, .ref acv, .ref alc, .ref afv, .ref als]) rfl d_Statement_addCondition_37 rfl (fun M_53 h_54 fr_55 => ?_)
          have h_56 : M_53 acc = some (.inl (cI, 7, .inl kc)) := (fr_55 _ (ne_k gh1 gh0 (i := 1007) (j := 4) rfl rfl (by decide))).trans gh1
          have h_57 : M_53 acv = some (.inl (cL, 7, .inr (.inl kv))) := (fr_55 _ (ne_k gh2 gh0 (i := 100007) (j := 4) rfl rfl (by decide))).trans gh2
          refine V.rd (pc' := 41) (fun hl => lv_aload_n X.1 X.2.1 d_Statement_addCondition_40 rfl (lv_at hl 0 rfl)) ?_
          refine V.get (pc' := 44) X hK h_54 uw_Statement rfl 7 (by decide) (mcs wd_20) rfl d_Statement_addCondition_41 rfl ?_
          refine V.rd (pc' := 45) (fun hl => lv_aload_n X.1 X.2.1 d_Statement_addCondition_44 rfl (lv_at hl 0 rfl)) ?_
          refine V.get (pc' := 48) X hK h_54 uw_Statement rfl 5 (by decide) (mcs wd_18) rfl d_Statement_addCondition_45 rfl ?_
          refine V.rd (pc' := 49) (fun hl => lv_iload_n X.1 X.2.1 d_Statement_addCondition_48 rfl (lv_at hl 1 rfl)) ?_
          refine V.iast (pc' := 50) X hK 0 h_56 rfl (vin (by omega) (by omega)) d_Statement_addCondition_49 rfl (fun M_58 h_59 fr_60 => ?_)
          have h_61 : M_58 acv = some (.inl (cL, 7, .inr (.inl kv))) := (fr_60 _ (ne_k h_57 h_56 (i := 100007) (j := 1007) rfl rfl (by decide))).trans h_57
          have h_62 : M_58 sm = some (.inr (4, [.int sf, .int sto, .int sk, .int sn, .int b, .int sc, .int sl, .ref acc, .ref acv, .ref alc, .ref afv, .ref als])) := (fr_60 _ (ne_k h_54 h_56 (i := 4) (j := 1007) rfl rfl (by decide))).trans h_54
          refine V.rd (pc' := 51) (fun hl => lv_aload_n X.1 X.2.1 d_Statement_addCondition_50 rfl (lv_at hl 0 rfl)) ?_
          refine V.get (pc' := 54) X hK h_62 uw_Statement rfl 8 (by decide) (mcs wd_26) rfl d_Statement_addCondition_51 rfl ?_
          refine V.rd (pc' := 55) (fun hl => lv_aload_n X.1 X.2.1 d_Statement_addCondition_54 rfl (lv_at hl 0 rfl)) ?_
          refine V.get (pc' := 58) X hK h_62 uw_Statement rfl 5 (by decide) (mcs wd_18) rfl d_Statement_addCondition_55 rfl ?_
          refine V.rd (pc' := 59) (fun hl => lv_lload_n X.1 X.2.1 d_Statement_addCondition_58 rfl (lv_at hl 2 rfl)) ?_
          refine V.last (pc' := 60) X hK 1 h_61 rfl (vin (by omega) (by omega)) d_Statement_addCondition_59 rfl (fun M_63 h_64 fr_65 => ?_)
          have h_66 : M_63 sm = some (.inr (4, [.int sf, .int sto, .int sk, .int sn, .int b, .int sc, .int sl, .ref acc, .ref acv, .ref alc, .ref afv, .ref als])) := (fr_65 _ (ne_k h_62 h_61 (i := 4) (j := 100007) rfl rfl (by decide))).trans h_62
          have h_67 : M_63 acc = some (.inl (cI, 7, .inl (upd kc sc.toNatClampNeg x))) := (fr_65 _ (ne_k h_59 h_61 (i := 1007) (j := 100007) rfl rfl (by decide))).trans h_59
          refine V.rd (pc' := 61) (fun hl => lv_aload_n X.1 X.2.1 d_Statement_addCondition_60 rfl (lv_at hl 0 rfl)) ?_
          refine V.go (pc' := 62) (lv_dup X.1 X.2.1 d_Statement_addCondition_61 rfl) ?_
          refine V.get (pc' := 65) X hK h_66 uw_Statement rfl 5 (by decide) (mcs wd_18) rfl d_Statement_addCondition_62 rfl ?_
          refine V.go (pc' := 66) (lv_iconst (v := 1) X.1 X.2.1 d_Statement_addCondition_65 (by decide)) ?_
          refine V.go (pc' := 67) (lv_iadd X.1 X.2.1 d_Statement_addCondition_66) ?_
          have s_68 : (sc + 1).toInt = sc.toInt + 1 := i32_add1 (by omega)
          refine V.put (pc' := 70) X hK h_66 uw_Statement t_Statement tok_Statement nm_Statement rfl 5 (by decide) (mcs wd_18) rfl rfl rfl (Nat.le_of_ble_eq_true rfl) (fs' := [.int sf, .int sto, .int sk, .int sn, .int b, .int (sc + 1), .int sl, .ref acc, .ref acv, .ref alc, .ref afv, .ref als]) rfl d_Statement_addCondition_67 rfl (fun M_69 h_70 fr_71 => ?_)
          have h_72 : M_69 acc = some (.inl (cI, 7, .inl (upd kc sc.toNatClampNeg x))) := (fr_71 _ (ne_k h_67 h_66 (i := 1007) (j := 4) rfl rfl (by decide))).trans h_67
          have h_73 : M_69 acv = some (.inl (cL, 7, .inr (.inl (vp_updL kv sc.toNatClampNeg y)))) := (fr_71 _ (ne_k h_64 h_66 (i := 100007) (j := 4) rfl rfl (by decide))).trans h_64
          refine V.rd (pc' := 71) (fun hl => lv_aload_n X.1 X.2.1 d_Statement_addCondition_70 rfl (lv_at hl 0 rfl)) ?_
          refine V.get (pc' := 74) X hK h_70 uw_Statement rfl 5 (by decide) (mcs wd_18) rfl d_Statement_addCondition_71 rfl ?_
          exact V.iret X hr hlk ⟨(by simp only [sp_addCondition, if_neg c_1, if_pos c_47, if_pos c_49, if_pos c_51]), (by simp only [sp_addCondition_sm_4, sp_addCondition_sm_5, if_neg c_1, if_pos c_47, if_pos c_49, if_pos c_51]; exact h_70), (by simp only [sp_addCondition_acc, if_neg c_1, if_pos c_47, if_pos c_49, if_pos c_51]; exact h_72), (by simp only [sp_addCondition_acv, if_neg c_1, if_pos c_47, if_pos c_49, if_pos c_51]; exact h_73), (fun q n0_ n1_ n2_ => (fr_71 q n0_).trans ((fr_65 q n2_).trans ((fr_60 q n1_).trans ((fr_55 q n0_)))))⟩ d_Statement_addCondition_74
        · have i_74 := mt Int32.toInt_inj.mp c_51
          rw [show (0 : Int32).toInt = 0 from rfl] at i_74
          refine V.rd (pc' := 41) (fun hl => lv_aload_n X.1 X.2.1 d_Statement_addCondition_40 rfl (lv_at hl 0 rfl)) ?_
          refine V.get (pc' := 44) X hK gh0 uw_Statement rfl 7 (by decide) (mcs wd_20) rfl d_Statement_addCondition_41 rfl ?_
          refine V.rd (pc' := 45) (fun hl => lv_aload_n X.1 X.2.1 d_Statement_addCondition_44 rfl (lv_at hl 0 rfl)) ?_
          refine V.get (pc' := 48) X hK gh0 uw_Statement rfl 5 (by decide) (mcs wd_18) rfl d_Statement_addCondition_45 rfl ?_
          refine V.rd (pc' := 49) (fun hl => lv_iload_n X.1 X.2.1 d_Statement_addCondition_48 rfl (lv_at hl 1 rfl)) ?_
          refine V.iast (pc' := 50) X hK 0 gh1 rfl (vin (by omega) (by omega)) d_Statement_addCondition_49 rfl (fun M_75 h_76 fr_77 => ?_)
          have h_78 : M_75 sm = some (.inr (4, [.int sf, .int sto, .int sk, .int sn, .int saf, .int sc, .int sl, .ref acc, .ref acv, .ref alc, .ref afv, .ref als])) := (fr_77 _ (ne_k gh0 gh1 (i := 4) (j := 1007) rfl rfl (by decide))).trans gh0
          have h_79 : M_75 acv = some (.inl (cL, 7, .inr (.inl kv))) := (fr_77 _ (ne_k gh2 gh1 (i := 100007) (j := 1007) rfl rfl (by decide))).trans gh2
          refine V.rd (pc' := 51) (fun hl => lv_aload_n X.1 X.2.1 d_Statement_addCondition_50 rfl (lv_at hl 0 rfl)) ?_
          refine V.get (pc' := 54) X hK h_78 uw_Statement rfl 8 (by decide) (mcs wd_26) rfl d_Statement_addCondition_51 rfl ?_
          refine V.rd (pc' := 55) (fun hl => lv_aload_n X.1 X.2.1 d_Statement_addCondition_54 rfl (lv_at hl 0 rfl)) ?_
          refine V.get (pc' := 58) X hK h_78 uw_Statement rfl 5 (by decide) (mcs wd_18) rfl d_Statement_addCondition_55 rfl ?_
          refine V.rd (pc' := 59) (fun hl => lv_lload_n X.1 X.2.1 d_Statement_addCondition_58 rfl (lv_at hl 2 rfl)) ?_
          refine V.last (pc' := 60) X hK 1 h_79 rfl (vin (by omega) (by omega)) d_Statement_addCondition_59 rfl (fun M_80 h_81 fr_82 => ?_)
          have h_83 : M_80 sm = some (.inr (4, [.int sf, .int sto, .int sk, .int sn, .int saf, .int sc, .int sl, .ref acc, .ref acv, .ref alc, .ref afv, .ref als])) := (fr_82 _ (ne_k h_78 h_79 (i := 4) (j := 100007) rfl rfl (by decide))).trans h_78
          have h_84 : M_80 acc = some (.inl (cI, 7, .inl (upd kc sc.toNatClampNeg x))) := (fr_82 _ (ne_k h_76 h_79 (i := 1007) (j := 100007) rfl rfl (by decide))).trans h_76
          refine V.rd (pc' := 61) (fun hl => lv_aload_n X.1 X.2.1 d_Statement_addCondition_60 rfl (lv_at hl 0 rfl)) ?_
          refine V.go (pc' := 62) (lv_dup X.1 X.2.1 d_Statement_addCondition_61 rfl) ?_
          refine V.get (pc' := 65) X hK h_83 uw_Statement rfl 5 (by decide) (mcs wd_18) rfl d_Statement_addCondition_62 rfl ?_
          refine V.go (pc' := 66) (lv_iconst (v := 1) X.1 X.2.1 d_Statement_addCondition_65 (by decide)) ?_
          refine V.go (pc' := 67) (lv_iadd X.1 X.2.1 d_Statement_addCondition_66) ?_
          have s_85 : (sc + 1).toInt = sc.toInt + 1 := i32_add1 (by omega)
          refine V.put (pc' := 70) X hK h_83 uw_Statement t_Statement tok_Statement nm_Statement rfl 5 (by decide) (mcs wd_18) rfl rfl rfl (Nat.le_of_ble_eq_true rfl) (fs' := [.int sf, .int sto, .int sk, .int sn, .int saf, .int (sc + 1), .int sl, .ref acc, .ref acv, .ref alc, .ref afv, .ref als]) rfl d_Statement_addCondition_67 rfl (fun M_86 h_87 fr_88 => ?_)
          have h_89 : M_86 acc = some (.inl (cI, 7, .inl (upd kc sc.toNatClampNeg x))) := (fr_88 _ (ne_k h_84 h_83 (i := 1007) (j := 4) rfl rfl (by decide))).trans h_84
          have h_90 : M_86 acv = some (.inl (cL, 7, .inr (.inl (vp_updL kv sc.toNatClampNeg y)))) := (fr_88 _ (ne_k h_81 h_83 (i := 100007) (j := 4) rfl rfl (by decide))).trans h_81
          refine V.rd (pc' := 71) (fun hl => lv_aload_n X.1 X.2.1 d_Statement_addCondition_70 rfl (lv_at hl 0 rfl)) ?_
          refine V.get (pc' := 74) X hK h_87 uw_Statement rfl 5 (by decide) (mcs wd_18) rfl d_Statement_addCondition_71 rfl ?_
          exact V.iret X hr hlk ⟨(by simp only [sp_addCondition, if_neg c_1, if_pos c_47, if_pos c_49, if_neg c_51]), (by simp only [sp_addCondition_sm_4, sp_addCondition_sm_5, if_neg c_1, if_pos c_47, if_pos c_49, if_neg c_51]; exact h_87), (by simp only [sp_addCondition_acc, if_neg c_1, if_pos c_47, if_pos c_49, if_neg c_51]; exact h_89), (by simp only [sp_addCondition_acv, if_neg c_1, if_pos c_47, if_pos c_49, if_neg c_51]; exact h_90), (fun q n0_ n1_ n2_ => (fr_88 q n0_).trans ((fr_82 q n2_).trans ((fr_77 q n1_))))⟩ d_Statement_addCondition_74
      · have i_91 := mt Int32.lt_iff_toInt_lt.mpr c_49
        rw [show (7 : Int32).toInt = 7 from rfl] at i_91
        refine V.go (pc' := 26) (lv_iconst (v := (-1)) X.1 X.2.1 d_Statement_addCondition_25 (by decide)) ?_
        exact V.iret X hr hlk ⟨(by simp only [sp_addCondition, if_neg c_1, if_pos c_47, if_neg c_49]), (by simp only [sp_addCondition_sm_4, sp_addCondition_sm_5, if_neg c_1, if_pos c_47, if_neg c_49]; exact gh0), (by simp only [sp_addCondition_acc, if_neg c_1, if_pos c_47, if_neg c_49]; exact gh1), (by simp only [sp_addCondition_acv, if_neg c_1, if_pos c_47, if_neg c_49]; exact gh2), (fun q n0_ n1_ n2_ => rfl)⟩ d_Statement_addCondition_26
    · have i_92 := mt Int32.toInt_inj.mp c_47
      rw [show (3 : Int32).toInt = 3 from rfl] at i_92
      refine V.go (pc' := 26) (lv_iconst (v := (-1)) X.1 X.2.1 d_Statement_addCondition_25 (by decide)) ?_
      exact V.iret X hr hlk ⟨(by simp only [sp_addCondition, if_neg c_1, if_neg c_47]), (by simp only [sp_addCondition_sm_4, sp_addCondition_sm_5, if_neg c_1, if_neg c_47]; exact gh0), (by simp only [sp_addCondition_acc, if_neg c_1, if_neg c_47]; exact gh1), (by simp only [sp_addCondition_acv, if_neg c_1, if_neg c_47]; exact gh2), (fun q n0_ n1_ n2_ => rfl)⟩ d_Statement_addCondition_26

theorem d_Statement_tellLevel_0 : decode prog_6_method_3_code 0 = .ok (.aload_n 0, 1) := by decide +kernel
theorem d_Statement_tellLevel_1 : decode prog_6_method_3_code 1 = .ok (.getfield 35, 3) := by decide +kernel
theorem d_Statement_tellLevel_4 : decode prog_6_method_3_code 4 = .ok (.iconst 3, 1) := by decide +kernel
theorem d_Statement_tellLevel_5 : decode prog_6_method_3_code 5 = .ok (.if_icmp .ne 24, 3) := by decide +kernel
theorem d_Statement_tellLevel_8 : decode prog_6_method_3_code 8 = .ok (.iload_n 1, 1) := by decide +kernel
theorem d_Statement_tellLevel_9 : decode prog_6_method_3_code 9 = .ok (.iconst 1, 1) := by decide +kernel
theorem d_Statement_tellLevel_10 : decode prog_6_method_3_code 10 = .ok (.if_icmp .lt 19, 3) := by decide +kernel
theorem d_Statement_tellLevel_13 : decode prog_6_method_3_code 13 = .ok (.iload_n 1, 1) := by decide +kernel
theorem d_Statement_tellLevel_14 : decode prog_6_method_3_code 14 = .ok (.aload_n 0, 1) := by decide +kernel
theorem d_Statement_tellLevel_15 : decode prog_6_method_3_code 15 = .ok (.getfield 48, 3) := by decide +kernel
theorem d_Statement_tellLevel_18 : decode prog_6_method_3_code 18 = .ok (.iconst 1, 1) := by decide +kernel
theorem d_Statement_tellLevel_19 : decode prog_6_method_3_code 19 = .ok (.iadd, 1) := by decide +kernel
theorem d_Statement_tellLevel_20 : decode prog_6_method_3_code 20 = .ok (.if_icmp .gt 9, 3) := by decide +kernel
theorem d_Statement_tellLevel_23 : decode prog_6_method_3_code 23 = .ok (.iload_n 1, 1) := by decide +kernel
theorem d_Statement_tellLevel_24 : decode prog_6_method_3_code 24 = .ok (.bipush 7, 2) := by decide +kernel
theorem d_Statement_tellLevel_26 : decode prog_6_method_3_code 26 = .ok (.if_icmp .le 5, 3) := by decide +kernel
theorem d_Statement_tellLevel_29 : decode prog_6_method_3_code 29 = .ok (.iconst (-1), 1) := by decide +kernel
theorem d_Statement_tellLevel_30 : decode prog_6_method_3_code 30 = .ok (.ireturn, 1) := by decide +kernel
theorem d_Statement_tellLevel_31 : decode prog_6_method_3_code 31 = .ok (.aload_n 0, 1) := by decide +kernel
theorem d_Statement_tellLevel_32 : decode prog_6_method_3_code 32 = .ok (.getfield 19, 3) := by decide +kernel
theorem d_Statement_tellLevel_35 : decode prog_6_method_3_code 35 = .ok (.iload_n 1, 1) := by decide +kernel
theorem d_Statement_tellLevel_36 : decode prog_6_method_3_code 36 = .ok (.iconst 1, 1) := by decide +kernel
theorem d_Statement_tellLevel_37 : decode prog_6_method_3_code 37 = .ok (.isub, 1) := by decide +kernel
theorem d_Statement_tellLevel_38 : decode prog_6_method_3_code 38 = .ok (.iload_n 2, 1) := by decide +kernel
theorem d_Statement_tellLevel_39 : decode prog_6_method_3_code 39 = .ok (.iastore, 1) := by decide +kernel
theorem d_Statement_tellLevel_40 : decode prog_6_method_3_code 40 = .ok (.aload_n 0, 1) := by decide +kernel
theorem d_Statement_tellLevel_41 : decode prog_6_method_3_code 41 = .ok (.getfield 22, 3) := by decide +kernel
theorem d_Statement_tellLevel_44 : decode prog_6_method_3_code 44 = .ok (.iload_n 1, 1) := by decide +kernel
theorem d_Statement_tellLevel_45 : decode prog_6_method_3_code 45 = .ok (.iconst 1, 1) := by decide +kernel
theorem d_Statement_tellLevel_46 : decode prog_6_method_3_code 46 = .ok (.isub, 1) := by decide +kernel
theorem d_Statement_tellLevel_47 : decode prog_6_method_3_code 47 = .ok (.lload_n 3, 1) := by decide +kernel
theorem d_Statement_tellLevel_48 : decode prog_6_method_3_code 48 = .ok (.lastore, 1) := by decide +kernel
theorem d_Statement_tellLevel_49 : decode prog_6_method_3_code 49 = .ok (.aload_n 0, 1) := by decide +kernel
theorem d_Statement_tellLevel_50 : decode prog_6_method_3_code 50 = .ok (.getfield 25, 3) := by decide +kernel
theorem d_Statement_tellLevel_53 : decode prog_6_method_3_code 53 = .ok (.iload_n 1, 1) := by decide +kernel
theorem d_Statement_tellLevel_54 : decode prog_6_method_3_code 54 = .ok (.iconst 1, 1) := by decide +kernel
theorem d_Statement_tellLevel_55 : decode prog_6_method_3_code 55 = .ok (.isub, 1) := by decide +kernel
theorem d_Statement_tellLevel_56 : decode prog_6_method_3_code 56 = .ok (.lload 5, 2) := by decide +kernel
theorem d_Statement_tellLevel_58 : decode prog_6_method_3_code 58 = .ok (.lastore, 1) := by decide +kernel
theorem d_Statement_tellLevel_59 : decode prog_6_method_3_code 59 = .ok (.aload_n 0, 1) := by decide +kernel
theorem d_Statement_tellLevel_60 : decode prog_6_method_3_code 60 = .ok (.aload_n 0, 1) := by decide +kernel
theorem d_Statement_tellLevel_61 : decode prog_6_method_3_code 61 = .ok (.getfield 48, 3) := by decide +kernel
theorem d_Statement_tellLevel_64 : decode prog_6_method_3_code 64 = .ok (.iload_n 1, 1) := by decide +kernel
theorem d_Statement_tellLevel_65 : decode prog_6_method_3_code 65 = .ok (.invokestatic 51, 3) := by decide +kernel
theorem d_Statement_tellLevel_68 : decode prog_6_method_3_code 68 = .ok (.putfield 48, 3) := by decide +kernel
theorem d_Statement_tellLevel_71 : decode prog_6_method_3_code 71 = .ok (.aload_n 0, 1) := by decide +kernel
theorem d_Statement_tellLevel_72 : decode prog_6_method_3_code 72 = .ok (.getfield 48, 3) := by decide +kernel
theorem d_Statement_tellLevel_75 : decode prog_6_method_3_code 75 = .ok (.ireturn, 1) := by decide +kernel

def sp_tellLevel (sk : Int32) (sl : Int32) (x : Int32) : Int32 := if sk = 3 then (if x < 1 then (-1) else if (sl + 1) < x then (-1) else if x ≤ 7 then imax sl x else (-1)) else (-1)
def sp_tellLevel_alc (sk : Int32) (sl : Int32) (lc : Nat → Int32) (x : Int32) (cx : Int32) : Nat → Int32 := if sk = 3 then (if x < 1 then lc else if (sl + 1) < x then lc else if x ≤ 7 then upd lc (x - 1).toNatClampNeg cx else lc) else lc
def sp_tellLevel_afv (sk : Int32) (sl : Int32) (fv : Nat → Int64) (x : Int32) (y : Int64) : Nat → Int64 := if sk = 3 then (if x < 1 then fv else if (sl + 1) < x then fv else if x ≤ 7 then vp_updL fv (x - 1).toNatClampNeg y else fv) else fv
def sp_tellLevel_als (sk : Int32) (sl : Int32) (lz : Nat → Int64) (x : Int32) (y2 : Int64) : Nat → Int64 := if sk = 3 then (if x < 1 then lz else if (sl + 1) < x then lz else if x ≤ 7 then vp_updL lz (x - 1).toNatClampNeg y2 else lz) else lz
def sp_tellLevel_sm_6 (sk : Int32) (sl : Int32) (x : Int32) : Int32 := if sk = 3 then (if x < 1 then sl else if (sl + 1) < x then sl else if x ≤ 7 then imax sl x else sl) else sl
set_option maxHeartbeats 4000000 in
set_option maxRecDepth 100000 in
theorem c_tellLevel {l : Launch} {H0 : Heap} {D : va_G} {cI cL cQ cB : ClassId} {M : mp} {sm acc acv alc afv als : Nat} {sf : Int32} {sto : Int32} {sk : Int32} {sn : Int32} {saf : Int32} {sc : Int32} {sl : Int32} {lc : Nat → Int32} {fv : Nat → Int64} {lz : Nat → Int64} {x : Int32} {cx : Int32} {y : Int64} {y2 : Int64} (hsl : sl.toInt ≤ 7) (ne0 : afv ≠ als) (gh0 : M sm = some (.inr (4, [.int sf, .int sto, .int sk, .int sn, .int saf, .int sc, .int sl, .ref acc, .ref acv, .ref alc, .ref afv, .ref als]))) (gh1 : M alc = some (.inl (cI, 7, .inl lc))) (gh2 : M afv = some (.inl (cL, 7, .inr (.inl fv)))) (gh3 : M als = some (.inl (cL, 7, .inr (.inl lz)))) : MC l H0 D cls7 (tysOf cI cL cQ cB) NW ({ cls := "PerformRanges$Statement", name := "tellLevel", desc := "(IIJJ)I" } : Jvm.MethodName) (Cond.code ({ cls := "PerformRanges$Statement", name := "tellLevel", desc := "(IIJJ)I" } : Jvm.MethodName) prog_6_method_3_code 7 (Option.some Jvm.ClassFile.FieldType.int) :: GW) ({ frames := 1, cells := 0, slots := 0, locals := 21 }) [.ref sm, .int x, .int cx, .long y, .long y2] M (fun v M' => v = some (.int (sp_tellLevel sk sl x)) ∧ M' alc = some (.inl (cI, 7, .inl (sp_tellLevel_alc sk sl lc x cx))) ∧ M' afv = some (.inl (cL, 7, .inr (.inl (sp_tellLevel_afv sk sl fv x y)))) ∧ M' als = some (.inl (cL, 7, .inr (.inl (sp_tellLevel_als sk sl lz x y2)))) ∧ M' sm = some (.inr (4, [.int sf, .int sto, .int sk, .int sn, .int saf, .int sc, .int (sp_tellLevel_sm_6 sk sl x), .ref acc, .ref acv, .ref alc, .ref afv, .ref als])) ∧ (∀ q, q ≠ alc → q ≠ afv → q ≠ als → q ≠ sm → M' q = M q)) := by
  refine MC.of (cc := prog_6_method_3_code) (nL := 7) (ret := (Option.some Jvm.ClassFile.FieldType.int)) (lv := [(0, .ref sm), (1, .int x), (2, .int cx), (3, .long y), (5, .long y2)]) (by decide) rfl (Nat.le_of_ble_eq_true rfl) rfl ?_
  intro p e s m below meth c X hr hlk hnm hK
  refine V.rd (pc' := 1) (fun hl => lv_aload_n X.1 X.2.1 d_Statement_tellLevel_0 rfl (lv_at hl 0 rfl)) ?_
  refine V.get (pc' := 4) X hK gh0 uw_Statement rfl 2 (by decide) (mcs wd_17) rfl d_Statement_tellLevel_1 rfl ?_
  refine V.go (pc' := 5) (lv_iconst (v := 3) X.1 X.2.1 d_Statement_tellLevel_4 (by decide)) ?_
  refine V.bn (pc' := 8) (tgt := 29) (P := sk = 3) (lv_icmp_ne X.1 X.2.1 d_Statement_tellLevel_5 (by decide)) (fun c_1 => ?_) (fun c_1 => ?_)
  · have i_2 := congrArg Int32.toInt c_1
    rw [show (3 : Int32).toInt = 3 from rfl] at i_2
    refine V.rd (pc' := 9) (fun hl => lv_iload_n X.1 X.2.1 d_Statement_tellLevel_8 rfl (lv_at hl 1 rfl)) ?_
    refine V.go (pc' := 10) (lv_iconst (v := 1) X.1 X.2.1 d_Statement_tellLevel_9 (by decide)) ?_
    refine V.br (pc' := 13) (tgt := 29) (P := x < 1) (lv_icmp_lt X.1 X.2.1 d_Statement_tellLevel_10 (by decide)) (fun c_3 => ?_) (fun c_3 => ?_)
    · have i_4 := Int32.lt_iff_toInt_lt.mp c_3
      rw [show (1 : Int32).toInt = 1 from rfl] at i_4
      refine V.go (pc' := 30) (lv_iconst (v := (-1)) X.1 X.2.1 d_Statement_tellLevel_29 (by decide)) ?_
      exact V.iret X hr hlk ⟨(by simp only [sp_tellLevel, if_pos c_1, if_pos c_3]), (by simp only [sp_tellLevel_alc, if_pos c_1, if_pos c_3]; exact gh1), (by simp only [sp_tellLevel_afv, if_pos c_1, if_pos c_3]; exact gh2), (by simp only [sp_tellLevel_als, if_pos c_1, if_pos c_3]; exact gh3), (by simp only [sp_tellLevel_sm_6, if_pos c_1, if_pos c_3]; exact gh0), (fun q n0_ n1_ n2_ n3_ => rfl)⟩ d_Statement_tellLevel_30
    · have i_5 := mt Int32.lt_iff_toInt_lt.mpr c_3
      rw [show (1 : Int32).toInt = 1 from rfl] at i_5
      refine V.rd (pc' := 14) (fun hl => lv_iload_n X.1 X.2.1 d_Statement_tellLevel_13 rfl (lv_at hl 1 rfl)) ?_
      refine V.rd (pc' := 15) (fun hl => lv_aload_n X.1 X.2.1 d_Statement_tellLevel_14 rfl (lv_at hl 0 rfl)) ?_
      refine V.get (pc' := 18) X hK gh0 uw_Statement rfl 6 (by decide) (mcs wd_19) rfl d_Statement_tellLevel_15 rfl ?_
      refine V.go (pc' := 19) (lv_iconst (v := 1) X.1 X.2.1 d_Statement_tellLevel_18 (by decide)) ?_
      refine V.go (pc' := 20) (lv_iadd X.1 X.2.1 d_Statement_tellLevel_19) ?_
      have s_6 : (sl + 1).toInt = sl.toInt + 1 := i32_add1 (by omega)
      refine V.br (pc' := 23) (tgt := 29) (P := (sl + 1) < x) (lv_icmp_gt X.1 X.2.1 d_Statement_tellLevel_20 (by decide)) (fun c_7 => ?_) (fun c_7 => ?_)
      · have i_8 := Int32.lt_iff_toInt_lt.mp c_7
        refine V.go (pc' := 30) (lv_iconst (v := (-1)) X.1 X.2.1 d_Statement_tellLevel_29 (by decide)) ?_
        exact V.iret X hr hlk ⟨(by simp only [sp_tellLevel, if_pos c_1, if_neg c_3, if_pos c_7]), (by simp only [sp_tellLevel_alc, if_pos c_1, if_neg c_3, if_pos c_7]; exact gh1), (by simp only [sp_tellLevel_afv, if_pos c_1, if_neg c_3, if_pos c_7]; exact gh2), (by simp only [sp_tellLevel_als, if_pos c_1, if_neg c_3, if_pos c_7]; exact gh3), (by simp only [sp_tellLevel_sm_6, if_pos c_1, if_neg c_3, if_pos c_7]; exact gh0), (fun q n0_ n1_ n2_ n3_ => rfl)⟩ d_Statement_tellLevel_30
      · have i_9 := mt Int32.lt_iff_toInt_lt.mpr c_7
        refine V.rd (pc' := 24) (fun hl => lv_iload_n X.1 X.2.1 d_Statement_tellLevel_23 rfl (lv_at hl 1 rfl)) ?_
        refine V.go (pc' := 26) (lv_bipush (v := 7) X.1 X.2.1 d_Statement_tellLevel_24 (by decide)) ?_
        refine V.br (pc' := 29) (tgt := 31) (P := x ≤ 7) (lv_icmp_le X.1 X.2.1 d_Statement_tellLevel_26 (by decide)) (fun c_10 => ?_) (fun c_10 => ?_)
        · have i_11 := Int32.le_iff_toInt_le.mp c_10
          rw [show (7 : Int32).toInt = 7 from rfl] at i_11
          refine V.rd (pc' := 32) (fun hl => lv_aload_n X.1 X.2.1 d_Statement_tellLevel_31 rfl (lv_at hl 0 rfl)) ?_
          refine V.get (pc' := 35) X hK gh0 uw_Statement rfl 9 (by decide) (mcs wd_27) rfl d_Statement_tellLevel_32 rfl ?_
          refine V.rd (pc' := 36) (fun hl => lv_iload_n X.1 X.2.1 d_Statement_tellLevel_35 rfl (lv_at hl 1 rfl)) ?_
          refine V.go (pc' := 37) (lv_iconst (v := 1) X.1 X.2.1 d_Statement_tellLevel_36 (by decide)) ?_
          refine V.go (pc' := 38) (lv_isub X.1 X.2.1 d_Statement_tellLevel_37) ?_
          have s_12 : (x - 1).toInt = x.toInt - 1 := i32_sub1 (by omega)
          refine V.rd (pc' := 39) (fun hl => lv_iload_n X.1 X.2.1 d_Statement_tellLevel_38 rfl (lv_at hl 2 rfl)) ?_
          refine V.iast (pc' := 40) X hK 0 gh1 rfl (vin (by omega) (by omega)) d_Statement_tellLevel_39 rfl (fun M_13 h_14 fr_15 => ?_)
          have h_16 : M_13 sm = some (.inr (4, [.int sf, .int sto, .int sk, .int sn, .int saf, .int sc, .int sl, .ref acc, .ref acv, .ref alc, .ref afv, .ref als])) := (fr_15 _ (ne_k gh0 gh1 (i := 4) (j := 1007) rfl rfl (by decide))).trans gh0
          have h_17 : M_13 afv = some (.inl (cL, 7, .inr (.inl fv))) := (fr_15 _ (ne_k gh2 gh1 (i := 100007) (j := 1007) rfl rfl (by decide))).trans gh2
          have h_18 : M_13 als = some (.inl (cL, 7, .inr (.inl lz))) := (fr_15 _ (ne_k gh3 gh1 (i := 100007) (j := 1007) rfl rfl (by decide))).trans gh3
          refine V.rd (pc' := 41) (fun hl => lv_aload_n X.1 X.2.1 d_Statement_tellLevel_40 rfl (lv_at hl 0 rfl)) ?_
          refine V.get (pc' := 44) X hK h_16 uw_Statement rfl 10 (by decide) (mcs wd_34) rfl d_Statement_tellLevel_41 rfl ?_
          refine V.rd (pc' := 45) (fun hl => lv_iload_n X.1 X.2.1 d_Statement_tellLevel_44 rfl (lv_at hl 1 rfl)) ?_
          refine V.go (pc' := 46) (lv_iconst (v := 1) X.1 X.2.1 d_Statement_tellLevel_45 (by decide)) ?_
          refine V.go (pc' := 47) (lv_isub X.1 X.2.1 d_Statement_tellLevel_46) ?_
          have s_19 : (x - 1).toInt = x.toInt - 1 := i32_sub1 (by omega)
          refine V.rd (pc' := 48) (fun hl => lv_lload_n X.1 X.2.1 d_Statement_tellLevel_47 rfl (lv_at hl 3 rfl)) ?_
          refine V.last (pc' := 49) X hK 1 h_17 rfl (vin (by omega) (by omega)) d_Statement_tellLevel_48 rfl (fun M_20 h_21 fr_22 => ?_)
          have h_23 : M_20 sm = some (.inr (4, [.int sf, .int sto, .int sk, .int sn, .int saf, .int sc, .int sl, .ref acc, .ref acv, .ref alc, .ref afv, .ref als])) := (fr_22 _ (ne_k h_16 h_17 (i := 4) (j := 100007) rfl rfl (by decide))).trans h_16
          have h_24 : M_20 als = some (.inl (cL, 7, .inr (.inl lz))) := (fr_22 _ (Ne.symm ne0)).trans h_18
          have h_25 : M_20 alc = some (.inl (cI, 7, .inl (upd lc (x - 1).toNatClampNeg cx))) := (fr_22 _ (ne_k h_14 h_17 (i := 1007) (j := 100007) rfl rfl (by decide))).trans h_14
          refine V.rd (pc' := 50) (fun hl => lv_aload_n X.1 X.2.1 d_Statement_tellLevel_49 rfl (lv_at hl 0 rfl)) ?_
          refine V.get (pc' := 53) X hK h_23 uw_Statement rfl 11 (by decide) (mcs wd_28) rfl d_Statement_tellLevel_50 rfl ?_
          refine V.rd (pc' := 54) (fun hl => lv_iload_n X.1 X.2.1 d_Statement_tellLevel_53 rfl (lv_at hl 1 rfl)) ?_
          refine V.go (pc' := 55) (lv_iconst (v := 1) X.1 X.2.1 d_Statement_tellLevel_54 (by decide)) ?_
          refine V.go (pc' := 56) (lv_isub X.1 X.2.1 d_Statement_tellLevel_55) ?_
          have s_26 : (x - 1).toInt = x.toInt - 1 := i32_sub1 (by omega)
          refine V.rd (pc' := 58) (fun hl => lv_lload X.1 X.2.1 d_Statement_tellLevel_56 (lv_at hl 4 rfl)) ?_
          refine V.last (pc' := 59) X hK 1 h_24 rfl (vin (by omega) (by omega)) d_Statement_tellLevel_58 rfl (fun M_27 h_28 fr_29 => ?_)
          have h_30 : M_27 sm = some (.inr (4, [.int sf, .int sto, .int sk, .int sn, .int saf, .int sc, .int sl, .ref acc, .ref acv, .ref alc, .ref afv, .ref als])) := (fr_29 _ (ne_k h_23 h_24 (i := 4) (j := 100007) rfl rfl (by decide))).trans h_23
          have h_31 : M_27 alc = some (.inl (cI, 7, .inl (upd lc (x - 1).toNatClampNeg cx))) := (fr_29 _ (ne_k h_25 h_24 (i := 1007) (j := 100007) rfl rfl (by decide))).trans h_25
          have h_32 : M_27 afv = some (.inl (cL, 7, .inr (.inl (vp_updL fv (x - 1).toNatClampNeg y)))) := (fr_29 _ ne0).trans h_21
          refine V.rd (pc' := 60) (fun hl => lv_aload_n X.1 X.2.1 d_Statement_tellLevel_59 rfl (lv_at hl 0 rfl)) ?_
          refine V.rd (pc' := 61) (fun hl => lv_aload_n X.1 X.2.1 d_Statement_tellLevel_60 rfl (lv_at hl 0 rfl)) ?_
          refine V.get (pc' := 64) X hK h_30 uw_Statement rfl 6 (by decide) (mcs wd_19) rfl d_Statement_tellLevel_61 rfl ?_
          refine V.rd (pc' := 65) (fun hl => lv_iload_n X.1 X.2.1 d_Statement_tellLevel_64 rfl (lv_at hl 1 rfl)) ?_
          refine V.mmax (pc' := 68) X (mcs wd_35) (mcs wd_36) (mcs wd_37) (mcs wd_38) (Nat.le_of_ble_eq_true rfl) (by decide) (by decide) (by decide) (by decide) d_Statement_tellLevel_65 rfl ?_
          refine V.put (pc' := 71) X hK h_30 uw_Statement t_Statement tok_Statement nm_Statement rfl 6 (by decide) (mcs wd_19) rfl rfl rfl (Nat.le_of_ble_eq_true rfl) (fs' := [.int sf, .int sto, .int sk, .int sn, .int saf, .int sc, .int (imax sl x), .ref acc, .ref acv, .ref alc, .ref afv, .ref als]) rfl d_Statement_tellLevel_68 rfl (fun M_33 h_34 fr_35 => ?_)
          have h_36 : M_33 alc = some (.inl (cI, 7, .inl (upd lc (x - 1).toNatClampNeg cx))) := (fr_35 _ (ne_k h_31 h_30 (i := 1007) (j := 4) rfl rfl (by decide))).trans h_31
          have h_37 : M_33 afv = some (.inl (cL, 7, .inr (.inl (vp_updL fv (x - 1).toNatClampNeg y)))) := (fr_35 _ (ne_k h_32 h_30 (i := 100007) (j := 4) rfl rfl (by decide))).trans h_32
          have h_38 : M_33 als = some (.inl (cL, 7, .inr (.inl (vp_updL lz (x - 1).toNatClampNeg y2)))) := (fr_35 _ (ne_k h_28 h_30 (i := 100007) (j := 4) rfl rfl (by decide))).trans h_28
          refine V.rd (pc' := 72) (fun hl => lv_aload_n X.1 X.2.1 d_Statement_tellLevel_71 rfl (lv_at hl 0 rfl)) ?_
          refine V.get (pc' := 75) X hK h_34 uw_Statement rfl 6 (by decide) (mcs wd_19) rfl d_Statement_tellLevel_72 rfl ?_
          exact V.iret X hr hlk ⟨(by simp only [sp_tellLevel, if_pos c_1, if_neg c_3, if_neg c_7, if_pos c_10]), (by simp only [sp_tellLevel_alc, if_pos c_1, if_neg c_3, if_neg c_7, if_pos c_10]; exact h_36), (by simp only [sp_tellLevel_afv, if_pos c_1, if_neg c_3, if_neg c_7, if_pos c_10]; exact h_37), (by simp only [sp_tellLevel_als, if_pos c_1, if_neg c_3, if_neg c_7, if_pos c_10]; exact h_38), (by simp only [sp_tellLevel_sm_6, if_pos c_1, if_neg c_3, if_neg c_7, if_pos c_10]; exact h_34), (fun q n0_ n1_ n2_ n3_ => (fr_35 q n3_).trans ((fr_29 q n2_).trans ((fr_22 q n1_).trans ((fr_15 q n0_)))))⟩ d_Statement_tellLevel_75
        · have i_39 := mt Int32.le_iff_toInt_le.mpr c_10
          rw [show (7 : Int32).toInt = 7 from rfl] at i_39
          refine V.go (pc' := 30) (lv_iconst (v := (-1)) X.1 X.2.1 d_Statement_tellLevel_29 (by decide)) ?_
          exact V.iret X hr hlk ⟨(by simp only [sp_tellLevel, if_pos c_1, if_neg c_3, if_neg c_7, if_neg c_10]), (by simp only [sp_tellLevel_alc, if_pos c_1, if_neg c_3, if_neg c_7, if_neg c_10]; exact gh1), (by simp only [sp_tellLevel_afv, if_pos c_1, if_neg c_3, if_neg c_7, if_neg c_10]; exact gh2), (by simp only [sp_tellLevel_als, if_pos c_1, if_neg c_3, if_neg c_7, if_neg c_10]; exact gh3), (by simp only [sp_tellLevel_sm_6, if_pos c_1, if_neg c_3, if_neg c_7, if_neg c_10]; exact gh0), (fun q n0_ n1_ n2_ n3_ => rfl)⟩ d_Statement_tellLevel_30
  · have i_40 := mt Int32.toInt_inj.mp c_1
    rw [show (3 : Int32).toInt = 3 from rfl] at i_40
    refine V.go (pc' := 30) (lv_iconst (v := (-1)) X.1 X.2.1 d_Statement_tellLevel_29 (by decide)) ?_
    exact V.iret X hr hlk ⟨(by simp only [sp_tellLevel, if_neg c_1]), (by simp only [sp_tellLevel_alc, if_neg c_1]; exact gh1), (by simp only [sp_tellLevel_afv, if_neg c_1]; exact gh2), (by simp only [sp_tellLevel_als, if_neg c_1]; exact gh3), (by simp only [sp_tellLevel_sm_6, if_neg c_1]; exact gh0), (fun q n0_ n1_ n2_ n3_ => rfl)⟩ d_Statement_tellLevel_30

theorem d_Statement_takeFirstValues_0 : decode prog_6_method_12_code 0 = .ok (.iload_n 1, 1) := by decide +kernel
theorem d_Statement_takeFirstValues_1 : decode prog_6_method_12_code 1 = .ok (.iconst 1, 1) := by decide +kernel
theorem d_Statement_takeFirstValues_2 : decode prog_6_method_12_code 2 = .ok (.if_icmp .ge 4, 3) := by decide +kernel
theorem d_Statement_takeFirstValues_5 : decode prog_6_method_12_code 5 = .ok (.return_, 1) := by decide +kernel
theorem d_Statement_takeFirstValues_6 : decode prog_6_method_12_code 6 = .ok (.iload_n 1, 1) := by decide +kernel
theorem d_Statement_takeFirstValues_7 : decode prog_6_method_12_code 7 = .ok (.istore_n 3, 1) := by decide +kernel
theorem d_Statement_takeFirstValues_8 : decode prog_6_method_12_code 8 = .ok (.iload_n 3, 1) := by decide +kernel
theorem d_Statement_takeFirstValues_9 : decode prog_6_method_12_code 9 = .ok (.aload_n 0, 1) := by decide +kernel
theorem d_Statement_takeFirstValues_10 : decode prog_6_method_12_code 10 = .ok (.getfield 48, 3) := by decide +kernel
theorem d_Statement_takeFirstValues_13 : decode prog_6_method_12_code 13 = .ok (.if_icmp .gt 35, 3) := by decide +kernel
theorem d_Statement_takeFirstValues_16 : decode prog_6_method_12_code 16 = .ok (.iload_n 3, 1) := by decide +kernel
theorem d_Statement_takeFirstValues_17 : decode prog_6_method_12_code 17 = .ok (.bipush 7, 2) := by decide +kernel
theorem d_Statement_takeFirstValues_19 : decode prog_6_method_12_code 19 = .ok (.if_icmp .gt 29, 3) := by decide +kernel
theorem d_Statement_takeFirstValues_22 : decode prog_6_method_12_code 22 = .ok (.aload_n 2, 1) := by decide +kernel
theorem d_Statement_takeFirstValues_23 : decode prog_6_method_12_code 23 = .ok (.aload_n 0, 1) := by decide +kernel
theorem d_Statement_takeFirstValues_24 : decode prog_6_method_12_code 24 = .ok (.getfield 19, 3) := by decide +kernel
theorem d_Statement_takeFirstValues_27 : decode prog_6_method_12_code 27 = .ok (.iload_n 3, 1) := by decide +kernel
theorem d_Statement_takeFirstValues_28 : decode prog_6_method_12_code 28 = .ok (.iconst 1, 1) := by decide +kernel
theorem d_Statement_takeFirstValues_29 : decode prog_6_method_12_code 29 = .ok (.isub, 1) := by decide +kernel
theorem d_Statement_takeFirstValues_30 : decode prog_6_method_12_code 30 = .ok (.iaload, 1) := by decide +kernel
theorem d_Statement_takeFirstValues_31 : decode prog_6_method_12_code 31 = .ok (.aload_n 0, 1) := by decide +kernel
theorem d_Statement_takeFirstValues_32 : decode prog_6_method_12_code 32 = .ok (.getfield 22, 3) := by decide +kernel
theorem d_Statement_takeFirstValues_35 : decode prog_6_method_12_code 35 = .ok (.iload_n 3, 1) := by decide +kernel
theorem d_Statement_takeFirstValues_36 : decode prog_6_method_12_code 36 = .ok (.iconst 1, 1) := by decide +kernel
theorem d_Statement_takeFirstValues_37 : decode prog_6_method_12_code 37 = .ok (.isub, 1) := by decide +kernel
theorem d_Statement_takeFirstValues_38 : decode prog_6_method_12_code 38 = .ok (.laload, 1) := by decide +kernel
theorem d_Statement_takeFirstValues_39 : decode prog_6_method_12_code 39 = .ok (.invokevirtual 89, 3) := by decide +kernel
theorem d_Statement_takeFirstValues_42 : decode prog_6_method_12_code 42 = .ok (.iinc 3 1, 3) := by decide +kernel
theorem d_Statement_takeFirstValues_45 : decode prog_6_method_12_code 45 = .ok (.goto (-37), 3) := by decide +kernel
theorem d_Statement_takeFirstValues_48 : decode prog_6_method_12_code 48 = .ok (.return_, 1) := by decide +kernel

def lp_takeFirstValues_va (sl : Int32) (lc : Nat → Int32) (fv : Nat → Int64) : Nat → Int32 → (Nat → Int64) → Nat → Int64
  | 0, _, g => g
  | n_ + 1, k, g => if sl < k then g else if 7 < k then g else lp_takeFirstValues_va sl lc fv n_ (k + 1) (sp_Cells_become_va g (lc (k - 1).toNatClampNeg) (fv (k - 1).toNatClampNeg))
def sp_takeFirstValues_va (sl : Int32) (lc : Nat → Int32) (fv : Nat → Int64) (f : Nat → Int64) (x : Int32) : Nat → Int64 := if 1 ≤ x then lp_takeFirstValues_va sl lc fv 9 x f else f
set_option maxHeartbeats 4000000 in
set_option maxRecDepth 100000 in
theorem c_takeFirstValues {l : Launch} {H0 : Heap} {D : va_G} {cI cL cQ cB : ClassId} {M : mp} {sm acc acv alc afv als ce va : Nat} {sf : Int32} {sto : Int32} {sk : Int32} {sn : Int32} {saf : Int32} {sc : Int32} {sl : Int32} {lc : Nat → Int32} {fv : Nat → Int64} {f : Nat → Int64} {x : Int32} (gh0 : M sm = some (.inr (4, [.int sf, .int sto, .int sk, .int sn, .int saf, .int sc, .int sl, .ref acc, .ref acv, .ref alc, .ref afv, .ref als]))) (gh1 : M alc = some (.inl (cI, 7, .inl lc))) (gh2 : M afv = some (.inl (cL, 7, .inr (.inl fv)))) (gh3 : M ce = some (.inr (0, [.ref va]))) (gh4 : M va = some (.inl (cL, 16, .inr (.inl f)))) : MC l H0 D cls7 (tysOf cI cL cQ cB) NW ({ cls := "PerformRanges$Statement", name := "takeFirstValues", desc := "(ILPerformRanges$Cells;)V" } : Jvm.MethodName) (Cond.code ({ cls := "PerformRanges$Statement", name := "takeFirstValues", desc := "(ILPerformRanges$Cells;)V" } : Jvm.MethodName) prog_6_method_12_code 4 (Option.none : Option Jvm.ClassFile.FieldType) :: GW) ({ frames := 1, cells := 0, slots := 0, locals := 23 }) [.ref sm, .int x, .ref ce] M (fun v M' => v = none ∧ M' va = some (.inl (cL, 16, .inr (.inl (sp_takeFirstValues_va sl lc fv f x)))) ∧ (∀ q, q ≠ va → M' q = M q)) := by
  refine MC.of (cc := prog_6_method_12_code) (nL := 4) (ret := (Option.none : Option Jvm.ClassFile.FieldType)) (lv := [(0, .ref sm), (1, .int x), (2, .ref ce)]) (by decide) rfl (Nat.le_of_ble_eq_true rfl) rfl ?_
  intro p e s m below meth c X hr hlk hnm hK
  refine V.rd (pc' := 1) (fun hl => lv_iload_n X.1 X.2.1 d_Statement_takeFirstValues_0 rfl (lv_at hl 1 rfl)) ?_
  refine V.go (pc' := 2) (lv_iconst (v := 1) X.1 X.2.1 d_Statement_takeFirstValues_1 (by decide)) ?_
  refine V.br (pc' := 5) (tgt := 6) (P := 1 ≤ x) (lv_icmp_ge X.1 X.2.1 d_Statement_takeFirstValues_2 (by decide)) (fun c_1 => ?_) (fun c_1 => ?_)
  · have i_2 := Int32.le_iff_toInt_le.mp c_1
    rw [show (1 : Int32).toInt = 1 from rfl] at i_2
    refine V.rd (pc' := 7) (fun hl => lv_iload_n X.1 X.2.1 d_Statement_takeFirstValues_6 rfl (lv_at hl 1 rfl)) ?_
    refine V.wr (pc' := 8) (lv' := [(3, .int x), (0, .ref sm), (1, .int x), (2, .ref ce)]) (fun hl => lv_istore_n X.1 X.2.1 d_Statement_takeFirstValues_7 rfl hl (by decide) rfl) ?_
    obtain ⟨ze_14, hze_14⟩ : ∃ z, z = lp_takeFirstValues_va sl lc fv 9 x f := ⟨_, rfl⟩
    refine V.pick [1, 2, 3, 0] rfl ?_
    refine V.ind (α := Unit) (x0 := ()) (n0 := 9) (I := fun nn_ _ M' lv' => ∃ (k : Int32) (g : Nat → Int64), lv' = [(0, .ref sm), (1, .int x), (2, .ref ce), (3, .int k)] ∧ M' sm = some (.inr (4, [.int sf, .int sto, .int sk, .int sn, .int saf, .int sc, .int sl, .ref acc, .ref acv, .ref alc, .ref afv, .ref als])) ∧ M' alc = some (.inl (cI, 7, .inl lc)) ∧ M' afv = some (.inl (cL, 7, .inr (.inl fv))) ∧ M' ce = some (.inr (0, [.ref va])) ∧ M' va = some (.inl (cL, 16, .inr (.inl g))) ∧ (∀ q, q ≠ va → M' q = M q) ∧ (1 ≤ k.toInt) ∧ (9 ≤ k.toInt + nn_ ∧ 1 ≤ nn_) ∧ lp_takeFirstValues_va sl lc fv nn_ k g = ze_14) ⟨x, f, rfl, gh0, gh1, gh2, gh3, gh4, (fun q _ => rfl), (by first | omega | with_reducible assumption | (have z0_ : (0 : Int32).toInt = 0 := rfl; have z1_ : (1 : Int32).toInt = 1 := rfl; omega)), (by first | omega | with_reducible assumption | (have z0_ : (0 : Int32).toInt = 0 := rfl; have z1_ : (1 : Int32).toInt = 1 := rfl; omega)), hze_14.symm⟩ (fun n_9 ih_10 _ M_8 lv_11 hI_12 => ?_)
    obtain ⟨k, g, rfl, h_3, h_4, h_5, h_6, h_7, fr_13, j1, j2, e_14⟩ := hI_12
    obtain ⟨n_9, rfl⟩ : ∃ j, n_9 = j + 1 := ⟨n_9 - 1, by omega⟩
    refine V.rd (pc' := 9) (fun hl => lv_iload_n X.1 X.2.1 d_Statement_takeFirstValues_8 rfl (lv_at hl 3 rfl)) ?_
    refine V.rd (pc' := 10) (fun hl => lv_aload_n X.1 X.2.1 d_Statement_takeFirstValues_9 rfl (lv_at hl 0 rfl)) ?_
    refine V.get (pc' := 13) X hK h_3 uw_Statement rfl 6 (by decide) (mcs wd_19) rfl d_Statement_takeFirstValues_10 rfl ?_
    refine V.br (pc' := 16) (tgt := 48) (P := sl < k) (lv_icmp_gt X.1 X.2.1 d_Statement_takeFirstValues_13 (by decide)) (fun c_15 => ?_) (fun c_15 => ?_)
    · have i_16 := Int32.lt_iff_toInt_lt.mp c_15
      rw [lp_takeFirstValues_va] at e_14
      simp only [if_pos c_15] at e_14
      exact V.vret X hr hlk ⟨rfl, (by simp only [sp_takeFirstValues_va, if_pos c_1]; rw [← hze_14, ← e_14]; exact h_7), (fun q n0_ => (fr_13 q n0_))⟩ d_Statement_takeFirstValues_48
    · have i_17 := mt Int32.lt_iff_toInt_lt.mpr c_15
      refine V.rd (pc' := 17) (fun hl => lv_iload_n X.1 X.2.1 d_Statement_takeFirstValues_16 rfl (lv_at hl 3 rfl)) ?_
      refine V.go (pc' := 19) (lv_bipush (v := 7) X.1 X.2.1 d_Statement_takeFirstValues_17 (by decide)) ?_
      refine V.br (pc' := 22) (tgt := 48) (P := 7 < k) (lv_icmp_gt X.1 X.2.1 d_Statement_takeFirstValues_19 (by decide)) (fun c_18 => ?_) (fun c_18 => ?_)
      · have i_19 := Int32.lt_iff_toInt_lt.mp c_18
        rw [show (7 : Int32).toInt = 7 from rfl] at i_19
        rw [lp_takeFirstValues_va] at e_14
        simp only [if_neg c_15, if_pos c_18] at e_14
        exact V.vret X hr hlk ⟨rfl, (by simp only [sp_takeFirstValues_va, if_pos c_1]; rw [← hze_14, ← e_14]; exact h_7), (fun q n0_ => (fr_13 q n0_))⟩ d_Statement_takeFirstValues_48
      · have i_20 := mt Int32.lt_iff_toInt_lt.mpr c_18
        rw [show (7 : Int32).toInt = 7 from rfl] at i_20
        refine V.rd (pc' := 23) (fun hl => lv_aload_n X.1 X.2.1 d_Statement_takeFirstValues_22 rfl (lv_at hl 2 rfl)) ?_
        refine V.rd (pc' := 24) (fun hl => lv_aload_n X.1 X.2.1 d_Statement_takeFirstValues_23 rfl (lv_at hl 0 rfl)) ?_
        refine V.get (pc' := 27) X hK h_3 uw_Statement rfl 9 (by decide) (mcs wd_27) rfl d_Statement_takeFirstValues_24 rfl ?_
        refine V.rd (pc' := 28) (fun hl => lv_iload_n X.1 X.2.1 d_Statement_takeFirstValues_27 rfl (lv_at hl 3 rfl)) ?_
        refine V.go (pc' := 29) (lv_iconst (v := 1) X.1 X.2.1 d_Statement_takeFirstValues_28 (by decide)) ?_
        refine V.go (pc' := 30) (lv_isub X.1 X.2.1 d_Statement_takeFirstValues_29) ?_
        have s_21 : (k - 1).toInt = k.toInt - 1 := i32_sub1 (by omega)
        refine V.iald (pc' := 31) X hK 0 h_4 rfl (vin (by omega) (by omega)) d_Statement_takeFirstValues_30 rfl ?_
        refine V.rd (pc' := 32) (fun hl => lv_aload_n X.1 X.2.1 d_Statement_takeFirstValues_31 rfl (lv_at hl 0 rfl)) ?_
        refine V.get (pc' := 35) X hK h_3 uw_Statement rfl 10 (by decide) (mcs wd_34) rfl d_Statement_takeFirstValues_32 rfl ?_
        refine V.rd (pc' := 36) (fun hl => lv_iload_n X.1 X.2.1 d_Statement_takeFirstValues_35 rfl (lv_at hl 3 rfl)) ?_
        refine V.go (pc' := 37) (lv_iconst (v := 1) X.1 X.2.1 d_Statement_takeFirstValues_36 (by decide)) ?_
        refine V.go (pc' := 38) (lv_isub X.1 X.2.1 d_Statement_takeFirstValues_37) ?_
        have s_22 : (k - 1).toInt = k.toInt - 1 := i32_sub1 (by omega)
        refine V.lald (pc' := 39) X hK 1 h_5 rfl (vin (by omega) (by omega)) d_Statement_takeFirstValues_38 rfl ?_
        refine V.callV (pc' := 42) X hK (c_Cells_become  (ce := ce) (va := va) (f := g) (x := lc (k - 1).toNatClampNeg) (y := fv (k - 1).toNatClampNeg)   h_6 h_7  ) h_6 rfl (cwG (n := 2) X (mcs wd_39) (mcs wd_40) (mcs wd_41) (mcs wd_24) wd_42 (by decide +kernel) (by decide) (by decide)) rfl rfl (Nat.le_of_ble_eq_true rfl) d_Statement_takeFirstValues_39 ⟨by decide, by decide⟩ rfl (st1 := []) rfl (fun M_23 ⟨h_24, fr_25⟩ => ?_)
        have h_26 : M_23 sm = some (.inr (4, [.int sf, .int sto, .int sk, .int sn, .int saf, .int sc, .int sl, .ref acc, .ref acv, .ref alc, .ref afv, .ref als])) := (fr_25 _ (ne_k h_3 h_7 (i := 4) (j := 100016) rfl rfl (by decide))).trans h_3
        have h_27 : M_23 alc = some (.inl (cI, 7, .inl lc)) := (fr_25 _ (ne_k h_4 h_7 (i := 1007) (j := 100016) rfl rfl (by decide))).trans h_4
        have h_28 : M_23 afv = some (.inl (cL, 7, .inr (.inl fv))) := (fr_25 _ (ne_k h_5 h_7 (i := 100007) (j := 100016) rfl rfl (by decide))).trans h_5
        have h_29 : M_23 ce = some (.inr (0, [.ref va])) := (fr_25 _ (ne_k h_6 h_7 (i := 0) (j := 100016) rfl rfl (by decide))).trans h_6
        refine V.wr (pc' := 45) (lv' := [(3, .int (k + 1)), (0, .ref sm), (1, .int x), (2, .ref ce)]) (fun hl => lv_iinc (k := 3) (v := k + 1) X.1 X.2.1 d_Statement_takeFirstValues_42 hl rfl rfl (by decide) rfl) ?_
        have s_30 : (k + 1).toInt = k.toInt + (1) := i32_add1 (by omega)
        refine V.go (pc' := 8) (lv_goto X.1 X.2.1 d_Statement_takeFirstValues_45 (by decide)) ?_
        refine V.pick [1, 2, 3, 0] rfl ?_
        exact ih_10 n_9 (by omega) () _ _ ⟨(k + 1), (sp_Cells_become_va g (lc (k - 1).toNatClampNeg) (fv (k - 1).toNatClampNeg)), rfl, h_26, h_27, h_28, h_29, h_24, (fun q n0_ => (fr_25 q n0_).trans ((fr_13 q n0_))), (by first | omega | with_reducible assumption | (have z0_ : (0 : Int32).toInt = 0 := rfl; have z1_ : (1 : Int32).toInt = 1 := rfl; omega)), (by first | omega | with_reducible assumption | (have z0_ : (0 : Int32).toInt = 0 := rfl; have z1_ : (1 : Int32).toInt = 1 := rfl; omega)), (by rw [← e_14, lp_takeFirstValues_va]; simp only [if_neg c_15, if_neg c_18])⟩
  · have i_31 := mt Int32.le_iff_toInt_le.mpr c_1
    rw [show (1 : Int32).toInt = 1 from rfl] at i_31
    exact V.vret X hr hlk ⟨rfl, (by simp only [sp_takeFirstValues_va, if_neg c_1]; exact gh4), (fun q n0_ => rfl)⟩ d_Statement_takeFirstValues_5

theorem d_Statement_firstLevelThatHolds_0 : decode prog_6_method_8_code 0 = .ok (.iconst 1, 1) := by decide +kernel
theorem d_Statement_firstLevelThatHolds_1 : decode prog_6_method_8_code 1 = .ok (.istore_n 2, 1) := by decide +kernel
theorem d_Statement_firstLevelThatHolds_2 : decode prog_6_method_8_code 2 = .ok (.iload_n 2, 1) := by decide +kernel
theorem d_Statement_firstLevelThatHolds_3 : decode prog_6_method_8_code 3 = .ok (.aload_n 0, 1) := by decide +kernel
theorem d_Statement_firstLevelThatHolds_4 : decode prog_6_method_8_code 4 = .ok (.getfield 48, 3) := by decide +kernel
theorem d_Statement_firstLevelThatHolds_7 : decode prog_6_method_8_code 7 = .ok (.if_icmp .gt 20, 3) := by decide +kernel
theorem d_Statement_firstLevelThatHolds_10 : decode prog_6_method_8_code 10 = .ok (.aload_n 0, 1) := by decide +kernel
theorem d_Statement_firstLevelThatHolds_11 : decode prog_6_method_8_code 11 = .ok (.iload_n 2, 1) := by decide +kernel
theorem d_Statement_firstLevelThatHolds_12 : decode prog_6_method_8_code 12 = .ok (.aload_n 1, 1) := by decide +kernel
theorem d_Statement_firstLevelThatHolds_13 : decode prog_6_method_8_code 13 = .ok (.invokevirtual 57, 3) := by decide +kernel
theorem d_Statement_firstLevelThatHolds_16 : decode prog_6_method_8_code 16 = .ok (.ifCond .eq 5, 3) := by decide +kernel
theorem d_Statement_firstLevelThatHolds_19 : decode prog_6_method_8_code 19 = .ok (.iload_n 2, 1) := by decide +kernel
theorem d_Statement_firstLevelThatHolds_20 : decode prog_6_method_8_code 20 = .ok (.ireturn, 1) := by decide +kernel
theorem d_Statement_firstLevelThatHolds_21 : decode prog_6_method_8_code 21 = .ok (.iinc 2 1, 3) := by decide +kernel
theorem d_Statement_firstLevelThatHolds_24 : decode prog_6_method_8_code 24 = .ok (.goto (-22), 3) := by decide +kernel
theorem d_Statement_firstLevelThatHolds_27 : decode prog_6_method_8_code 27 = .ok (.iconst 0, 1) := by decide +kernel
theorem d_Statement_firstLevelThatHolds_28 : decode prog_6_method_8_code 28 = .ok (.ireturn, 1) := by decide +kernel

def lp_firstLevel (sl : Int32) (kc : Nat → Int32) (kv : Nat → Int64) (f : Nat → Int64) : Nat → Int32 → Int32
  | 0, _ => 0
  | n_ + 1, k => if sl < k then 0 else if (sp_holds kc kv f k) = 0 then lp_firstLevel sl kc kv f n_ (k + 1) else k
set_option maxHeartbeats 4000000 in
set_option maxRecDepth 100000 in
theorem c_firstLevel {l : Launch} {H0 : Heap} {D : va_G} {cI cL cQ cB : ClassId} {M : mp} {sm acc acv alc afv als ce va : Nat} {sf : Int32} {sto : Int32} {sk : Int32} {sn : Int32} {saf : Int32} {sc : Int32} {sl : Int32} {kc : Nat → Int32} {kv : Nat → Int64} {f : Nat → Int64} (hsl : sl.toInt ≤ 7) (gh0 : M sm = some (.inr (4, [.int sf, .int sto, .int sk, .int sn, .int saf, .int sc, .int sl, .ref acc, .ref acv, .ref alc, .ref afv, .ref als]))) (gh1 : M acc = some (.inl (cI, 7, .inl kc))) (gh2 : M acv = some (.inl (cL, 7, .inr (.inl kv)))) (gh3 : M ce = some (.inr (0, [.ref va]))) (gh4 : M va = some (.inl (cL, 16, .inr (.inl f)))) : MC l H0 D cls7 (tysOf cI cL cQ cB) NW ({ cls := "PerformRanges$Statement", name := "firstLevelThatHolds", desc := "(LPerformRanges$Cells;)I" } : Jvm.MethodName) (Cond.code ({ cls := "PerformRanges$Statement", name := "firstLevelThatHolds", desc := "(LPerformRanges$Cells;)I" } : Jvm.MethodName) prog_6_method_8_code 3 (Option.some Jvm.ClassFile.FieldType.int) :: GW) ({ frames := 2, cells := 0, slots := 0, locals := 43 }) [.ref sm, .ref ce] M (fun v M' => v = some (.int (lp_firstLevel sl kc kv f 9 1)) ∧ M' = M) := by
  refine MC.of (cc := prog_6_method_8_code) (nL := 3) (ret := (Option.some Jvm.ClassFile.FieldType.int)) (lv := [(0, .ref sm), (1, .ref ce)]) (by decide) rfl (Nat.le_of_ble_eq_true rfl) rfl ?_
  intro p e s m below meth c X hr hlk hnm hK
  refine V.go (pc' := 1) (lv_iconst (v := 1) X.1 X.2.1 d_Statement_firstLevelThatHolds_0 (by decide)) ?_
  refine V.wr (pc' := 2) (lv' := [(2, .int 1), (0, .ref sm), (1, .ref ce)]) (fun hl => lv_istore_n X.1 X.2.1 d_Statement_firstLevelThatHolds_1 rfl hl (by decide) rfl) ?_
  obtain ⟨ze_12, hze_12⟩ : ∃ z, z = lp_firstLevel sl kc kv f 9 1 := ⟨_, rfl⟩
  refine V.pick [1, 2, 0] rfl ?_
  refine V.ind (α := Unit) (x0 := ()) (n0 := 9) (I := fun nn_ _ M' lv' => ∃ (k : Int32), lv' = [(0, .ref sm), (1, .ref ce), (2, .int k)] ∧ M' sm = some (.inr (4, [.int sf, .int sto, .int sk, .int sn, .int saf, .int sc, .int sl, .ref acc, .ref acv, .ref alc, .ref afv, .ref als])) ∧ M' acc = some (.inl (cI, 7, .inl kc)) ∧ M' acv = some (.inl (cL, 7, .inr (.inl kv))) ∧ M' ce = some (.inr (0, [.ref va])) ∧ M' va = some (.inl (cL, 16, .inr (.inl f))) ∧ M' = M ∧ (1 ≤ k.toInt) ∧ (9 ≤ k.toInt + nn_ ∧ 1 ≤ nn_) ∧ lp_firstLevel sl kc kv f nn_ k = ze_12) ⟨1, rfl, gh0, gh1, gh2, gh3, gh4, rfl, (by first | omega | with_reducible assumption | (have z0_ : (0 : Int32).toInt = 0 := rfl; have z1_ : (1 : Int32).toInt = 1 := rfl; omega)), (by first | omega | with_reducible assumption | (have z0_ : (0 : Int32).toInt = 0 := rfl; have z1_ : (1 : Int32).toInt = 1 := rfl; omega)), hze_12.symm⟩ (fun n_7 ih_8 _ M_6 lv_9 hI_10 => ?_)
  obtain ⟨k, rfl, h_1, h_2, h_3, h_4, h_5, rfl, j1, j2, e_12⟩ := hI_10
  obtain ⟨n_7, rfl⟩ : ∃ j, n_7 = j + 1 := ⟨n_7 - 1, by omega⟩
  refine V.rd (pc' := 3) (fun hl => lv_iload_n X.1 X.2.1 d_Statement_firstLevelThatHolds_2 rfl (lv_at hl 2 rfl)) ?_
  refine V.rd (pc' := 4) (fun hl => lv_aload_n X.1 X.2.1 d_Statement_firstLevelThatHolds_3 rfl (lv_at hl 0 rfl)) ?_
  refine V.get (pc' := 7) X hK h_1 uw_Statement rfl 6 (by decide) (mcs wd_19) rfl d_Statement_firstLevelThatHolds_4 rfl ?_
  refine V.br (pc' := 10) (tgt := 27) (P := sl < k) (lv_icmp_gt X.1 X.2.1 d_Statement_firstLevelThatHolds_7 (by decide)) (fun c_13 => ?_) (fun c_13 => ?_)
  · have i_14 := Int32.lt_iff_toInt_lt.mp c_13
    refine V.go (pc' := 28) (lv_iconst (v := 0) X.1 X.2.1 d_Statement_firstLevelThatHolds_27 (by decide)) ?_
    rw [lp_firstLevel] at e_12
    simp only [if_pos c_13] at e_12
    exact V.iret X hr hlk ⟨(by exact congrArg (fun z => some (Value.int z)) (e_12.trans hze_12)), rfl⟩ d_Statement_firstLevelThatHolds_28
  · have i_15 := mt Int32.lt_iff_toInt_lt.mpr c_13
    refine V.rd (pc' := 11) (fun hl => lv_aload_n X.1 X.2.1 d_Statement_firstLevelThatHolds_10 rfl (lv_at hl 0 rfl)) ?_
    refine V.rd (pc' := 12) (fun hl => lv_iload_n X.1 X.2.1 d_Statement_firstLevelThatHolds_11 rfl (lv_at hl 2 rfl)) ?_
    refine V.rd (pc' := 13) (fun hl => lv_aload_n X.1 X.2.1 d_Statement_firstLevelThatHolds_12 rfl (lv_at hl 1 rfl)) ?_
    refine V.callV0 (pc' := 16) X hK (c_holds  (sm := sm) (acc := acc) (acv := acv) (alc := alc) (afv := afv) (als := als) (ce := ce) (va := va) (sf := sf) (sto := sto) (sk := sk) (sn := sn) (saf := saf) (sc := sc) (sl := sl) (kc := kc) (kv := kv) (f := f) (x := k)   h_1 h_2 h_3 h_4 h_5  ) h_1 rfl (cwG (n := 2) X (mcs wd_43) (mcs wd_44) (mcs wd_45) (mcs wd_46) wd_47 (by decide +kernel) (by decide) (by decide)) rfl rfl (Nat.le_of_ble_eq_true rfl) d_Statement_firstLevelThatHolds_13 ⟨by decide, by decide⟩ rfl (st1 := [.int (sp_holds kc kv f k)]) rfl ?_
    refine V.br (pc' := 19) (tgt := 21) (P := (sp_holds kc kv f k) = 0) (lv_if_eq X.1 X.2.1 d_Statement_firstLevelThatHolds_16 (by decide)) (fun c_17 => ?_) (fun c_17 => ?_)
    · have i_18 := congrArg Int32.toInt c_17
      rw [show (0 : Int32).toInt = 0 from rfl] at i_18
      refine V.wr (pc' := 24) (lv' := [(2, .int (k + 1)), (0, .ref sm), (1, .ref ce)]) (fun hl => lv_iinc (k := 2) (v := k + 1) X.1 X.2.1 d_Statement_firstLevelThatHolds_21 hl rfl rfl (by decide) rfl) ?_
      have s_19 : (k + 1).toInt = k.toInt + (1) := i32_add1 (by omega)
      refine V.go (pc' := 2) (lv_goto X.1 X.2.1 d_Statement_firstLevelThatHolds_24 (by decide)) ?_
      refine V.pick [1, 2, 0] rfl ?_
      exact ih_8 n_7 (by omega) () _ _ ⟨(k + 1), rfl, h_1, h_2, h_3, h_4, h_5, rfl, (by first | omega | with_reducible assumption | (have z0_ : (0 : Int32).toInt = 0 := rfl; have z1_ : (1 : Int32).toInt = 1 := rfl; omega)), (by first | omega | with_reducible assumption | (have z0_ : (0 : Int32).toInt = 0 := rfl; have z1_ : (1 : Int32).toInt = 1 := rfl; omega)), (by rw [← e_12, lp_firstLevel]; simp only [if_neg c_13, if_pos c_17])⟩
    · have i_20 := mt Int32.toInt_inj.mp c_17
      rw [show (0 : Int32).toInt = 0 from rfl] at i_20
      refine V.rd (pc' := 20) (fun hl => lv_iload_n X.1 X.2.1 d_Statement_firstLevelThatHolds_19 rfl (lv_at hl 2 rfl)) ?_
      rw [lp_firstLevel] at e_12
      simp only [if_neg c_13, if_neg c_17] at e_12
      exact V.iret X hr hlk ⟨(by exact congrArg (fun z => some (Value.int z)) (e_12.trans hze_12)), rfl⟩ d_Statement_firstLevelThatHolds_20

theorem d_Statement_findsTurn_0 : decode prog_6_method_7_code 0 = .ok (.iconst 0, 1) := by decide +kernel
theorem d_Statement_findsTurn_1 : decode prog_6_method_7_code 1 = .ok (.istore_n 2, 1) := by decide +kernel
theorem d_Statement_findsTurn_2 : decode prog_6_method_7_code 2 = .ok (.iload_n 2, 1) := by decide +kernel
theorem d_Statement_findsTurn_3 : decode prog_6_method_7_code 3 = .ok (.sipush 1000, 3) := by decide +kernel
theorem d_Statement_findsTurn_6 : decode prog_6_method_7_code 6 = .ok (.if_icmp .ge 42, 3) := by decide +kernel
theorem d_Statement_findsTurn_9 : decode prog_6_method_7_code 9 = .ok (.aload_n 0, 1) := by decide +kernel
theorem d_Statement_findsTurn_10 : decode prog_6_method_7_code 10 = .ok (.aload_n 1, 1) := by decide +kernel
theorem d_Statement_findsTurn_11 : decode prog_6_method_7_code 11 = .ok (.invokevirtual 75, 3) := by decide +kernel
theorem d_Statement_findsTurn_14 : decode prog_6_method_7_code 14 = .ok (.istore_n 3, 1) := by decide +kernel
theorem d_Statement_findsTurn_15 : decode prog_6_method_7_code 15 = .ok (.iload_n 3, 1) := by decide +kernel
theorem d_Statement_findsTurn_16 : decode prog_6_method_7_code 16 = .ok (.ifCond .ne 5, 3) := by decide +kernel
theorem d_Statement_findsTurn_19 : decode prog_6_method_7_code 19 = .ok (.iconst 1, 1) := by decide +kernel
theorem d_Statement_findsTurn_20 : decode prog_6_method_7_code 20 = .ok (.ireturn, 1) := by decide +kernel
theorem d_Statement_findsTurn_21 : decode prog_6_method_7_code 21 = .ok (.iload_n 3, 1) := by decide +kernel
theorem d_Statement_findsTurn_22 : decode prog_6_method_7_code 22 = .ok (.iconst 1, 1) := by decide +kernel
theorem d_Statement_findsTurn_23 : decode prog_6_method_7_code 23 = .ok (.if_icmp .ne 5, 3) := by decide +kernel
theorem d_Statement_findsTurn_26 : decode prog_6_method_7_code 26 = .ok (.iconst 0, 1) := by decide +kernel
theorem d_Statement_findsTurn_27 : decode prog_6_method_7_code 27 = .ok (.ireturn, 1) := by decide +kernel
theorem d_Statement_findsTurn_28 : decode prog_6_method_7_code 28 = .ok (.aload_n 0, 1) := by decide +kernel
theorem d_Statement_findsTurn_29 : decode prog_6_method_7_code 29 = .ok (.iload_n 3, 1) := by decide +kernel
theorem d_Statement_findsTurn_30 : decode prog_6_method_7_code 30 = .ok (.iconst 1, 1) := by decide +kernel
theorem d_Statement_findsTurn_31 : decode prog_6_method_7_code 31 = .ok (.isub, 1) := by decide +kernel
theorem d_Statement_findsTurn_32 : decode prog_6_method_7_code 32 = .ok (.aload_n 1, 1) := by decide +kernel
theorem d_Statement_findsTurn_33 : decode prog_6_method_7_code 33 = .ok (.invokevirtual 72, 3) := by decide +kernel
theorem d_Statement_findsTurn_36 : decode prog_6_method_7_code 36 = .ok (.aload_n 0, 1) := by decide +kernel
theorem d_Statement_findsTurn_37 : decode prog_6_method_7_code 37 = .ok (.iload_n 3, 1) := by decide +kernel
theorem d_Statement_findsTurn_38 : decode prog_6_method_7_code 38 = .ok (.aload_n 1, 1) := by decide +kernel
theorem d_Statement_findsTurn_39 : decode prog_6_method_7_code 39 = .ok (.invokevirtual 61, 3) := by decide +kernel
theorem d_Statement_findsTurn_42 : decode prog_6_method_7_code 42 = .ok (.iinc 2 1, 3) := by decide +kernel
theorem d_Statement_findsTurn_45 : decode prog_6_method_7_code 45 = .ok (.goto (-43), 3) := by decide +kernel
theorem d_Statement_findsTurn_48 : decode prog_6_method_7_code 48 = .ok (.iconst 0, 1) := by decide +kernel
theorem d_Statement_findsTurn_49 : decode prog_6_method_7_code 49 = .ok (.ireturn, 1) := by decide +kernel

def lp_findsTurn (sl : Int32) (kc : Nat → Int32) (kv : Nat → Int64) (lc : Nat → Int32) (fv : Nat → Int64) (lz : Nat → Int64) : Nat → Int32 → (Nat → Int64) → Int32
  | 0, _, _ => 0
  | n_ + 1, k, g => if 1000 ≤ k then 0 else if (lp_firstLevel sl kc kv g 9 1) = 0 then 1 else if (lp_firstLevel sl kc kv g 9 1) = 1 then 0 else lp_findsTurn sl kc kv lc fv lz n_ (k + 1) (sp_takeFirstValues_va sl lc fv (sp_takeStep_va lc lz g ((lp_firstLevel sl kc kv g 9 1) - 1)) (lp_firstLevel sl kc kv g 9 1))
def lp_findsTurn_va (sl : Int32) (kc : Nat → Int32) (kv : Nat → Int64) (lc : Nat → Int32) (fv : Nat → Int64) (lz : Nat → Int64) : Nat → Int32 → (Nat → Int64) → Nat → Int64
  | 0, _, g => g
  | n_ + 1, k, g => if 1000 ≤ k then g else if (lp_firstLevel sl kc kv g 9 1) = 0 then g else if (lp_firstLevel sl kc kv g 9 1) = 1 then g else lp_findsTurn_va sl kc kv lc fv lz n_ (k + 1) (sp_takeFirstValues_va sl lc fv (sp_takeStep_va lc lz g ((lp_firstLevel sl kc kv g 9 1) - 1)) (lp_firstLevel sl kc kv g 9 1))
set_option maxHeartbeats 4000000 in
set_option maxRecDepth 100000 in
theorem c_findsTurn {l : Launch} {H0 : Heap} {D : va_G} {cI cL cQ cB : ClassId} {M : mp} {sm acc acv alc afv als ce va : Nat} {sf : Int32} {sto : Int32} {sk : Int32} {sn : Int32} {saf : Int32} {sc : Int32} {sl : Int32} {kc : Nat → Int32} {kv : Nat → Int64} {lc : Nat → Int32} {fv : Nat → Int64} {lz : Nat → Int64} {f : Nat → Int64} (hsl : sl.toInt ≤ 7) (gh0 : M sm = some (.inr (4, [.int sf, .int sto, .int sk, .int sn, .int saf, .int sc, .int sl, .ref acc, .ref acv, .ref alc, .ref afv, .ref als]))) (gh1 : M acc = some (.inl (cI, 7, .inl kc))) (gh2 : M acv = some (.inl (cL, 7, .inr (.inl kv)))) (gh3 : M alc = some (.inl (cI, 7, .inl lc))) (gh4 : M afv = some (.inl (cL, 7, .inr (.inl fv)))) (gh5 : M als = some (.inl (cL, 7, .inr (.inl lz)))) (gh6 : M ce = some (.inr (0, [.ref va]))) (gh7 : M va = some (.inl (cL, 16, .inr (.inl f)))) : MC l H0 D cls7 (tysOf cI cL cQ cB) NW ({ cls := "PerformRanges$Statement", name := "findsTurn", desc := "(LPerformRanges$Cells;)Z" } : Jvm.MethodName) (Cond.code ({ cls := "PerformRanges$Statement", name := "findsTurn", desc := "(LPerformRanges$Cells;)Z" } : Jvm.MethodName) prog_6_method_7_code 4 (Option.some Jvm.ClassFile.FieldType.boolean) :: GW) ({ frames := 3, cells := 0, slots := 0, locals := 65 }) [.ref sm, .ref ce] M (fun v M' => v = some (.int (lp_findsTurn sl kc kv lc fv lz 1001 0 f)) ∧ M' va = some (.inl (cL, 16, .inr (.inl (lp_findsTurn_va sl kc kv lc fv lz 1001 0 f)))) ∧ (∀ q, q ≠ va → M' q = M q)) := by
  refine MC.of (cc := prog_6_method_7_code) (nL := 4) (ret := (Option.some Jvm.ClassFile.FieldType.boolean)) (lv := [(0, .ref sm), (1, .ref ce)]) (by decide) rfl (Nat.le_of_ble_eq_true rfl) rfl ?_
  intro p e s m below meth c X hr hlk hnm hK
  refine V.go (pc' := 1) (lv_iconst (v := 0) X.1 X.2.1 d_Statement_findsTurn_0 (by decide)) ?_
  refine V.wr (pc' := 2) (lv' := [(2, .int 0), (0, .ref sm), (1, .ref ce)]) (fun hl => lv_istore_n X.1 X.2.1 d_Statement_findsTurn_1 rfl hl (by decide) rfl) ?_
  obtain ⟨ze_15, hze_15⟩ : ∃ z, z = lp_findsTurn sl kc kv lc fv lz 1001 0 f := ⟨_, rfl⟩
  obtain ⟨ze_16, hze_16⟩ : ∃ z, z = lp_findsTurn_va sl kc kv lc fv lz 1001 0 f := ⟨_, rfl⟩
  refine V.pick [1, 2, 0] rfl ?_
  refine V.ind (α := Unit) (x0 := ()) (n0 := 1001) (I := fun nn_ _ M' lv' => ∃ (k : Int32) (g : Nat → Int64), lv' = [(0, .ref sm), (1, .ref ce), (2, .int k)] ∧ M' sm = some (.inr (4, [.int sf, .int sto, .int sk, .int sn, .int saf, .int sc, .int sl, .ref acc, .ref acv, .ref alc, .ref afv, .ref als])) ∧ M' acc = some (.inl (cI, 7, .inl kc)) ∧ M' acv = some (.inl (cL, 7, .inr (.inl kv))) ∧ M' alc = some (.inl (cI, 7, .inl lc)) ∧ M' afv = some (.inl (cL, 7, .inr (.inl fv))) ∧ M' als = some (.inl (cL, 7, .inr (.inl lz))) ∧ M' ce = some (.inr (0, [.ref va])) ∧ M' va = some (.inl (cL, 16, .inr (.inl g))) ∧ (∀ q, q ≠ va → M' q = M q) ∧ (0 ≤ k.toInt ∧ k.toInt ≤ 1000) ∧ (k.toInt + nn_ = 1001) ∧ lp_findsTurn sl kc kv lc fv lz nn_ k g = ze_15 ∧ lp_findsTurn_va sl kc kv lc fv lz nn_ k g = ze_16) ⟨0, f, rfl, gh0, gh1, gh2, gh3, gh4, gh5, gh6, gh7, (fun q _ => rfl), (by first | omega | with_reducible assumption | (have z0_ : (0 : Int32).toInt = 0 := rfl; have z1_ : (1 : Int32).toInt = 1 := rfl; omega)), (by first | omega | with_reducible assumption | (have z0_ : (0 : Int32).toInt = 0 := rfl; have z1_ : (1 : Int32).toInt = 1 := rfl; omega)), hze_15.symm, hze_16.symm⟩ (fun n_10 ih_11 _ M_9 lv_12 hI_13 => ?_)
  obtain ⟨k, g, rfl, h_1, h_2, h_3, h_4, h_5, h_6, h_7, h_8, fr_14, j1, j2, e_15, e_16⟩ := hI_13
  obtain ⟨n_10, rfl⟩ : ∃ j, n_10 = j + 1 := ⟨n_10 - 1, by omega⟩
  refine V.rd (pc' := 3) (fun hl => lv_iload_n X.1 X.2.1 d_Statement_findsTurn_2 rfl (lv_at hl 2 rfl)) ?_
  refine V.go (pc' := 6) (lv_sipush (v := 1000) X.1 X.2.1 d_Statement_findsTurn_3 (by decide)) ?_
  refine V.br (pc' := 9) (tgt := 48) (P := 1000 ≤ k) (lv_icmp_ge X.1 X.2.1 d_Statement_findsTurn_6 (by decide)) (fun c_17 => ?_) (fun c_17 => ?_)
  · have i_18 := Int32.le_iff_toInt_le.mp c_17
    rw [show (1000 : Int32).toInt = 1000 from rfl] at i_18
    refine V.go (pc' := 49) (lv_iconst (v := 0) X.1 X.2.1 d_Statement_findsTurn_48 (by decide)) ?_
    rw [lp_findsTurn] at e_15
    simp only [if_pos c_17] at e_15
    rw [lp_findsTurn_va] at e_16
    simp only [if_pos c_17] at e_16
    exact V.zret X hr hlk rfl ⟨(by exact congrArg (fun z => some (Value.int z)) (e_15.trans hze_15)), (by rw [← hze_16, ← e_16]; exact h_8), (fun q n0_ => (fr_14 q n0_))⟩ d_Statement_findsTurn_49
  · have i_19 := mt Int32.le_iff_toInt_le.mpr c_17
    rw [show (1000 : Int32).toInt = 1000 from rfl] at i_19
    refine V.rd (pc' := 10) (fun hl => lv_aload_n X.1 X.2.1 d_Statement_findsTurn_9 rfl (lv_at hl 0 rfl)) ?_
    refine V.rd (pc' := 11) (fun hl => lv_aload_n X.1 X.2.1 d_Statement_findsTurn_10 rfl (lv_at hl 1 rfl)) ?_
    refine V.callV0 (pc' := 14) X hK (c_firstLevel  (sm := sm) (acc := acc) (acv := acv) (alc := alc) (afv := afv) (als := als) (ce := ce) (va := va) (sf := sf) (sto := sto) (sk := sk) (sn := sn) (saf := saf) (sc := sc) (sl := sl) (kc := kc) (kv := kv) (f := g) (by first | omega | with_reducible assumption | (have z0_ : (0 : Int32).toInt = 0 := rfl; have z1_ : (1 : Int32).toInt = 1 := rfl; omega))  h_1 h_2 h_3 h_7 h_8  ) h_1 rfl (cwG (n := 1) X (mcs wd_48) (mcs wd_49) (mcs wd_50) (mcs wd_46) wd_51 (by decide +kernel) (by decide) (by decide)) rfl rfl (Nat.le_of_ble_eq_true rfl) d_Statement_findsTurn_11 ⟨by decide, by decide⟩ rfl (st1 := [.int (lp_firstLevel sl kc kv g 9 1)]) rfl ?_
    refine V.wr (pc' := 15) (lv' := [(3, .int (lp_firstLevel sl kc kv g 9 1)), (0, .ref sm), (1, .ref ce), (2, .int k)]) (fun hl => lv_istore_n X.1 X.2.1 d_Statement_findsTurn_14 rfl hl (by decide) rfl) ?_
    refine V.rd (pc' := 16) (fun hl => lv_iload_n X.1 X.2.1 d_Statement_findsTurn_15 rfl (lv_at hl 0 rfl)) ?_
    refine V.bn (pc' := 19) (tgt := 21) (P := (lp_firstLevel sl kc kv g 9 1) = 0) (lv_if_ne X.1 X.2.1 d_Statement_findsTurn_16 (by decide)) (fun c_21 => ?_) (fun c_21 => ?_)
    · have i_22 := congrArg Int32.toInt c_21
      rw [show (0 : Int32).toInt = 0 from rfl] at i_22
      refine V.go (pc' := 20) (lv_iconst (v := 1) X.1 X.2.1 d_Statement_findsTurn_19 (by decide)) ?_
      rw [lp_findsTurn] at e_15
      simp only [if_neg c_17, if_pos c_21] at e_15
      rw [lp_findsTurn_va] at e_16
      simp only [if_neg c_17, if_pos c_21] at e_16
      exact V.zret X hr hlk rfl ⟨(by exact congrArg (fun z => some (Value.int z)) (e_15.trans hze_15)), (by rw [← hze_16, ← e_16]; exact h_8), (fun q n0_ => (fr_14 q n0_))⟩ d_Statement_findsTurn_20
    · have i_23 := mt Int32.toInt_inj.mp c_21
      rw [show (0 : Int32).toInt = 0 from rfl] at i_23
      refine V.rd (pc' := 22) (fun hl => lv_iload_n X.1 X.2.1 d_Statement_findsTurn_21 rfl (lv_at hl 0 rfl)) ?_
      refine V.go (pc' := 23) (lv_iconst (v := 1) X.1 X.2.1 d_Statement_findsTurn_22 (by decide)) ?_
      refine V.bn (pc' := 26) (tgt := 28) (P := (lp_firstLevel sl kc kv g 9 1) = 1) (lv_icmp_ne X.1 X.2.1 d_Statement_findsTurn_23 (by decide)) (fun c_24 => ?_) (fun c_24 => ?_)
      · have i_25 := congrArg Int32.toInt c_24
        rw [show (1 : Int32).toInt = 1 from rfl] at i_25
        refine V.go (pc' := 27) (lv_iconst (v := 0) X.1 X.2.1 d_Statement_findsTurn_26 (by decide)) ?_
        rw [lp_findsTurn] at e_15
        simp only [if_neg c_17, if_neg c_21, if_pos c_24] at e_15
        rw [lp_findsTurn_va] at e_16
        simp only [if_neg c_17, if_neg c_21, if_pos c_24] at e_16
        exact V.zret X hr hlk rfl ⟨(by exact congrArg (fun z => some (Value.int z)) (e_15.trans hze_15)), (by rw [← hze_16, ← e_16]; exact h_8), (fun q n0_ => (fr_14 q n0_))⟩ d_Statement_findsTurn_27
      · have i_26 := mt Int32.toInt_inj.mp c_24
        rw [show (1 : Int32).toInt = 1 from rfl] at i_26
        refine V.rd (pc' := 29) (fun hl => lv_aload_n X.1 X.2.1 d_Statement_findsTurn_28 rfl (lv_at hl 1 rfl)) ?_
        refine V.rd (pc' := 30) (fun hl => lv_iload_n X.1 X.2.1 d_Statement_findsTurn_29 rfl (lv_at hl 0 rfl)) ?_
        refine V.go (pc' := 31) (lv_iconst (v := 1) X.1 X.2.1 d_Statement_findsTurn_30 (by decide)) ?_
        refine V.go (pc' := 32) (lv_isub X.1 X.2.1 d_Statement_findsTurn_31) ?_
        refine V.rd (pc' := 33) (fun hl => lv_aload_n X.1 X.2.1 d_Statement_findsTurn_32 rfl (lv_at hl 2 rfl)) ?_
        refine V.callV (pc' := 36) X hK (c_takeStep  (sm := sm) (acc := acc) (acv := acv) (alc := alc) (afv := afv) (als := als) (ce := ce) (va := va) (sf := sf) (sto := sto) (sk := sk) (sn := sn) (saf := saf) (sc := sc) (sl := sl) (lc := lc) (lz := lz) (f := g) (x := (lp_firstLevel sl kc kv g 9 1) - 1)   h_1 h_4 h_6 h_7 h_8  ) h_1 rfl (cwG (n := 2) X (mcs wd_52) (mcs wd_53) (mcs wd_54) (mcs wd_46) wd_55 (by decide +kernel) (by decide) (by decide)) rfl rfl (Nat.le_of_ble_eq_true rfl) d_Statement_findsTurn_33 ⟨by decide, by decide⟩ rfl (st1 := []) rfl (fun M_27 ⟨h_28, fr_29⟩ => ?_)
        have h_30 : M_27 sm = some (.inr (4, [.int sf, .int sto, .int sk, .int sn, .int saf, .int sc, .int sl, .ref acc, .ref acv, .ref alc, .ref afv, .ref als])) := (fr_29 _ (ne_k h_1 h_8 (i := 4) (j := 100016) rfl rfl (by decide))).trans h_1
        have h_31 : M_27 acc = some (.inl (cI, 7, .inl kc)) := (fr_29 _ (ne_k h_2 h_8 (i := 1007) (j := 100016) rfl rfl (by decide))).trans h_2
        have h_32 : M_27 acv = some (.inl (cL, 7, .inr (.inl kv))) := (fr_29 _ (ne_k h_3 h_8 (i := 100007) (j := 100016) rfl rfl (by decide))).trans h_3
        have h_33 : M_27 alc = some (.inl (cI, 7, .inl lc)) := (fr_29 _ (ne_k h_4 h_8 (i := 1007) (j := 100016) rfl rfl (by decide))).trans h_4
        have h_34 : M_27 afv = some (.inl (cL, 7, .inr (.inl fv))) := (fr_29 _ (ne_k h_5 h_8 (i := 100007) (j := 100016) rfl rfl (by decide))).trans h_5
        have h_35 : M_27 als = some (.inl (cL, 7, .inr (.inl lz))) := (fr_29 _ (ne_k h_6 h_8 (i := 100007) (j := 100016) rfl rfl (by decide))).trans h_6
        have h_36 : M_27 ce = some (.inr (0, [.ref va])) := (fr_29 _ (ne_k h_7 h_8 (i := 0) (j := 100016) rfl rfl (by decide))).trans h_7
        refine V.rd (pc' := 37) (fun hl => lv_aload_n X.1 X.2.1 d_Statement_findsTurn_36 rfl (lv_at hl 1 rfl)) ?_
        refine V.rd (pc' := 38) (fun hl => lv_iload_n X.1 X.2.1 d_Statement_findsTurn_37 rfl (lv_at hl 0 rfl)) ?_
        refine V.rd (pc' := 39) (fun hl => lv_aload_n X.1 X.2.1 d_Statement_findsTurn_38 rfl (lv_at hl 2 rfl)) ?_
        refine V.callV (pc' := 42) X hK (c_takeFirstValues  (sm := sm) (acc := acc) (acv := acv) (alc := alc) (afv := afv) (als := als) (ce := ce) (va := va) (sf := sf) (sto := sto) (sk := sk) (sn := sn) (saf := saf) (sc := sc) (sl := sl) (lc := lc) (fv := fv) (f := sp_takeStep_va lc lz g ((lp_firstLevel sl kc kv g 9 1) - 1)) (x := lp_firstLevel sl kc kv g 9 1)   h_30 h_33 h_34 h_36 h_28  ) h_30 rfl (cwG (n := 2) X (mcs wd_56) (mcs wd_57) (mcs wd_58) (mcs wd_46) wd_59 (by decide +kernel) (by decide) (by decide)) rfl rfl (Nat.le_of_ble_eq_true rfl) d_Statement_findsTurn_39 ⟨by decide, by decide⟩ rfl (st1 := []) rfl (fun M_37 ⟨h_38, fr_39⟩ => ?_)
        have h_40 : M_37 sm = some (.inr (4, [.int sf, .int sto, .int sk, .int sn, .int saf, .int sc, .int sl, .ref acc, .ref acv, .ref alc, .ref afv, .ref als])) := (fr_39 _ (ne_k h_30 h_28 (i := 4) (j := 100016) rfl rfl (by decide))).trans h_30
        have h_41 : M_37 acc = some (.inl (cI, 7, .inl kc)) := (fr_39 _ (ne_k h_31 h_28 (i := 1007) (j := 100016) rfl rfl (by decide))).trans h_31
        have h_42 : M_37 acv = some (.inl (cL, 7, .inr (.inl kv))) := (fr_39 _ (ne_k h_32 h_28 (i := 100007) (j := 100016) rfl rfl (by decide))).trans h_32
        have h_43 : M_37 alc = some (.inl (cI, 7, .inl lc)) := (fr_39 _ (ne_k h_33 h_28 (i := 1007) (j := 100016) rfl rfl (by decide))).trans h_33
        have h_44 : M_37 afv = some (.inl (cL, 7, .inr (.inl fv))) := (fr_39 _ (ne_k h_34 h_28 (i := 100007) (j := 100016) rfl rfl (by decide))).trans h_34
        have h_45 : M_37 als = some (.inl (cL, 7, .inr (.inl lz))) := (fr_39 _ (ne_k h_35 h_28 (i := 100007) (j := 100016) rfl rfl (by decide))).trans h_35
        have h_46 : M_37 ce = some (.inr (0, [.ref va])) := (fr_39 _ (ne_k h_36 h_28 (i := 0) (j := 100016) rfl rfl (by decide))).trans h_36
        refine V.wr (pc' := 45) (lv' := [(2, .int (k + 1)), (3, .int (lp_firstLevel sl kc kv g 9 1)), (0, .ref sm), (1, .ref ce)]) (fun hl => lv_iinc (k := 3) (v := k + 1) X.1 X.2.1 d_Statement_findsTurn_42 hl rfl rfl (by decide) rfl) ?_
        have s_47 : (k + 1).toInt = k.toInt + (1) := i32_add1 (by omega)
        refine V.go (pc' := 2) (lv_goto X.1 X.2.1 d_Statement_findsTurn_45 (by decide)) ?_
        refine V.pick [2, 3, 0] rfl ?_
        exact ih_11 n_10 (by omega) () _ _ ⟨(k + 1), (sp_takeFirstValues_va sl lc fv (sp_takeStep_va lc lz g ((lp_firstLevel sl kc kv g 9 1) - 1)) (lp_firstLevel sl kc kv g 9 1)), rfl, h_40, h_41, h_42, h_43, h_44, h_45, h_46, h_38, (fun q n0_ => (fr_39 q n0_).trans ((fr_29 q n0_).trans ((fr_14 q n0_)))), (by first | omega | with_reducible assumption | (have z0_ : (0 : Int32).toInt = 0 := rfl; have z1_ : (1 : Int32).toInt = 1 := rfl; omega)), (by first | omega | with_reducible assumption | (have z0_ : (0 : Int32).toInt = 0 := rfl; have z1_ : (1 : Int32).toInt = 1 := rfl; omega)), (by rw [← e_15, lp_findsTurn]; simp only [if_neg c_17, if_neg c_21, if_neg c_24]), (by rw [← e_16, lp_findsTurn_va]; simp only [if_neg c_17, if_neg c_21, if_neg c_24])⟩

theorem b_findsTurn {sl : Int32} {kc : Nat → Int32} {kv : Nat → Int64} {lc : Nat → Int32} {fv lz : Nat → Int64} : ∀ (n : Nat) (k : Int32) (g : Nat → Int64), lp_findsTurn sl kc kv lc fv lz n k g = 0 ∨ lp_findsTurn sl kc kv lc fv lz n k g = 1
  | 0, _, _ => Or.inl rfl
  | n + 1, k, g => by
    rw [lp_findsTurn]
    split
    · exact Or.inl rfl
    · split
      · exact Or.inr rfl
      · split
        · exact Or.inl rfl
        · exact b_findsTurn n _ _

theorem d_Statement_stepsLastOpenLevel_0 : decode prog_6_method_9_code 0 = .ok (.aload_n 0, 1) := by decide +kernel
theorem d_Statement_stepsLastOpenLevel_1 : decode prog_6_method_9_code 1 = .ok (.getfield 48, 3) := by decide +kernel
theorem d_Statement_stepsLastOpenLevel_4 : decode prog_6_method_9_code 4 = .ok (.istore_n 2, 1) := by decide +kernel
theorem d_Statement_stepsLastOpenLevel_5 : decode prog_6_method_9_code 5 = .ok (.iload_n 2, 1) := by decide +kernel
theorem d_Statement_stepsLastOpenLevel_6 : decode prog_6_method_9_code 6 = .ok (.iconst 1, 1) := by decide +kernel
theorem d_Statement_stepsLastOpenLevel_7 : decode prog_6_method_9_code 7 = .ok (.if_icmp .lt 34, 3) := by decide +kernel
theorem d_Statement_stepsLastOpenLevel_10 : decode prog_6_method_9_code 10 = .ok (.aload_n 0, 1) := by decide +kernel
theorem d_Statement_stepsLastOpenLevel_11 : decode prog_6_method_9_code 11 = .ok (.iload_n 2, 1) := by decide +kernel
theorem d_Statement_stepsLastOpenLevel_12 : decode prog_6_method_9_code 12 = .ok (.aload_n 1, 1) := by decide +kernel
theorem d_Statement_stepsLastOpenLevel_13 : decode prog_6_method_9_code 13 = .ok (.invokevirtual 57, 3) := by decide +kernel
theorem d_Statement_stepsLastOpenLevel_16 : decode prog_6_method_9_code 16 = .ok (.ifCond .ne 19, 3) := by decide +kernel
theorem d_Statement_stepsLastOpenLevel_19 : decode prog_6_method_9_code 19 = .ok (.aload_n 0, 1) := by decide +kernel
theorem d_Statement_stepsLastOpenLevel_20 : decode prog_6_method_9_code 20 = .ok (.iload_n 2, 1) := by decide +kernel
theorem d_Statement_stepsLastOpenLevel_21 : decode prog_6_method_9_code 21 = .ok (.aload_n 1, 1) := by decide +kernel
theorem d_Statement_stepsLastOpenLevel_22 : decode prog_6_method_9_code 22 = .ok (.invokevirtual 72, 3) := by decide +kernel
theorem d_Statement_stepsLastOpenLevel_25 : decode prog_6_method_9_code 25 = .ok (.aload_n 0, 1) := by decide +kernel
theorem d_Statement_stepsLastOpenLevel_26 : decode prog_6_method_9_code 26 = .ok (.iload_n 2, 1) := by decide +kernel
theorem d_Statement_stepsLastOpenLevel_27 : decode prog_6_method_9_code 27 = .ok (.iconst 1, 1) := by decide +kernel
theorem d_Statement_stepsLastOpenLevel_28 : decode prog_6_method_9_code 28 = .ok (.iadd, 1) := by decide +kernel
theorem d_Statement_stepsLastOpenLevel_29 : decode prog_6_method_9_code 29 = .ok (.aload_n 1, 1) := by decide +kernel
theorem d_Statement_stepsLastOpenLevel_30 : decode prog_6_method_9_code 30 = .ok (.invokevirtual 61, 3) := by decide +kernel
theorem d_Statement_stepsLastOpenLevel_33 : decode prog_6_method_9_code 33 = .ok (.iconst 1, 1) := by decide +kernel
theorem d_Statement_stepsLastOpenLevel_34 : decode prog_6_method_9_code 34 = .ok (.ireturn, 1) := by decide +kernel
theorem d_Statement_stepsLastOpenLevel_35 : decode prog_6_method_9_code 35 = .ok (.iinc 2 (-1), 3) := by decide +kernel
theorem d_Statement_stepsLastOpenLevel_38 : decode prog_6_method_9_code 38 = .ok (.goto (-33), 3) := by decide +kernel
theorem d_Statement_stepsLastOpenLevel_41 : decode prog_6_method_9_code 41 = .ok (.iconst 0, 1) := by decide +kernel
theorem d_Statement_stepsLastOpenLevel_42 : decode prog_6_method_9_code 42 = .ok (.ireturn, 1) := by decide +kernel

def lp_stepsLast (kc : Nat → Int32) (kv : Nat → Int64) (f : Nat → Int64) : Nat → Int32 → Int32
  | 0, _ => 0
  | n_ + 1, k => if k < 1 then 0 else if (sp_holds kc kv f k) = 0 then 1 else lp_stepsLast kc kv f n_ (k + (-1))
def lp_stepsLast_va (sl : Int32) (kc : Nat → Int32) (kv : Nat → Int64) (lc : Nat → Int32) (fv : Nat → Int64) (lz : Nat → Int64) (f : Nat → Int64) : Nat → Int32 → Nat → Int64
  | 0, _ => f
  | n_ + 1, k => if k < 1 then f else if (sp_holds kc kv f k) = 0 then sp_takeFirstValues_va sl lc fv (sp_takeStep_va lc lz f k) (k + 1) else lp_stepsLast_va sl kc kv lc fv lz f n_ (k + (-1))
set_option maxHeartbeats 4000000 in
set_option maxRecDepth 100000 in
theorem c_stepsLast {l : Launch} {H0 : Heap} {D : va_G} {cI cL cQ cB : ClassId} {M : mp} {sm acc acv alc afv als ce va : Nat} {sf : Int32} {sto : Int32} {sk : Int32} {sn : Int32} {saf : Int32} {sc : Int32} {sl : Int32} {kc : Nat → Int32} {kv : Nat → Int64} {lc : Nat → Int32} {fv : Nat → Int64} {lz : Nat → Int64} {f : Nat → Int64} (hsl : sl.toInt ≤ 7) (gh0 : M sm = some (.inr (4, [.int sf, .int sto, .int sk, .int sn, .int saf, .int sc, .int sl, .ref acc, .ref acv, .ref alc, .ref afv, .ref als]))) (gh1 : M acc = some (.inl (cI, 7, .inl kc))) (gh2 : M acv = some (.inl (cL, 7, .inr (.inl kv)))) (gh3 : M alc = some (.inl (cI, 7, .inl lc))) (gh4 : M afv = some (.inl (cL, 7, .inr (.inl fv)))) (gh5 : M als = some (.inl (cL, 7, .inr (.inl lz)))) (gh6 : M ce = some (.inr (0, [.ref va]))) (gh7 : M va = some (.inl (cL, 16, .inr (.inl f)))) : MC l H0 D cls7 (tysOf cI cL cQ cB) NW ({ cls := "PerformRanges$Statement", name := "stepsLastOpenLevel", desc := "(LPerformRanges$Cells;)Z" } : Jvm.MethodName) (Cond.code ({ cls := "PerformRanges$Statement", name := "stepsLastOpenLevel", desc := "(LPerformRanges$Cells;)Z" } : Jvm.MethodName) prog_6_method_9_code 3 (Option.some Jvm.ClassFile.FieldType.boolean) :: GW) ({ frames := 2, cells := 0, slots := 0, locals := 46 }) [.ref sm, .ref ce] M (fun v M' => v = some (.int (lp_stepsLast kc kv f 9 sl)) ∧ M' va = some (.inl (cL, 16, .inr (.inl (lp_stepsLast_va sl kc kv lc fv lz f 9 sl)))) ∧ (∀ q, q ≠ va → M' q = M q)) := by
  refine MC.of (cc := prog_6_method_9_code) (nL := 3) (ret := (Option.some Jvm.ClassFile.FieldType.boolean)) (lv := [(0, .ref sm), (1, .ref ce)]) (by decide) rfl (Nat.le_of_ble_eq_true rfl) rfl ?_
  intro p e s m below meth c X hr hlk hnm hK
  refine V.rd (pc' := 1) (fun hl => lv_aload_n X.1 X.2.1 d_Statement_stepsLastOpenLevel_0 rfl (lv_at hl 0 rfl)) ?_
  refine V.get (pc' := 4) X hK gh0 uw_Statement rfl 6 (by decide) (mcs wd_19) rfl d_Statement_stepsLastOpenLevel_1 rfl ?_
  refine V.wr (pc' := 5) (lv' := [(2, .int sl), (0, .ref sm), (1, .ref ce)]) (fun hl => lv_istore_n X.1 X.2.1 d_Statement_stepsLastOpenLevel_4 rfl hl (by decide) rfl) ?_
  obtain ⟨ze_15, hze_15⟩ : ∃ z, z = lp_stepsLast kc kv f 9 sl := ⟨_, rfl⟩
  obtain ⟨ze_16, hze_16⟩ : ∃ z, z = lp_stepsLast_va sl kc kv lc fv lz f 9 sl := ⟨_, rfl⟩
  refine V.pick [1, 2, 0] rfl ?_
  refine V.ind (α := Unit) (x0 := ()) (n0 := 9) (I := fun nn_ _ M' lv' => ∃ (k : Int32), lv' = [(0, .ref sm), (1, .ref ce), (2, .int k)] ∧ M' sm = some (.inr (4, [.int sf, .int sto, .int sk, .int sn, .int saf, .int sc, .int sl, .ref acc, .ref acv, .ref alc, .ref afv, .ref als])) ∧ M' acc = some (.inl (cI, 7, .inl kc)) ∧ M' acv = some (.inl (cL, 7, .inr (.inl kv))) ∧ M' alc = some (.inl (cI, 7, .inl lc)) ∧ M' afv = some (.inl (cL, 7, .inr (.inl fv))) ∧ M' als = some (.inl (cL, 7, .inr (.inl lz))) ∧ M' ce = some (.inr (0, [.ref va])) ∧ M' va = some (.inl (cL, 16, .inr (.inl f))) ∧ M' = M ∧ (k.toInt ≤ 7) ∧ (k.toInt + 1 ≤ nn_ ∧ 1 ≤ nn_) ∧ lp_stepsLast kc kv f nn_ k = ze_15 ∧ lp_stepsLast_va sl kc kv lc fv lz f nn_ k = ze_16) ⟨sl, rfl, gh0, gh1, gh2, gh3, gh4, gh5, gh6, gh7, rfl, (by first | omega | with_reducible assumption | (have z0_ : (0 : Int32).toInt = 0 := rfl; have z1_ : (1 : Int32).toInt = 1 := rfl; omega)), (by first | omega | with_reducible assumption | (have z0_ : (0 : Int32).toInt = 0 := rfl; have z1_ : (1 : Int32).toInt = 1 := rfl; omega)), hze_15.symm, hze_16.symm⟩ (fun n_10 ih_11 _ M_9 lv_12 hI_13 => ?_)
  obtain ⟨k, rfl, h_1, h_2, h_3, h_4, h_5, h_6, h_7, h_8, rfl, j1, j2, e_15, e_16⟩ := hI_13
  obtain ⟨n_10, rfl⟩ : ∃ j, n_10 = j + 1 := ⟨n_10 - 1, by omega⟩
  refine V.rd (pc' := 6) (fun hl => lv_iload_n X.1 X.2.1 d_Statement_stepsLastOpenLevel_5 rfl (lv_at hl 2 rfl)) ?_
  refine V.go (pc' := 7) (lv_iconst (v := 1) X.1 X.2.1 d_Statement_stepsLastOpenLevel_6 (by decide)) ?_
  refine V.br (pc' := 10) (tgt := 41) (P := k < 1) (lv_icmp_lt X.1 X.2.1 d_Statement_stepsLastOpenLevel_7 (by decide)) (fun c_17 => ?_) (fun c_17 => ?_)
  · have i_18 := Int32.lt_iff_toInt_lt.mp c_17
    rw [show (1 : Int32).toInt = 1 from rfl] at i_18
    refine V.go (pc' := 42) (lv_iconst (v := 0) X.1 X.2.1 d_Statement_stepsLastOpenLevel_41 (by decide)) ?_
    rw [lp_stepsLast] at e_15
    simp only [if_pos c_17] at e_15
    rw [lp_stepsLast_va] at e_16
    simp only [if_pos c_17] at e_16
    exact V.zret X hr hlk rfl ⟨(by exact congrArg (fun z => some (Value.int z)) (e_15.trans hze_15)), (by rw [← hze_16, ← e_16]; exact h_8), (fun q n0_ => rfl)⟩ d_Statement_stepsLastOpenLevel_42
  · have i_19 := mt Int32.lt_iff_toInt_lt.mpr c_17
    rw [show (1 : Int32).toInt = 1 from rfl] at i_19
    refine V.rd (pc' := 11) (fun hl => lv_aload_n X.1 X.2.1 d_Statement_stepsLastOpenLevel_10 rfl (lv_at hl 0 rfl)) ?_
    refine V.rd (pc' := 12) (fun hl => lv_iload_n X.1 X.2.1 d_Statement_stepsLastOpenLevel_11 rfl (lv_at hl 2 rfl)) ?_
    refine V.rd (pc' := 13) (fun hl => lv_aload_n X.1 X.2.1 d_Statement_stepsLastOpenLevel_12 rfl (lv_at hl 1 rfl)) ?_
    refine V.callV0 (pc' := 16) X hK (c_holds  (sm := sm) (acc := acc) (acv := acv) (alc := alc) (afv := afv) (als := als) (ce := ce) (va := va) (sf := sf) (sto := sto) (sk := sk) (sn := sn) (saf := saf) (sc := sc) (sl := sl) (kc := kc) (kv := kv) (f := f) (x := k)   h_1 h_2 h_3 h_7 h_8  ) h_1 rfl (cwG (n := 2) X (mcs wd_43) (mcs wd_44) (mcs wd_45) (mcs wd_46) wd_47 (by decide +kernel) (by decide) (by decide)) rfl rfl (Nat.le_of_ble_eq_true rfl) d_Statement_stepsLastOpenLevel_13 ⟨by decide, by decide⟩ rfl (st1 := [.int (sp_holds kc kv f k)]) rfl ?_
    refine V.bn (pc' := 19) (tgt := 35) (P := (sp_holds kc kv f k) = 0) (lv_if_ne X.1 X.2.1 d_Statement_stepsLastOpenLevel_16 (by decide)) (fun c_21 => ?_) (fun c_21 => ?_)
    · have i_22 := congrArg Int32.toInt c_21
      rw [show (0 : Int32).toInt = 0 from rfl] at i_22
      refine V.rd (pc' := 20) (fun hl => lv_aload_n X.1 X.2.1 d_Statement_stepsLastOpenLevel_19 rfl (lv_at hl 0 rfl)) ?_
      refine V.rd (pc' := 21) (fun hl => lv_iload_n X.1 X.2.1 d_Statement_stepsLastOpenLevel_20 rfl (lv_at hl 2 rfl)) ?_
      refine V.rd (pc' := 22) (fun hl => lv_aload_n X.1 X.2.1 d_Statement_stepsLastOpenLevel_21 rfl (lv_at hl 1 rfl)) ?_
      refine V.callV (pc' := 25) X hK (c_takeStep  (sm := sm) (acc := acc) (acv := acv) (alc := alc) (afv := afv) (als := als) (ce := ce) (va := va) (sf := sf) (sto := sto) (sk := sk) (sn := sn) (saf := saf) (sc := sc) (sl := sl) (lc := lc) (lz := lz) (f := f) (x := k)   h_1 h_4 h_6 h_7 h_8  ) h_1 rfl (cwG (n := 2) X (mcs wd_52) (mcs wd_53) (mcs wd_54) (mcs wd_46) wd_55 (by decide +kernel) (by decide) (by decide)) rfl rfl (Nat.le_of_ble_eq_true rfl) d_Statement_stepsLastOpenLevel_22 ⟨by decide, by decide⟩ rfl (st1 := []) rfl (fun M_23 ⟨h_24, fr_25⟩ => ?_)
      have h_26 : M_23 sm = some (.inr (4, [.int sf, .int sto, .int sk, .int sn, .int saf, .int sc, .int sl, .ref acc, .ref acv, .ref alc, .ref afv, .ref als])) := (fr_25 _ (ne_k h_1 h_8 (i := 4) (j := 100016) rfl rfl (by decide))).trans h_1
      have h_27 : M_23 acc = some (.inl (cI, 7, .inl kc)) := (fr_25 _ (ne_k h_2 h_8 (i := 1007) (j := 100016) rfl rfl (by decide))).trans h_2
      have h_28 : M_23 acv = some (.inl (cL, 7, .inr (.inl kv))) := (fr_25 _ (ne_k h_3 h_8 (i := 100007) (j := 100016) rfl rfl (by decide))).trans h_3
      have h_29 : M_23 alc = some (.inl (cI, 7, .inl lc)) := (fr_25 _ (ne_k h_4 h_8 (i := 1007) (j := 100016) rfl rfl (by decide))).trans h_4
      have h_30 : M_23 afv = some (.inl (cL, 7, .inr (.inl fv))) := (fr_25 _ (ne_k h_5 h_8 (i := 100007) (j := 100016) rfl rfl (by decide))).trans h_5
      have h_31 : M_23 als = some (.inl (cL, 7, .inr (.inl lz))) := (fr_25 _ (ne_k h_6 h_8 (i := 100007) (j := 100016) rfl rfl (by decide))).trans h_6
      have h_32 : M_23 ce = some (.inr (0, [.ref va])) := (fr_25 _ (ne_k h_7 h_8 (i := 0) (j := 100016) rfl rfl (by decide))).trans h_7
      refine V.rd (pc' := 26) (fun hl => lv_aload_n X.1 X.2.1 d_Statement_stepsLastOpenLevel_25 rfl (lv_at hl 0 rfl)) ?_
      refine V.rd (pc' := 27) (fun hl => lv_iload_n X.1 X.2.1 d_Statement_stepsLastOpenLevel_26 rfl (lv_at hl 2 rfl)) ?_
      refine V.go (pc' := 28) (lv_iconst (v := 1) X.1 X.2.1 d_Statement_stepsLastOpenLevel_27 (by decide)) ?_
      refine V.go (pc' := 29) (lv_iadd X.1 X.2.1 d_Statement_stepsLastOpenLevel_28) ?_
      have s_33 : (k + 1).toInt = k.toInt + 1 := i32_add1 (by omega)
      refine V.rd (pc' := 30) (fun hl => lv_aload_n X.1 X.2.1 d_Statement_stepsLastOpenLevel_29 rfl (lv_at hl 1 rfl)) ?_
      refine V.callV (pc' := 33) X hK (c_takeFirstValues  (sm := sm) (acc := acc) (acv := acv) (alc := alc) (afv := afv) (als := als) (ce := ce) (va := va) (sf := sf) (sto := sto) (sk := sk) (sn := sn) (saf := saf) (sc := sc) (sl := sl) (lc := lc) (fv := fv) (f := sp_takeStep_va lc lz f k) (x := k + 1)   h_26 h_29 h_30 h_32 h_24  ) h_26 rfl (cwG (n := 2) X (mcs wd_56) (mcs wd_57) (mcs wd_58) (mcs wd_46) wd_59 (by decide +kernel) (by decide) (by decide)) rfl rfl (Nat.le_of_ble_eq_true rfl) d_Statement_stepsLastOpenLevel_30 ⟨by decide, by decide⟩ rfl (st1 := []) rfl (fun M_34 ⟨h_35, fr_36⟩ => ?_)
      have h_37 : M_34 sm = some (.inr (4, [.int sf, .int sto, .int sk, .int sn, .int saf, .int sc, .int sl, .ref acc, .ref acv, .ref alc, .ref afv, .ref als])) := (fr_36 _ (ne_k h_26 h_24 (i := 4) (j := 100016) rfl rfl (by decide))).trans h_26
      have h_38 : M_34 acc = some (.inl (cI, 7, .inl kc)) := (fr_36 _ (ne_k h_27 h_24 (i := 1007) (j := 100016) rfl rfl (by decide))).trans h_27
      have h_39 : M_34 acv = some (.inl (cL, 7, .inr (.inl kv))) := (fr_36 _ (ne_k h_28 h_24 (i := 100007) (j := 100016) rfl rfl (by decide))).trans h_28
      have h_40 : M_34 alc = some (.inl (cI, 7, .inl lc)) := (fr_36 _ (ne_k h_29 h_24 (i := 1007) (j := 100016) rfl rfl (by decide))).trans h_29
      have h_41 : M_34 afv = some (.inl (cL, 7, .inr (.inl fv))) := (fr_36 _ (ne_k h_30 h_24 (i := 100007) (j := 100016) rfl rfl (by decide))).trans h_30
      have h_42 : M_34 als = some (.inl (cL, 7, .inr (.inl lz))) := (fr_36 _ (ne_k h_31 h_24 (i := 100007) (j := 100016) rfl rfl (by decide))).trans h_31
      have h_43 : M_34 ce = some (.inr (0, [.ref va])) := (fr_36 _ (ne_k h_32 h_24 (i := 0) (j := 100016) rfl rfl (by decide))).trans h_32
      refine V.go (pc' := 34) (lv_iconst (v := 1) X.1 X.2.1 d_Statement_stepsLastOpenLevel_33 (by decide)) ?_
      rw [lp_stepsLast] at e_15
      simp only [if_neg c_17, if_pos c_21] at e_15
      rw [lp_stepsLast_va] at e_16
      simp only [if_neg c_17, if_pos c_21] at e_16
      exact V.zret X hr hlk rfl ⟨(by exact congrArg (fun z => some (Value.int z)) (e_15.trans hze_15)), (by rw [← hze_16, ← e_16]; exact h_35), (fun q n0_ => (fr_36 q n0_).trans ((fr_25 q n0_)))⟩ d_Statement_stepsLastOpenLevel_34
    · have i_44 := mt Int32.toInt_inj.mp c_21
      rw [show (0 : Int32).toInt = 0 from rfl] at i_44
      refine V.wr (pc' := 38) (lv' := [(2, .int (k + (-1))), (0, .ref sm), (1, .ref ce)]) (fun hl => lv_iinc (k := 2) (v := k + (-1)) X.1 X.2.1 d_Statement_stepsLastOpenLevel_35 hl rfl rfl (by decide) rfl) ?_
      have s_45 : (k + (-1)).toInt = k.toInt + (-1) := i32_addm1 (by omega)
      refine V.go (pc' := 5) (lv_goto X.1 X.2.1 d_Statement_stepsLastOpenLevel_38 (by decide)) ?_
      refine V.pick [1, 2, 0] rfl ?_
      exact ih_11 n_10 (by omega) () _ _ ⟨(k + (-1)), rfl, h_1, h_2, h_3, h_4, h_5, h_6, h_7, h_8, rfl, (by first | omega | with_reducible assumption | (have z0_ : (0 : Int32).toInt = 0 := rfl; have z1_ : (1 : Int32).toInt = 1 := rfl; omega)), (by first | omega | with_reducible assumption | (have z0_ : (0 : Int32).toInt = 0 := rfl; have z1_ : (1 : Int32).toInt = 1 := rfl; omega)), (by rw [← e_15, lp_stepsLast]; simp only [if_neg c_17, if_neg c_21]), (by rw [← e_16, lp_stepsLast_va]; simp only [if_neg c_17, if_neg c_21])⟩

theorem b_stepsLast {kc : Nat → Int32} {kv f : Nat → Int64} : ∀ (n : Nat) (k : Int32), lp_stepsLast kc kv f n k = 0 ∨ lp_stepsLast kc kv f n k = 1
  | 0, _ => Or.inl rfl
  | n + 1, k => by
    rw [lp_stepsLast]
    split
    · exact Or.inl rfl
    · split
      · exact Or.inr rfl
      · exact b_stepsLast n _

theorem d_Statement_goesAtFirst_0 : decode prog_6_method_5_code 0 = .ok (.aload_n 0, 1) := by decide +kernel
theorem d_Statement_goesAtFirst_1 : decode prog_6_method_5_code 1 = .ok (.getfield 35, 3) := by decide +kernel
theorem d_Statement_goesAtFirst_4 : decode prog_6_method_5_code 4 = .ok (.tableswitch 65 0 2 #[28, 30, 43], 28) := by decide +kernel
theorem d_Statement_goesAtFirst_32 : decode prog_6_method_5_code 32 = .ok (.iconst 1, 1) := by decide +kernel
theorem d_Statement_goesAtFirst_33 : decode prog_6_method_5_code 33 = .ok (.ireturn, 1) := by decide +kernel
theorem d_Statement_goesAtFirst_34 : decode prog_6_method_5_code 34 = .ok (.aload_n 0, 1) := by decide +kernel
theorem d_Statement_goesAtFirst_35 : decode prog_6_method_5_code 35 = .ok (.getfield 38, 3) := by decide +kernel
theorem d_Statement_goesAtFirst_38 : decode prog_6_method_5_code 38 = .ok (.ifCond .le 7, 3) := by decide +kernel
theorem d_Statement_goesAtFirst_41 : decode prog_6_method_5_code 41 = .ok (.iconst 1, 1) := by decide +kernel
theorem d_Statement_goesAtFirst_42 : decode prog_6_method_5_code 42 = .ok (.goto 4, 3) := by decide +kernel
theorem d_Statement_goesAtFirst_45 : decode prog_6_method_5_code 45 = .ok (.iconst 0, 1) := by decide +kernel
theorem d_Statement_goesAtFirst_46 : decode prog_6_method_5_code 46 = .ok (.ireturn, 1) := by decide +kernel
theorem d_Statement_goesAtFirst_47 : decode prog_6_method_5_code 47 = .ok (.aload_n 0, 1) := by decide +kernel
theorem d_Statement_goesAtFirst_48 : decode prog_6_method_5_code 48 = .ok (.getfield 44, 3) := by decide +kernel
theorem d_Statement_goesAtFirst_51 : decode prog_6_method_5_code 51 = .ok (.ifCond .eq 12, 3) := by decide +kernel
theorem d_Statement_goesAtFirst_54 : decode prog_6_method_5_code 54 = .ok (.aload_n 0, 1) := by decide +kernel
theorem d_Statement_goesAtFirst_55 : decode prog_6_method_5_code 55 = .ok (.iconst 1, 1) := by decide +kernel
theorem d_Statement_goesAtFirst_56 : decode prog_6_method_5_code 56 = .ok (.aload_n 1, 1) := by decide +kernel
theorem d_Statement_goesAtFirst_57 : decode prog_6_method_5_code 57 = .ok (.invokevirtual 57, 3) := by decide +kernel
theorem d_Statement_goesAtFirst_60 : decode prog_6_method_5_code 60 = .ok (.ifCond .ne 7, 3) := by decide +kernel
theorem d_Statement_goesAtFirst_63 : decode prog_6_method_5_code 63 = .ok (.iconst 1, 1) := by decide +kernel
theorem d_Statement_goesAtFirst_64 : decode prog_6_method_5_code 64 = .ok (.goto 4, 3) := by decide +kernel
theorem d_Statement_goesAtFirst_67 : decode prog_6_method_5_code 67 = .ok (.iconst 0, 1) := by decide +kernel
theorem d_Statement_goesAtFirst_68 : decode prog_6_method_5_code 68 = .ok (.ireturn, 1) := by decide +kernel
theorem d_Statement_goesAtFirst_69 : decode prog_6_method_5_code 69 = .ok (.aload_n 0, 1) := by decide +kernel
theorem d_Statement_goesAtFirst_70 : decode prog_6_method_5_code 70 = .ok (.iconst 1, 1) := by decide +kernel
theorem d_Statement_goesAtFirst_71 : decode prog_6_method_5_code 71 = .ok (.aload_n 1, 1) := by decide +kernel
theorem d_Statement_goesAtFirst_72 : decode prog_6_method_5_code 72 = .ok (.invokevirtual 61, 3) := by decide +kernel
theorem d_Statement_goesAtFirst_75 : decode prog_6_method_5_code 75 = .ok (.aload_n 0, 1) := by decide +kernel
theorem d_Statement_goesAtFirst_76 : decode prog_6_method_5_code 76 = .ok (.getfield 44, 3) := by decide +kernel
theorem d_Statement_goesAtFirst_79 : decode prog_6_method_5_code 79 = .ok (.ifCond .eq 11, 3) := by decide +kernel
theorem d_Statement_goesAtFirst_82 : decode prog_6_method_5_code 82 = .ok (.aload_n 0, 1) := by decide +kernel
theorem d_Statement_goesAtFirst_83 : decode prog_6_method_5_code 83 = .ok (.aload_n 1, 1) := by decide +kernel
theorem d_Statement_goesAtFirst_84 : decode prog_6_method_5_code 84 = .ok (.invokevirtual 65, 3) := by decide +kernel
theorem d_Statement_goesAtFirst_87 : decode prog_6_method_5_code 87 = .ok (.ifCond .eq 7, 3) := by decide +kernel
theorem d_Statement_goesAtFirst_90 : decode prog_6_method_5_code 90 = .ok (.iconst 1, 1) := by decide +kernel
theorem d_Statement_goesAtFirst_91 : decode prog_6_method_5_code 91 = .ok (.goto 4, 3) := by decide +kernel
theorem d_Statement_goesAtFirst_94 : decode prog_6_method_5_code 94 = .ok (.iconst 0, 1) := by decide +kernel
theorem d_Statement_goesAtFirst_95 : decode prog_6_method_5_code 95 = .ok (.ireturn, 1) := by decide +kernel

def sp_goesAtFirst (sk : Int32) (sn : Int32) (saf : Int32) (sl : Int32) (kc : Nat → Int32) (kv : Nat → Int64) (lc : Nat → Int32) (fv : Nat → Int64) (lz : Nat → Int64) (f : Nat → Int64) : Int32 := if sk = 0 then 1 else if sk = 1 then (if sn ≤ 0 then 0 else 1) else if sk = 2 then (if saf = 0 then 1 else if (sp_holds kc kv f 1) = 0 then 1 else 0) else if saf = 0 then 1 else if (lp_findsTurn sl kc kv lc fv lz 1001 0 (sp_takeFirstValues_va sl lc fv f 1)) = 0 then 0 else 1
def sp_goesAtFirst_va (sk : Int32) (saf : Int32) (sl : Int32) (kc : Nat → Int32) (kv : Nat → Int64) (lc : Nat → Int32) (fv : Nat → Int64) (lz : Nat → Int64) (f : Nat → Int64) : Nat → Int64 := if sk = 0 then f else if sk = 1 then f else if sk = 2 then f else if saf = 0 then sp_takeFirstValues_va sl lc fv f 1 else lp_findsTurn_va sl kc kv lc fv lz 1001 0 (sp_takeFirstValues_va sl lc fv f 1)
set_option maxHeartbeats 4000000 in
set_option maxRecDepth 100000 in
theorem c_goesAtFirst {l : Launch} {H0 : Heap} {D : va_G} {cI cL cQ cB : ClassId} {M : mp} {sm acc acv alc afv als ce va : Nat} {sf : Int32} {sto : Int32} {sk : Int32} {sn : Int32} {saf : Int32} {sc : Int32} {sl : Int32} {kc : Nat → Int32} {kv : Nat → Int64} {lc : Nat → Int32} {fv : Nat → Int64} {lz : Nat → Int64} {f : Nat → Int64} (hsl : sl.toInt ≤ 7) (gh0 : M sm = some (.inr (4, [.int sf, .int sto, .int sk, .int sn, .int saf, .int sc, .int sl, .ref acc, .ref acv, .ref alc, .ref afv, .ref als]))) (gh1 : M acc = some (.inl (cI, 7, .inl kc))) (gh2 : M acv = some (.inl (cL, 7, .inr (.inl kv)))) (gh3 : M alc = some (.inl (cI, 7, .inl lc))) (gh4 : M afv = some (.inl (cL, 7, .inr (.inl fv)))) (gh5 : M als = some (.inl (cL, 7, .inr (.inl lz)))) (gh6 : M ce = some (.inr (0, [.ref va]))) (gh7 : M va = some (.inl (cL, 16, .inr (.inl f)))) : MC l H0 D cls7 (tysOf cI cL cQ cB) NW ({ cls := "PerformRanges$Statement", name := "goesAtFirst", desc := "(LPerformRanges$Cells;)Z" } : Jvm.MethodName) (Cond.code ({ cls := "PerformRanges$Statement", name := "goesAtFirst", desc := "(LPerformRanges$Cells;)Z" } : Jvm.MethodName) prog_6_method_5_code 2 (Option.some Jvm.ClassFile.FieldType.boolean) :: GW) ({ frames := 4, cells := 0, slots := 0, locals := 88 }) [.ref sm, .ref ce] M (fun v M' => v = some (.int (sp_goesAtFirst sk sn saf sl kc kv lc fv lz f)) ∧ M' va = some (.inl (cL, 16, .inr (.inl (sp_goesAtFirst_va sk saf sl kc kv lc fv lz f)))) ∧ (∀ q, q ≠ va → M' q = M q)) := by
  refine MC.of (cc := prog_6_method_5_code) (nL := 2) (ret := (Option.some Jvm.ClassFile.FieldType.boolean)) (lv := [(0, .ref sm), (1, .ref ce)]) (by decide) rfl (Nat.le_of_ble_eq_true rfl) rfl ?_
  intro p e s m below meth c X hr hlk hnm hK
  refine V.rd (pc' := 1) (fun hl => lv_aload_n X.1 X.2.1 d_Statement_goesAtFirst_0 rfl (lv_at hl 0 rfl)) ?_
  refine V.get (pc' := 4) X hK gh0 uw_Statement rfl 2 (by decide) (mcs wd_17) rfl d_Statement_goesAtFirst_1 rfl ?_
  refine V.dec (P := sk = 0) (fun c_1 => ?_) (fun c_1 => ?_)
  · refine V.go (pc' := 32) (lv_tableIn X.1 X.2.1 d_Statement_goesAtFirst_4 (by rw [c_1]; decide) (by rw [c_1]; decide) (off := 28) (by rw [c_1]; rfl) (by decide)) ?_
    refine V.go (pc' := 33) (lv_iconst (v := 1) X.1 X.2.1 d_Statement_goesAtFirst_32 (by decide)) ?_
    exact V.zret X hr hlk rfl ⟨(by simp only [sp_goesAtFirst, if_pos c_1]), (by simp only [sp_goesAtFirst_va, if_pos c_1]; exact gh7), (fun q n0_ => rfl)⟩ d_Statement_goesAtFirst_33
  · refine V.dec (P := sk = 1) (fun c_2 => ?_) (fun c_2 => ?_)
    · refine V.go (pc' := 34) (lv_tableIn X.1 X.2.1 d_Statement_goesAtFirst_4 (by rw [c_2]; decide) (by rw [c_2]; decide) (off := 30) (by rw [c_2]; rfl) (by decide)) ?_
      refine V.rd (pc' := 35) (fun hl => lv_aload_n X.1 X.2.1 d_Statement_goesAtFirst_34 rfl (lv_at hl 0 rfl)) ?_
      refine V.get (pc' := 38) X hK gh0 uw_Statement rfl 3 (by decide) (mcs wd_60) rfl d_Statement_goesAtFirst_35 rfl ?_
      refine V.br (pc' := 41) (tgt := 45) (P := sn ≤ 0) (lv_if_le X.1 X.2.1 d_Statement_goesAtFirst_38 (by decide)) (fun c_3 => ?_) (fun c_3 => ?_)
      · have i_4 := Int32.le_iff_toInt_le.mp c_3
        rw [show (0 : Int32).toInt = 0 from rfl] at i_4
        refine V.go (pc' := 46) (lv_iconst (v := 0) X.1 X.2.1 d_Statement_goesAtFirst_45 (by decide)) ?_
        exact V.zret X hr hlk rfl ⟨(by simp only [sp_goesAtFirst, if_neg c_1, if_pos c_2, if_pos c_3]), (by simp only [sp_goesAtFirst_va, if_neg c_1, if_pos c_2, if_pos c_3]; exact gh7), (fun q n0_ => rfl)⟩ d_Statement_goesAtFirst_46
      · have i_5 := mt Int32.le_iff_toInt_le.mpr c_3
        rw [show (0 : Int32).toInt = 0 from rfl] at i_5
        refine V.go (pc' := 42) (lv_iconst (v := 1) X.1 X.2.1 d_Statement_goesAtFirst_41 (by decide)) ?_
        refine V.go (pc' := 46) (lv_goto X.1 X.2.1 d_Statement_goesAtFirst_42 (by decide)) ?_
        exact V.zret X hr hlk rfl ⟨(by simp only [sp_goesAtFirst, if_neg c_1, if_pos c_2, if_neg c_3]), (by simp only [sp_goesAtFirst_va, if_neg c_1, if_pos c_2, if_neg c_3]; exact gh7), (fun q n0_ => rfl)⟩ d_Statement_goesAtFirst_46
    · refine V.dec (P := sk = 2) (fun c_6 => ?_) (fun c_6 => ?_)
      · refine V.go (pc' := 47) (lv_tableIn X.1 X.2.1 d_Statement_goesAtFirst_4 (by rw [c_6]; decide) (by rw [c_6]; decide) (off := 43) (by rw [c_6]; rfl) (by decide)) ?_
        refine V.rd (pc' := 48) (fun hl => lv_aload_n X.1 X.2.1 d_Statement_goesAtFirst_47 rfl (lv_at hl 0 rfl)) ?_
        refine V.get (pc' := 51) X hK gh0 uw_Statement rfl 4 (by decide) (mcs wd_33) rfl d_Statement_goesAtFirst_48 rfl ?_
        refine V.br (pc' := 54) (tgt := 63) (P := saf = 0) (lv_if_eq X.1 X.2.1 d_Statement_goesAtFirst_51 (by decide)) (fun c_7 => ?_) (fun c_7 => ?_)
        · have i_8 := congrArg Int32.toInt c_7
          rw [show (0 : Int32).toInt = 0 from rfl] at i_8
          refine V.go (pc' := 64) (lv_iconst (v := 1) X.1 X.2.1 d_Statement_goesAtFirst_63 (by decide)) ?_
          refine V.go (pc' := 68) (lv_goto X.1 X.2.1 d_Statement_goesAtFirst_64 (by decide)) ?_
          exact V.zret X hr hlk rfl ⟨(by simp only [sp_goesAtFirst, if_neg c_1, if_neg c_2, if_pos c_6, if_pos c_7]), (by simp only [sp_goesAtFirst_va, if_neg c_1, if_neg c_2, if_pos c_6, if_pos c_7]; exact gh7), (fun q n0_ => rfl)⟩ d_Statement_goesAtFirst_68
        · have i_9 := mt Int32.toInt_inj.mp c_7
          rw [show (0 : Int32).toInt = 0 from rfl] at i_9
          refine V.rd (pc' := 55) (fun hl => lv_aload_n X.1 X.2.1 d_Statement_goesAtFirst_54 rfl (lv_at hl 0 rfl)) ?_
          refine V.go (pc' := 56) (lv_iconst (v := 1) X.1 X.2.1 d_Statement_goesAtFirst_55 (by decide)) ?_
          refine V.rd (pc' := 57) (fun hl => lv_aload_n X.1 X.2.1 d_Statement_goesAtFirst_56 rfl (lv_at hl 1 rfl)) ?_
          refine V.callV0 (pc' := 60) X hK (c_holds  (sm := sm) (acc := acc) (acv := acv) (alc := alc) (afv := afv) (als := als) (ce := ce) (va := va) (sf := sf) (sto := sto) (sk := sk) (sn := sn) (saf := saf) (sc := sc) (sl := sl) (kc := kc) (kv := kv) (f := f) (x := 1)   gh0 gh1 gh2 gh6 gh7  ) gh0 rfl (cwG (n := 2) X (mcs wd_43) (mcs wd_44) (mcs wd_45) (mcs wd_46) wd_47 (by decide +kernel) (by decide) (by decide)) rfl rfl (Nat.le_of_ble_eq_true rfl) d_Statement_goesAtFirst_57 ⟨by decide, by decide⟩ rfl (st1 := [.int (sp_holds kc kv f 1)]) rfl ?_
          refine V.bn (pc' := 63) (tgt := 67) (P := (sp_holds kc kv f 1) = 0) (lv_if_ne X.1 X.2.1 d_Statement_goesAtFirst_60 (by decide)) (fun c_11 => ?_) (fun c_11 => ?_)
          · have i_12 := congrArg Int32.toInt c_11
            rw [show (0 : Int32).toInt = 0 from rfl] at i_12
            refine V.go (pc' := 64) (lv_iconst (v := 1) X.1 X.2.1 d_Statement_goesAtFirst_63 (by decide)) ?_
            refine V.go (pc' := 68) (lv_goto X.1 X.2.1 d_Statement_goesAtFirst_64 (by decide)) ?_
            exact V.zret X hr hlk rfl ⟨(by simp only [sp_goesAtFirst, if_neg c_1, if_neg c_2, if_pos c_6, if_neg c_7, if_pos c_11]), (by simp only [sp_goesAtFirst_va, if_neg c_1, if_neg c_2, if_pos c_6, if_neg c_7, if_pos c_11]; exact gh7), (fun q n0_ => rfl)⟩ d_Statement_goesAtFirst_68
          · have i_13 := mt Int32.toInt_inj.mp c_11
            rw [show (0 : Int32).toInt = 0 from rfl] at i_13
            refine V.go (pc' := 68) (lv_iconst (v := 0) X.1 X.2.1 d_Statement_goesAtFirst_67 (by decide)) ?_
            exact V.zret X hr hlk rfl ⟨(by simp only [sp_goesAtFirst, if_neg c_1, if_neg c_2, if_pos c_6, if_neg c_7, if_neg c_11]), (by simp only [sp_goesAtFirst_va, if_neg c_1, if_neg c_2, if_pos c_6, if_neg c_7, if_neg c_11]; exact gh7), (fun q n0_ => rfl)⟩ d_Statement_goesAtFirst_68
      · refine V.go (pc' := 69) (lv_tableOut X.1 X.2.1 d_Statement_goesAtFirst_4 (by have t0 := lv_neT (a := 0) c_1 rfl; have t1 := lv_neT (a := 1) c_2 rfl; have t2 := lv_neT (a := 2) c_6 rfl; omega) (by decide)) ?_
        refine V.rd (pc' := 70) (fun hl => lv_aload_n X.1 X.2.1 d_Statement_goesAtFirst_69 rfl (lv_at hl 0 rfl)) ?_
        refine V.go (pc' := 71) (lv_iconst (v := 1) X.1 X.2.1 d_Statement_goesAtFirst_70 (by decide)) ?_
        refine V.rd (pc' := 72) (fun hl => lv_aload_n X.1 X.2.1 d_Statement_goesAtFirst_71 rfl (lv_at hl 1 rfl)) ?_
        refine V.callV (pc' := 75) X hK (c_takeFirstValues  (sm := sm) (acc := acc) (acv := acv) (alc := alc) (afv := afv) (als := als) (ce := ce) (va := va) (sf := sf) (sto := sto) (sk := sk) (sn := sn) (saf := saf) (sc := sc) (sl := sl) (lc := lc) (fv := fv) (f := f) (x := 1)   gh0 gh3 gh4 gh6 gh7  ) gh0 rfl (cwG (n := 2) X (mcs wd_56) (mcs wd_57) (mcs wd_58) (mcs wd_46) wd_59 (by decide +kernel) (by decide) (by decide)) rfl rfl (Nat.le_of_ble_eq_true rfl) d_Statement_goesAtFirst_72 ⟨by decide, by decide⟩ rfl (st1 := []) rfl (fun M_14 ⟨h_15, fr_16⟩ => ?_)
        have h_17 : M_14 sm = some (.inr (4, [.int sf, .int sto, .int sk, .int sn, .int saf, .int sc, .int sl, .ref acc, .ref acv, .ref alc, .ref afv, .ref als])) := (fr_16 _ (ne_k gh0 gh7 (i := 4) (j := 100016) rfl rfl (by decide))).trans gh0
        have h_18 : M_14 acc = some (.inl (cI, 7, .inl kc)) := (fr_16 _ (ne_k gh1 gh7 (i := 1007) (j := 100016) rfl rfl (by decide))).trans gh1
        have h_19 : M_14 acv = some (.inl (cL, 7, .inr (.inl kv))) := (fr_16 _ (ne_k gh2 gh7 (i := 100007) (j := 100016) rfl rfl (by decide))).trans gh2
        have h_20 : M_14 alc = some (.inl (cI, 7, .inl lc)) := (fr_16 _ (ne_k gh3 gh7 (i := 1007) (j := 100016) rfl rfl (by decide))).trans gh3
        have h_21 : M_14 afv = some (.inl (cL, 7, .inr (.inl fv))) := (fr_16 _ (ne_k gh4 gh7 (i := 100007) (j := 100016) rfl rfl (by decide))).trans gh4
        have h_22 : M_14 als = some (.inl (cL, 7, .inr (.inl lz))) := (fr_16 _ (ne_k gh5 gh7 (i := 100007) (j := 100016) rfl rfl (by decide))).trans gh5
        have h_23 : M_14 ce = some (.inr (0, [.ref va])) := (fr_16 _ (ne_k gh6 gh7 (i := 0) (j := 100016) rfl rfl (by decide))).trans gh6
        refine V.rd (pc' := 76) (fun hl => lv_aload_n X.1 X.2.1 d_Statement_goesAtFirst_75 rfl (lv_at hl 0 rfl)) ?_
        refine V.get (pc' := 79) X hK h_17 uw_Statement rfl 4 (by decide) (mcs wd_33) rfl d_Statement_goesAtFirst_76 rfl ?_
        refine V.br (pc' := 82) (tgt := 90) (P := saf = 0) (lv_if_eq X.1 X.2.1 d_Statement_goesAtFirst_79 (by decide)) (fun c_24 => ?_) (fun c_24 => ?_)
        · have i_25 := congrArg Int32.toInt c_24
          rw [show (0 : Int32).toInt = 0 from rfl] at i_25
          refine V.go (pc' := 91) (lv_iconst (v := 1) X.1 X.2.1 d_Statement_goesAtFirst_90 (by decide)) ?_
          refine V.go (pc' := 95) (lv_goto X.1 X.2.1 d_Statement_goesAtFirst_91 (by decide)) ?_
          exact V.zret X hr hlk rfl ⟨(by simp only [sp_goesAtFirst, if_neg c_1, if_neg c_2, if_neg c_6, if_pos c_24]), (by simp only [sp_goesAtFirst_va, if_neg c_1, if_neg c_2, if_neg c_6, if_pos c_24]; exact h_15), (fun q n0_ => (fr_16 q n0_))⟩ d_Statement_goesAtFirst_95
        · have i_26 := mt Int32.toInt_inj.mp c_24
          rw [show (0 : Int32).toInt = 0 from rfl] at i_26
          refine V.rd (pc' := 83) (fun hl => lv_aload_n X.1 X.2.1 d_Statement_goesAtFirst_82 rfl (lv_at hl 0 rfl)) ?_
          refine V.rd (pc' := 84) (fun hl => lv_aload_n X.1 X.2.1 d_Statement_goesAtFirst_83 rfl (lv_at hl 1 rfl)) ?_
          refine V.callV (pc' := 87) X hK (c_findsTurn  (sm := sm) (acc := acc) (acv := acv) (alc := alc) (afv := afv) (als := als) (ce := ce) (va := va) (sf := sf) (sto := sto) (sk := sk) (sn := sn) (saf := saf) (sc := sc) (sl := sl) (kc := kc) (kv := kv) (lc := lc) (fv := fv) (lz := lz) (f := sp_takeFirstValues_va sl lc fv f 1) (by first | omega | with_reducible assumption | (have z0_ : (0 : Int32).toInt = 0 := rfl; have z1_ : (1 : Int32).toInt = 1 := rfl; omega))  h_17 h_18 h_19 h_20 h_21 h_22 h_23 h_15  ) h_17 rfl (cwG (n := 1) X (mcs wd_61) (mcs wd_62) (mcs wd_63) (mcs wd_46) wd_64 (by decide +kernel) (by decide) (by decide)) rfl rfl (Nat.le_of_ble_eq_true rfl) d_Statement_goesAtFirst_84 ⟨by decide, by decide⟩ rfl (st1 := [.int (lp_findsTurn sl kc kv lc fv lz 1001 0 (sp_takeFirstValues_va sl lc fv f 1))]) rfl (fun M_27 ⟨h_28, fr_29⟩ => ?_)
          have h_30 : M_27 sm = some (.inr (4, [.int sf, .int sto, .int sk, .int sn, .int saf, .int sc, .int sl, .ref acc, .ref acv, .ref alc, .ref afv, .ref als])) := (fr_29 _ (ne_k h_17 h_15 (i := 4) (j := 100016) rfl rfl (by decide))).trans h_17
          have h_31 : M_27 acc = some (.inl (cI, 7, .inl kc)) := (fr_29 _ (ne_k h_18 h_15 (i := 1007) (j := 100016) rfl rfl (by decide))).trans h_18
          have h_32 : M_27 acv = some (.inl (cL, 7, .inr (.inl kv))) := (fr_29 _ (ne_k h_19 h_15 (i := 100007) (j := 100016) rfl rfl (by decide))).trans h_19
          have h_33 : M_27 alc = some (.inl (cI, 7, .inl lc)) := (fr_29 _ (ne_k h_20 h_15 (i := 1007) (j := 100016) rfl rfl (by decide))).trans h_20
          have h_34 : M_27 afv = some (.inl (cL, 7, .inr (.inl fv))) := (fr_29 _ (ne_k h_21 h_15 (i := 100007) (j := 100016) rfl rfl (by decide))).trans h_21
          have h_35 : M_27 als = some (.inl (cL, 7, .inr (.inl lz))) := (fr_29 _ (ne_k h_22 h_15 (i := 100007) (j := 100016) rfl rfl (by decide))).trans h_22
          have h_36 : M_27 ce = some (.inr (0, [.ref va])) := (fr_29 _ (ne_k h_23 h_15 (i := 0) (j := 100016) rfl rfl (by decide))).trans h_23
          refine V.br (pc' := 90) (tgt := 94) (P := (lp_findsTurn sl kc kv lc fv lz 1001 0 (sp_takeFirstValues_va sl lc fv f 1)) = 0) (lv_if_eq X.1 X.2.1 d_Statement_goesAtFirst_87 (by decide)) (fun c_37 => ?_) (fun c_37 => ?_)
          · have i_38 := congrArg Int32.toInt c_37
            rw [show (0 : Int32).toInt = 0 from rfl] at i_38
            refine V.go (pc' := 95) (lv_iconst (v := 0) X.1 X.2.1 d_Statement_goesAtFirst_94 (by decide)) ?_
            exact V.zret X hr hlk rfl ⟨(by simp only [sp_goesAtFirst, if_neg c_1, if_neg c_2, if_neg c_6, if_neg c_24, if_pos c_37]), (by simp only [sp_goesAtFirst_va, if_neg c_1, if_neg c_2, if_neg c_6, if_neg c_24, if_pos c_37]; exact h_28), (fun q n0_ => (fr_29 q n0_).trans ((fr_16 q n0_)))⟩ d_Statement_goesAtFirst_95
          · have i_39 := mt Int32.toInt_inj.mp c_37
            rw [show (0 : Int32).toInt = 0 from rfl] at i_39
            refine V.go (pc' := 91) (lv_iconst (v := 1) X.1 X.2.1 d_Statement_goesAtFirst_90 (by decide)) ?_
            refine V.go (pc' := 95) (lv_goto X.1 X.2.1 d_Statement_goesAtFirst_91 (by decide)) ?_
            exact V.zret X hr hlk rfl ⟨(by simp only [sp_goesAtFirst, if_neg c_1, if_neg c_2, if_neg c_6, if_neg c_24, if_neg c_37]), (by simp only [sp_goesAtFirst_va, if_neg c_1, if_neg c_2, if_neg c_6, if_neg c_24, if_neg c_37]; exact h_28), (fun q n0_ => (fr_29 q n0_).trans ((fr_16 q n0_)))⟩ d_Statement_goesAtFirst_95

theorem d_Statement_goesOnceMore_0 : decode prog_6_method_6_code 0 = .ok (.aload_n 0, 1) := by decide +kernel
theorem d_Statement_goesOnceMore_1 : decode prog_6_method_6_code 1 = .ok (.getfield 35, 3) := by decide +kernel
theorem d_Statement_goesOnceMore_4 : decode prog_6_method_6_code 4 = .ok (.tableswitch 59 0 2 #[28, 30, 44], 28) := by decide +kernel
theorem d_Statement_goesOnceMore_32 : decode prog_6_method_6_code 32 = .ok (.iconst 0, 1) := by decide +kernel
theorem d_Statement_goesOnceMore_33 : decode prog_6_method_6_code 33 = .ok (.ireturn, 1) := by decide +kernel
theorem d_Statement_goesOnceMore_34 : decode prog_6_method_6_code 34 = .ok (.iload_n 1, 1) := by decide +kernel
theorem d_Statement_goesOnceMore_35 : decode prog_6_method_6_code 35 = .ok (.aload_n 0, 1) := by decide +kernel
theorem d_Statement_goesOnceMore_36 : decode prog_6_method_6_code 36 = .ok (.getfield 38, 3) := by decide +kernel
theorem d_Statement_goesOnceMore_39 : decode prog_6_method_6_code 39 = .ok (.if_icmp .ge 7, 3) := by decide +kernel
theorem d_Statement_goesOnceMore_42 : decode prog_6_method_6_code 42 = .ok (.iconst 1, 1) := by decide +kernel
theorem d_Statement_goesOnceMore_43 : decode prog_6_method_6_code 43 = .ok (.goto 4, 3) := by decide +kernel
theorem d_Statement_goesOnceMore_46 : decode prog_6_method_6_code 46 = .ok (.iconst 0, 1) := by decide +kernel
theorem d_Statement_goesOnceMore_47 : decode prog_6_method_6_code 47 = .ok (.ireturn, 1) := by decide +kernel
theorem d_Statement_goesOnceMore_48 : decode prog_6_method_6_code 48 = .ok (.aload_n 0, 1) := by decide +kernel
theorem d_Statement_goesOnceMore_49 : decode prog_6_method_6_code 49 = .ok (.iconst 1, 1) := by decide +kernel
theorem d_Statement_goesOnceMore_50 : decode prog_6_method_6_code 50 = .ok (.aload_n 2, 1) := by decide +kernel
theorem d_Statement_goesOnceMore_51 : decode prog_6_method_6_code 51 = .ok (.invokevirtual 57, 3) := by decide +kernel
theorem d_Statement_goesOnceMore_54 : decode prog_6_method_6_code 54 = .ok (.ifCond .ne 7, 3) := by decide +kernel
theorem d_Statement_goesOnceMore_57 : decode prog_6_method_6_code 57 = .ok (.iconst 1, 1) := by decide +kernel
theorem d_Statement_goesOnceMore_58 : decode prog_6_method_6_code 58 = .ok (.goto 4, 3) := by decide +kernel
theorem d_Statement_goesOnceMore_61 : decode prog_6_method_6_code 61 = .ok (.iconst 0, 1) := by decide +kernel
theorem d_Statement_goesOnceMore_62 : decode prog_6_method_6_code 62 = .ok (.ireturn, 1) := by decide +kernel
theorem d_Statement_goesOnceMore_63 : decode prog_6_method_6_code 63 = .ok (.aload_n 0, 1) := by decide +kernel
theorem d_Statement_goesOnceMore_64 : decode prog_6_method_6_code 64 = .ok (.getfield 44, 3) := by decide +kernel
theorem d_Statement_goesOnceMore_67 : decode prog_6_method_6_code 67 = .ok (.ifCond .ne 9, 3) := by decide +kernel
theorem d_Statement_goesOnceMore_70 : decode prog_6_method_6_code 70 = .ok (.aload_n 0, 1) := by decide +kernel
theorem d_Statement_goesOnceMore_71 : decode prog_6_method_6_code 71 = .ok (.aload_n 2, 1) := by decide +kernel
theorem d_Statement_goesOnceMore_72 : decode prog_6_method_6_code 72 = .ok (.invokevirtual 69, 3) := by decide +kernel
theorem d_Statement_goesOnceMore_75 : decode prog_6_method_6_code 75 = .ok (.ireturn, 1) := by decide +kernel
theorem d_Statement_goesOnceMore_76 : decode prog_6_method_6_code 76 = .ok (.aload_n 0, 1) := by decide +kernel
theorem d_Statement_goesOnceMore_77 : decode prog_6_method_6_code 77 = .ok (.aload_n 0, 1) := by decide +kernel
theorem d_Statement_goesOnceMore_78 : decode prog_6_method_6_code 78 = .ok (.getfield 48, 3) := by decide +kernel
theorem d_Statement_goesOnceMore_81 : decode prog_6_method_6_code 81 = .ok (.aload_n 2, 1) := by decide +kernel
theorem d_Statement_goesOnceMore_82 : decode prog_6_method_6_code 82 = .ok (.invokevirtual 72, 3) := by decide +kernel
theorem d_Statement_goesOnceMore_85 : decode prog_6_method_6_code 85 = .ok (.aload_n 0, 1) := by decide +kernel
theorem d_Statement_goesOnceMore_86 : decode prog_6_method_6_code 86 = .ok (.aload_n 2, 1) := by decide +kernel
theorem d_Statement_goesOnceMore_87 : decode prog_6_method_6_code 87 = .ok (.invokevirtual 65, 3) := by decide +kernel
theorem d_Statement_goesOnceMore_90 : decode prog_6_method_6_code 90 = .ok (.ireturn, 1) := by decide +kernel

def sp_goesOnceMore (sk : Int32) (sn : Int32) (saf : Int32) (sl : Int32) (kc : Nat → Int32) (kv : Nat → Int64) (lc : Nat → Int32) (fv : Nat → Int64) (lz : Nat → Int64) (f : Nat → Int64) (x : Int32) : Int32 := if sk = 0 then 0 else if sk = 1 then (if sn ≤ x then 0 else 1) else if sk = 2 then (if (sp_holds kc kv f 1) = 0 then 1 else 0) else if saf = 0 then lp_stepsLast kc kv f 9 sl else lp_findsTurn sl kc kv lc fv lz 1001 0 (sp_takeStep_va lc lz f sl)
def sp_goesOnceMore_va (sk : Int32) (saf : Int32) (sl : Int32) (kc : Nat → Int32) (kv : Nat → Int64) (lc : Nat → Int32) (fv : Nat → Int64) (lz : Nat → Int64) (f : Nat → Int64) : Nat → Int64 := if sk = 0 then f else if sk = 1 then f else if sk = 2 then f else if saf = 0 then lp_stepsLast_va sl kc kv lc fv lz f 9 sl else lp_findsTurn_va sl kc kv lc fv lz 1001 0 (sp_takeStep_va lc lz f sl)
set_option maxHeartbeats 4000000 in
set_option maxRecDepth 100000 in
theorem c_goesOnceMore {l : Launch} {H0 : Heap} {D : va_G} {cI cL cQ cB : ClassId} {M : mp} {sm acc acv alc afv als ce va : Nat} {sf : Int32} {sto : Int32} {sk : Int32} {sn : Int32} {saf : Int32} {sc : Int32} {sl : Int32} {kc : Nat → Int32} {kv : Nat → Int64} {lc : Nat → Int32} {fv : Nat → Int64} {lz : Nat → Int64} {f : Nat → Int64} {x : Int32} (hsl : sl.toInt ≤ 7) (gh0 : M sm = some (.inr (4, [.int sf, .int sto, .int sk, .int sn, .int saf, .int sc, .int sl, .ref acc, .ref acv, .ref alc, .ref afv, .ref als]))) (gh1 : M acc = some (.inl (cI, 7, .inl kc))) (gh2 : M acv = some (.inl (cL, 7, .inr (.inl kv)))) (gh3 : M alc = some (.inl (cI, 7, .inl lc))) (gh4 : M afv = some (.inl (cL, 7, .inr (.inl fv)))) (gh5 : M als = some (.inl (cL, 7, .inr (.inl lz)))) (gh6 : M ce = some (.inr (0, [.ref va]))) (gh7 : M va = some (.inl (cL, 16, .inr (.inl f)))) : MC l H0 D cls7 (tysOf cI cL cQ cB) NW ({ cls := "PerformRanges$Statement", name := "goesOnceMore", desc := "(ILPerformRanges$Cells;)Z" } : Jvm.MethodName) (Cond.code ({ cls := "PerformRanges$Statement", name := "goesOnceMore", desc := "(ILPerformRanges$Cells;)Z" } : Jvm.MethodName) prog_6_method_6_code 3 (Option.some Jvm.ClassFile.FieldType.boolean) :: GW) ({ frames := 4, cells := 0, slots := 0, locals := 88 }) [.ref sm, .int x, .ref ce] M (fun v M' => v = some (.int (sp_goesOnceMore sk sn saf sl kc kv lc fv lz f x)) ∧ M' va = some (.inl (cL, 16, .inr (.inl (sp_goesOnceMore_va sk saf sl kc kv lc fv lz f)))) ∧ (∀ q, q ≠ va → M' q = M q)) := by
  refine MC.of (cc := prog_6_method_6_code) (nL := 3) (ret := (Option.some Jvm.ClassFile.FieldType.boolean)) (lv := [(0, .ref sm), (1, .int x), (2, .ref ce)]) (by decide) rfl (Nat.le_of_ble_eq_true rfl) rfl ?_
  intro p e s m below meth c X hr hlk hnm hK
  refine V.rd (pc' := 1) (fun hl => lv_aload_n X.1 X.2.1 d_Statement_goesOnceMore_0 rfl (lv_at hl 0 rfl)) ?_
  refine V.get (pc' := 4) X hK gh0 uw_Statement rfl 2 (by decide) (mcs wd_17) rfl d_Statement_goesOnceMore_1 rfl ?_
  refine V.dec (P := sk = 0) (fun c_1 => ?_) (fun c_1 => ?_)
  · refine V.go (pc' := 32) (lv_tableIn X.1 X.2.1 d_Statement_goesOnceMore_4 (by rw [c_1]; decide) (by rw [c_1]; decide) (off := 28) (by rw [c_1]; rfl) (by decide)) ?_
    refine V.go (pc' := 33) (lv_iconst (v := 0) X.1 X.2.1 d_Statement_goesOnceMore_32 (by decide)) ?_
    exact V.zret X hr hlk rfl ⟨(by simp only [sp_goesOnceMore, if_pos c_1]), (by simp only [sp_goesOnceMore_va, if_pos c_1]; exact gh7), (fun q n0_ => rfl)⟩ d_Statement_goesOnceMore_33
  · refine V.dec (P := sk = 1) (fun c_2 => ?_) (fun c_2 => ?_)
    · refine V.go (pc' := 34) (lv_tableIn X.1 X.2.1 d_Statement_goesOnceMore_4 (by rw [c_2]; decide) (by rw [c_2]; decide) (off := 30) (by rw [c_2]; rfl) (by decide)) ?_
      refine V.rd (pc' := 35) (fun hl => lv_iload_n X.1 X.2.1 d_Statement_goesOnceMore_34 rfl (lv_at hl 1 rfl)) ?_
      refine V.rd (pc' := 36) (fun hl => lv_aload_n X.1 X.2.1 d_Statement_goesOnceMore_35 rfl (lv_at hl 0 rfl)) ?_
      refine V.get (pc' := 39) X hK gh0 uw_Statement rfl 3 (by decide) (mcs wd_60) rfl d_Statement_goesOnceMore_36 rfl ?_
      refine V.br (pc' := 42) (tgt := 46) (P := sn ≤ x) (lv_icmp_ge X.1 X.2.1 d_Statement_goesOnceMore_39 (by decide)) (fun c_3 => ?_) (fun c_3 => ?_)
      · have i_4 := Int32.le_iff_toInt_le.mp c_3
        refine V.go (pc' := 47) (lv_iconst (v := 0) X.1 X.2.1 d_Statement_goesOnceMore_46 (by decide)) ?_
        exact V.zret X hr hlk rfl ⟨(by simp only [sp_goesOnceMore, if_neg c_1, if_pos c_2, if_pos c_3]), (by simp only [sp_goesOnceMore_va, if_neg c_1, if_pos c_2, if_pos c_3]; exact gh7), (fun q n0_ => rfl)⟩ d_Statement_goesOnceMore_47
      · have i_5 := mt Int32.le_iff_toInt_le.mpr c_3
        refine V.go (pc' := 43) (lv_iconst (v := 1) X.1 X.2.1 d_Statement_goesOnceMore_42 (by decide)) ?_
        refine V.go (pc' := 47) (lv_goto X.1 X.2.1 d_Statement_goesOnceMore_43 (by decide)) ?_
        exact V.zret X hr hlk rfl ⟨(by simp only [sp_goesOnceMore, if_neg c_1, if_pos c_2, if_neg c_3]), (by simp only [sp_goesOnceMore_va, if_neg c_1, if_pos c_2, if_neg c_3]; exact gh7), (fun q n0_ => rfl)⟩ d_Statement_goesOnceMore_47
    · refine V.dec (P := sk = 2) (fun c_6 => ?_) (fun c_6 => ?_)
      · refine V.go (pc' := 48) (lv_tableIn X.1 X.2.1 d_Statement_goesOnceMore_4 (by rw [c_6]; decide) (by rw [c_6]; decide) (off := 44) (by rw [c_6]; rfl) (by decide)) ?_
        refine V.rd (pc' := 49) (fun hl => lv_aload_n X.1 X.2.1 d_Statement_goesOnceMore_48 rfl (lv_at hl 0 rfl)) ?_
        refine V.go (pc' := 50) (lv_iconst (v := 1) X.1 X.2.1 d_Statement_goesOnceMore_49 (by decide)) ?_
        refine V.rd (pc' := 51) (fun hl => lv_aload_n X.1 X.2.1 d_Statement_goesOnceMore_50 rfl (lv_at hl 2 rfl)) ?_
        refine V.callV0 (pc' := 54) X hK (c_holds  (sm := sm) (acc := acc) (acv := acv) (alc := alc) (afv := afv) (als := als) (ce := ce) (va := va) (sf := sf) (sto := sto) (sk := sk) (sn := sn) (saf := saf) (sc := sc) (sl := sl) (kc := kc) (kv := kv) (f := f) (x := 1)   gh0 gh1 gh2 gh6 gh7  ) gh0 rfl (cwG (n := 2) X (mcs wd_43) (mcs wd_44) (mcs wd_45) (mcs wd_46) wd_47 (by decide +kernel) (by decide) (by decide)) rfl rfl (Nat.le_of_ble_eq_true rfl) d_Statement_goesOnceMore_51 ⟨by decide, by decide⟩ rfl (st1 := [.int (sp_holds kc kv f 1)]) rfl ?_
        refine V.bn (pc' := 57) (tgt := 61) (P := (sp_holds kc kv f 1) = 0) (lv_if_ne X.1 X.2.1 d_Statement_goesOnceMore_54 (by decide)) (fun c_8 => ?_) (fun c_8 => ?_)
        · have i_9 := congrArg Int32.toInt c_8
          rw [show (0 : Int32).toInt = 0 from rfl] at i_9
          refine V.go (pc' := 58) (lv_iconst (v := 1) X.1 X.2.1 d_Statement_goesOnceMore_57 (by decide)) ?_
          refine V.go (pc' := 62) (lv_goto X.1 X.2.1 d_Statement_goesOnceMore_58 (by decide)) ?_
          exact V.zret X hr hlk rfl ⟨(by simp only [sp_goesOnceMore, if_neg c_1, if_neg c_2, if_pos c_6, if_pos c_8]), (by simp only [sp_goesOnceMore_va, if_neg c_1, if_neg c_2, if_pos c_6, if_pos c_8]; exact gh7), (fun q n0_ => rfl)⟩ d_Statement_goesOnceMore_62
        · have i_10 := mt Int32.toInt_inj.mp c_8
          rw [show (0 : Int32).toInt = 0 from rfl] at i_10
          refine V.go (pc' := 62) (lv_iconst (v := 0) X.1 X.2.1 d_Statement_goesOnceMore_61 (by decide)) ?_
          exact V.zret X hr hlk rfl ⟨(by simp only [sp_goesOnceMore, if_neg c_1, if_neg c_2, if_pos c_6, if_neg c_8]), (by simp only [sp_goesOnceMore_va, if_neg c_1, if_neg c_2, if_pos c_6, if_neg c_8]; exact gh7), (fun q n0_ => rfl)⟩ d_Statement_goesOnceMore_62
      · refine V.go (pc' := 63) (lv_tableOut X.1 X.2.1 d_Statement_goesOnceMore_4 (by have t0 := lv_neT (a := 0) c_1 rfl; have t1 := lv_neT (a := 1) c_2 rfl; have t2 := lv_neT (a := 2) c_6 rfl; omega) (by decide)) ?_
        refine V.rd (pc' := 64) (fun hl => lv_aload_n X.1 X.2.1 d_Statement_goesOnceMore_63 rfl (lv_at hl 0 rfl)) ?_
        refine V.get (pc' := 67) X hK gh0 uw_Statement rfl 4 (by decide) (mcs wd_33) rfl d_Statement_goesOnceMore_64 rfl ?_
        refine V.bn (pc' := 70) (tgt := 76) (P := saf = 0) (lv_if_ne X.1 X.2.1 d_Statement_goesOnceMore_67 (by decide)) (fun c_11 => ?_) (fun c_11 => ?_)
        · have i_12 := congrArg Int32.toInt c_11
          rw [show (0 : Int32).toInt = 0 from rfl] at i_12
          refine V.rd (pc' := 71) (fun hl => lv_aload_n X.1 X.2.1 d_Statement_goesOnceMore_70 rfl (lv_at hl 0 rfl)) ?_
          refine V.rd (pc' := 72) (fun hl => lv_aload_n X.1 X.2.1 d_Statement_goesOnceMore_71 rfl (lv_at hl 2 rfl)) ?_
          refine V.callV (pc' := 75) X hK (c_stepsLast  (sm := sm) (acc := acc) (acv := acv) (alc := alc) (afv := afv) (als := als) (ce := ce) (va := va) (sf := sf) (sto := sto) (sk := sk) (sn := sn) (saf := saf) (sc := sc) (sl := sl) (kc := kc) (kv := kv) (lc := lc) (fv := fv) (lz := lz) (f := f) (by first | omega | with_reducible assumption | (have z0_ : (0 : Int32).toInt = 0 := rfl; have z1_ : (1 : Int32).toInt = 1 := rfl; omega))  gh0 gh1 gh2 gh3 gh4 gh5 gh6 gh7  ) gh0 rfl (cwG (n := 1) X (mcs wd_65) (mcs wd_66) (mcs wd_67) (mcs wd_46) wd_68 (by decide +kernel) (by decide) (by decide)) rfl rfl (Nat.le_of_ble_eq_true rfl) d_Statement_goesOnceMore_72 ⟨by decide, by decide⟩ rfl (st1 := [.int (lp_stepsLast kc kv f 9 sl)]) rfl (fun M_13 ⟨h_14, fr_15⟩ => ?_)
          have h_16 : M_13 sm = some (.inr (4, [.int sf, .int sto, .int sk, .int sn, .int saf, .int sc, .int sl, .ref acc, .ref acv, .ref alc, .ref afv, .ref als])) := (fr_15 _ (ne_k gh0 gh7 (i := 4) (j := 100016) rfl rfl (by decide))).trans gh0
          have h_17 : M_13 acc = some (.inl (cI, 7, .inl kc)) := (fr_15 _ (ne_k gh1 gh7 (i := 1007) (j := 100016) rfl rfl (by decide))).trans gh1
          have h_18 : M_13 acv = some (.inl (cL, 7, .inr (.inl kv))) := (fr_15 _ (ne_k gh2 gh7 (i := 100007) (j := 100016) rfl rfl (by decide))).trans gh2
          have h_19 : M_13 alc = some (.inl (cI, 7, .inl lc)) := (fr_15 _ (ne_k gh3 gh7 (i := 1007) (j := 100016) rfl rfl (by decide))).trans gh3
          have h_20 : M_13 afv = some (.inl (cL, 7, .inr (.inl fv))) := (fr_15 _ (ne_k gh4 gh7 (i := 100007) (j := 100016) rfl rfl (by decide))).trans gh4
          have h_21 : M_13 als = some (.inl (cL, 7, .inr (.inl lz))) := (fr_15 _ (ne_k gh5 gh7 (i := 100007) (j := 100016) rfl rfl (by decide))).trans gh5
          have h_22 : M_13 ce = some (.inr (0, [.ref va])) := (fr_15 _ (ne_k gh6 gh7 (i := 0) (j := 100016) rfl rfl (by decide))).trans gh6
          exact V.zret X hr hlk (nb_ok (b_stepsLast _ _)) ⟨(by simp only [sp_goesOnceMore, if_neg c_1, if_neg c_2, if_neg c_6, if_pos c_11]), (by simp only [sp_goesOnceMore_va, if_neg c_1, if_neg c_2, if_neg c_6, if_pos c_11]; exact h_14), (fun q n0_ => (fr_15 q n0_))⟩ d_Statement_goesOnceMore_75
        · have i_23 := mt Int32.toInt_inj.mp c_11
          rw [show (0 : Int32).toInt = 0 from rfl] at i_23
          refine V.rd (pc' := 77) (fun hl => lv_aload_n X.1 X.2.1 d_Statement_goesOnceMore_76 rfl (lv_at hl 0 rfl)) ?_
          refine V.rd (pc' := 78) (fun hl => lv_aload_n X.1 X.2.1 d_Statement_goesOnceMore_77 rfl (lv_at hl 0 rfl)) ?_
          refine V.get (pc' := 81) X hK gh0 uw_Statement rfl 6 (by decide) (mcs wd_19) rfl d_Statement_goesOnceMore_78 rfl ?_
          refine V.rd (pc' := 82) (fun hl => lv_aload_n X.1 X.2.1 d_Statement_goesOnceMore_81 rfl (lv_at hl 2 rfl)) ?_
          refine V.callV (pc' := 85) X hK (c_takeStep  (sm := sm) (acc := acc) (acv := acv) (alc := alc) (afv := afv) (als := als) (ce := ce) (va := va) (sf := sf) (sto := sto) (sk := sk) (sn := sn) (saf := saf) (sc := sc) (sl := sl) (lc := lc) (lz := lz) (f := f) (x := sl)   gh0 gh3 gh5 gh6 gh7  ) gh0 rfl (cwG (n := 2) X (mcs wd_52) (mcs wd_53) (mcs wd_54) (mcs wd_46) wd_55 (by decide +kernel) (by decide) (by decide)) rfl rfl (Nat.le_of_ble_eq_true rfl) d_Statement_goesOnceMore_82 ⟨by decide, by decide⟩ rfl (st1 := []) rfl (fun M_24 ⟨h_25, fr_26⟩ => ?_)
          have h_27 : M_24 sm = some (.inr (4, [.int sf, .int sto, .int sk, .int sn, .int saf, .int sc, .int sl, .ref acc, .ref acv, .ref alc, .ref afv, .ref als])) := (fr_26 _ (ne_k gh0 gh7 (i := 4) (j := 100016) rfl rfl (by decide))).trans gh0
          have h_28 : M_24 acc = some (.inl (cI, 7, .inl kc)) := (fr_26 _ (ne_k gh1 gh7 (i := 1007) (j := 100016) rfl rfl (by decide))).trans gh1
          have h_29 : M_24 acv = some (.inl (cL, 7, .inr (.inl kv))) := (fr_26 _ (ne_k gh2 gh7 (i := 100007) (j := 100016) rfl rfl (by decide))).trans gh2
          have h_30 : M_24 alc = some (.inl (cI, 7, .inl lc)) := (fr_26 _ (ne_k gh3 gh7 (i := 1007) (j := 100016) rfl rfl (by decide))).trans gh3
          have h_31 : M_24 afv = some (.inl (cL, 7, .inr (.inl fv))) := (fr_26 _ (ne_k gh4 gh7 (i := 100007) (j := 100016) rfl rfl (by decide))).trans gh4
          have h_32 : M_24 als = some (.inl (cL, 7, .inr (.inl lz))) := (fr_26 _ (ne_k gh5 gh7 (i := 100007) (j := 100016) rfl rfl (by decide))).trans gh5
          have h_33 : M_24 ce = some (.inr (0, [.ref va])) := (fr_26 _ (ne_k gh6 gh7 (i := 0) (j := 100016) rfl rfl (by decide))).trans gh6
          refine V.rd (pc' := 86) (fun hl => lv_aload_n X.1 X.2.1 d_Statement_goesOnceMore_85 rfl (lv_at hl 0 rfl)) ?_
          refine V.rd (pc' := 87) (fun hl => lv_aload_n X.1 X.2.1 d_Statement_goesOnceMore_86 rfl (lv_at hl 2 rfl)) ?_
          refine V.callV (pc' := 90) X hK (c_findsTurn  (sm := sm) (acc := acc) (acv := acv) (alc := alc) (afv := afv) (als := als) (ce := ce) (va := va) (sf := sf) (sto := sto) (sk := sk) (sn := sn) (saf := saf) (sc := sc) (sl := sl) (kc := kc) (kv := kv) (lc := lc) (fv := fv) (lz := lz) (f := sp_takeStep_va lc lz f sl) (by first | omega | with_reducible assumption | (have z0_ : (0 : Int32).toInt = 0 := rfl; have z1_ : (1 : Int32).toInt = 1 := rfl; omega))  h_27 h_28 h_29 h_30 h_31 h_32 h_33 h_25  ) h_27 rfl (cwG (n := 1) X (mcs wd_61) (mcs wd_62) (mcs wd_63) (mcs wd_46) wd_64 (by decide +kernel) (by decide) (by decide)) rfl rfl (Nat.le_of_ble_eq_true rfl) d_Statement_goesOnceMore_87 ⟨by decide, by decide⟩ rfl (st1 := [.int (lp_findsTurn sl kc kv lc fv lz 1001 0 (sp_takeStep_va lc lz f sl))]) rfl (fun M_34 ⟨h_35, fr_36⟩ => ?_)
          have h_37 : M_34 sm = some (.inr (4, [.int sf, .int sto, .int sk, .int sn, .int saf, .int sc, .int sl, .ref acc, .ref acv, .ref alc, .ref afv, .ref als])) := (fr_36 _ (ne_k h_27 h_25 (i := 4) (j := 100016) rfl rfl (by decide))).trans h_27
          have h_38 : M_34 acc = some (.inl (cI, 7, .inl kc)) := (fr_36 _ (ne_k h_28 h_25 (i := 1007) (j := 100016) rfl rfl (by decide))).trans h_28
          have h_39 : M_34 acv = some (.inl (cL, 7, .inr (.inl kv))) := (fr_36 _ (ne_k h_29 h_25 (i := 100007) (j := 100016) rfl rfl (by decide))).trans h_29
          have h_40 : M_34 alc = some (.inl (cI, 7, .inl lc)) := (fr_36 _ (ne_k h_30 h_25 (i := 1007) (j := 100016) rfl rfl (by decide))).trans h_30
          have h_41 : M_34 afv = some (.inl (cL, 7, .inr (.inl fv))) := (fr_36 _ (ne_k h_31 h_25 (i := 100007) (j := 100016) rfl rfl (by decide))).trans h_31
          have h_42 : M_34 als = some (.inl (cL, 7, .inr (.inl lz))) := (fr_36 _ (ne_k h_32 h_25 (i := 100007) (j := 100016) rfl rfl (by decide))).trans h_32
          have h_43 : M_34 ce = some (.inr (0, [.ref va])) := (fr_36 _ (ne_k h_33 h_25 (i := 0) (j := 100016) rfl rfl (by decide))).trans h_33
          exact V.zret X hr hlk (nb_ok (b_findsTurn _ _ _)) ⟨(by simp only [sp_goesOnceMore, if_neg c_1, if_neg c_2, if_neg c_6, if_neg c_11]), (by simp only [sp_goesOnceMore_va, if_neg c_1, if_neg c_2, if_neg c_6, if_neg c_11]; exact h_35), (fun q n0_ => (fr_36 q n0_).trans ((fr_26 q n0_)))⟩ d_Statement_goesOnceMore_90

theorem d_Cells_copyFrom_0 : decode prog_2_method_5_code 0 = .ok (.iconst 0, 1) := by decide +kernel
theorem d_Cells_copyFrom_1 : decode prog_2_method_5_code 1 = .ok (.istore_n 2, 1) := by decide +kernel
theorem d_Cells_copyFrom_2 : decode prog_2_method_5_code 2 = .ok (.iload_n 2, 1) := by decide +kernel
theorem d_Cells_copyFrom_3 : decode prog_2_method_5_code 3 = .ok (.bipush 16, 2) := by decide +kernel
theorem d_Cells_copyFrom_5 : decode prog_2_method_5_code 5 = .ok (.if_icmp .ge 21, 3) := by decide +kernel
theorem d_Cells_copyFrom_8 : decode prog_2_method_5_code 8 = .ok (.aload_n 0, 1) := by decide +kernel
theorem d_Cells_copyFrom_9 : decode prog_2_method_5_code 9 = .ok (.getfield 9, 3) := by decide +kernel
theorem d_Cells_copyFrom_12 : decode prog_2_method_5_code 12 = .ok (.iload_n 2, 1) := by decide +kernel
theorem d_Cells_copyFrom_13 : decode prog_2_method_5_code 13 = .ok (.aload_n 1, 1) := by decide +kernel
theorem d_Cells_copyFrom_14 : decode prog_2_method_5_code 14 = .ok (.getfield 9, 3) := by decide +kernel
theorem d_Cells_copyFrom_17 : decode prog_2_method_5_code 17 = .ok (.iload_n 2, 1) := by decide +kernel
theorem d_Cells_copyFrom_18 : decode prog_2_method_5_code 18 = .ok (.laload, 1) := by decide +kernel
theorem d_Cells_copyFrom_19 : decode prog_2_method_5_code 19 = .ok (.lastore, 1) := by decide +kernel
theorem d_Cells_copyFrom_20 : decode prog_2_method_5_code 20 = .ok (.iinc 2 1, 3) := by decide +kernel
theorem d_Cells_copyFrom_23 : decode prog_2_method_5_code 23 = .ok (.goto (-21), 3) := by decide +kernel
theorem d_Cells_copyFrom_26 : decode prog_2_method_5_code 26 = .ok (.return_, 1) := by decide +kernel

def lp_Cells_copyFrom_va (g2 : Nat → Int64) : Nat → Int32 → (Nat → Int64) → Nat → Int64
  | 0, _, g => g
  | n_ + 1, k, g => if 16 ≤ k then g else lp_Cells_copyFrom_va g2 n_ (k + 1) (vp_updL g k.toNatClampNeg (g2 k.toNatClampNeg))
set_option maxHeartbeats 4000000 in
set_option maxRecDepth 100000 in
theorem c_Cells_copyFrom {l : Launch} {H0 : Heap} {D : va_G} {cI cL cQ cB : ClassId} {M : mp} {ce va ce2 va2 : Nat} {f : Nat → Int64} {g2 : Nat → Int64} (ne0 : ce ≠ ce2) (ne1 : va ≠ va2) (gh0 : M ce = some (.inr (0, [.ref va]))) (gh1 : M va = some (.inl (cL, 16, .inr (.inl f)))) (gh2 : M ce2 = some (.inr (0, [.ref va2]))) (gh3 : M va2 = some (.inl (cL, 16, .inr (.inl g2)))) : MC l H0 D cls7 (tysOf cI cL cQ cB) NW ({ cls := "PerformRanges$Cells", name := "copyFrom", desc := "(LPerformRanges$Cells;)V" } : Jvm.MethodName) (Cond.code ({ cls := "PerformRanges$Cells", name := "copyFrom", desc := "(LPerformRanges$Cells;)V" } : Jvm.MethodName) prog_2_method_5_code 3 (Option.none : Option Jvm.ClassFile.FieldType) :: GW) ({ frames := 0, cells := 0, slots := 0, locals := 0 }) [.ref ce, .ref ce2] M (fun v M' => v = none ∧ M' va = some (.inl (cL, 16, .inr (.inl (lp_Cells_copyFrom_va g2 17 0 f)))) ∧ (∀ q, q ≠ va → M' q = M q)) := by
  refine MC.of (cc := prog_2_method_5_code) (nL := 3) (ret := (Option.none : Option Jvm.ClassFile.FieldType)) (lv := [(0, .ref ce), (1, .ref ce2)]) (by decide) rfl (Nat.le_of_ble_eq_true rfl) rfl ?_
  intro p e s m below meth c X hr hlk hnm hK
  refine V.go (pc' := 1) (lv_iconst (v := 0) X.1 X.2.1 d_Cells_copyFrom_0 (by decide)) ?_
  refine V.wr (pc' := 2) (lv' := [(2, .int 0), (0, .ref ce), (1, .ref ce2)]) (fun hl => lv_istore_n X.1 X.2.1 d_Cells_copyFrom_1 rfl hl (by decide) rfl) ?_
  obtain ⟨ze_11, hze_11⟩ : ∃ z, z = lp_Cells_copyFrom_va g2 17 0 f := ⟨_, rfl⟩
  refine V.pick [1, 2, 0] rfl ?_
  refine V.ind (α := Unit) (x0 := ()) (n0 := 17) (I := fun nn_ _ M' lv' => ∃ (k : Int32) (g : Nat → Int64), lv' = [(0, .ref ce), (1, .ref ce2), (2, .int k)] ∧ M' ce = some (.inr (0, [.ref va])) ∧ M' va = some (.inl (cL, 16, .inr (.inl g))) ∧ M' ce2 = some (.inr (0, [.ref va2])) ∧ M' va2 = some (.inl (cL, 16, .inr (.inl g2))) ∧ (∀ q, q ≠ va → M' q = M q) ∧ (0 ≤ k.toInt ∧ k.toInt ≤ 16) ∧ (k.toInt + nn_ = 17) ∧ lp_Cells_copyFrom_va g2 nn_ k g = ze_11) ⟨0, f, rfl, gh0, gh1, gh2, gh3, (fun q _ => rfl), (by first | omega | with_reducible assumption | (have z0_ : (0 : Int32).toInt = 0 := rfl; have z1_ : (1 : Int32).toInt = 1 := rfl; omega)), (by first | omega | with_reducible assumption | (have z0_ : (0 : Int32).toInt = 0 := rfl; have z1_ : (1 : Int32).toInt = 1 := rfl; omega)), hze_11.symm⟩ (fun n_6 ih_7 _ M_5 lv_8 hI_9 => ?_)
  obtain ⟨k, g, rfl, h_1, h_2, h_3, h_4, fr_10, j1, j2, e_11⟩ := hI_9
  obtain ⟨n_6, rfl⟩ : ∃ j, n_6 = j + 1 := ⟨n_6 - 1, by omega⟩
  refine V.rd (pc' := 3) (fun hl => lv_iload_n X.1 X.2.1 d_Cells_copyFrom_2 rfl (lv_at hl 2 rfl)) ?_
  refine V.go (pc' := 5) (lv_bipush (v := 16) X.1 X.2.1 d_Cells_copyFrom_3 (by decide)) ?_
  refine V.br (pc' := 8) (tgt := 26) (P := 16 ≤ k) (lv_icmp_ge X.1 X.2.1 d_Cells_copyFrom_5 (by decide)) (fun c_12 => ?_) (fun c_12 => ?_)
  · have i_13 := Int32.le_iff_toInt_le.mp c_12
    rw [show (16 : Int32).toInt = 16 from rfl] at i_13
    rw [lp_Cells_copyFrom_va] at e_11
    simp only [if_pos c_12] at e_11
    exact V.vret X hr hlk ⟨rfl, (by rw [← hze_11, ← e_11]; exact h_2), (fun q n0_ => (fr_10 q n0_))⟩ d_Cells_copyFrom_26
  · have i_14 := mt Int32.le_iff_toInt_le.mpr c_12
    rw [show (16 : Int32).toInt = 16 from rfl] at i_14
    refine V.rd (pc' := 9) (fun hl => lv_aload_n X.1 X.2.1 d_Cells_copyFrom_8 rfl (lv_at hl 0 rfl)) ?_
    refine V.get (pc' := 12) X hK h_1 uw_Cells rfl 0 (by decide) (mcs wd_0) rfl d_Cells_copyFrom_9 rfl ?_
    refine V.rd (pc' := 13) (fun hl => lv_iload_n X.1 X.2.1 d_Cells_copyFrom_12 rfl (lv_at hl 2 rfl)) ?_
    refine V.rd (pc' := 14) (fun hl => lv_aload_n X.1 X.2.1 d_Cells_copyFrom_13 rfl (lv_at hl 1 rfl)) ?_
    refine V.get (pc' := 17) X hK h_3 uw_Cells rfl 0 (by decide) (mcs wd_0) rfl d_Cells_copyFrom_14 rfl ?_
    refine V.rd (pc' := 18) (fun hl => lv_iload_n X.1 X.2.1 d_Cells_copyFrom_17 rfl (lv_at hl 2 rfl)) ?_
    refine V.lald (pc' := 19) X hK 1 h_4 rfl (vin (by omega) (by omega)) d_Cells_copyFrom_18 rfl ?_
    refine V.last (pc' := 20) X hK 1 h_2 rfl (vin (by omega) (by omega)) d_Cells_copyFrom_19 rfl (fun M_15 h_16 fr_17 => ?_)
    have h_18 : M_15 ce = some (.inr (0, [.ref va])) := (fr_17 _ (ne_k h_1 h_2 (i := 0) (j := 100016) rfl rfl (by decide))).trans h_1
    have h_19 : M_15 ce2 = some (.inr (0, [.ref va2])) := (fr_17 _ (ne_k h_3 h_2 (i := 0) (j := 100016) rfl rfl (by decide))).trans h_3
    have h_20 : M_15 va2 = some (.inl (cL, 16, .inr (.inl g2))) := (fr_17 _ (Ne.symm ne1)).trans h_4
    refine V.wr (pc' := 23) (lv' := [(2, .int (k + 1)), (0, .ref ce), (1, .ref ce2)]) (fun hl => lv_iinc (k := 2) (v := k + 1) X.1 X.2.1 d_Cells_copyFrom_20 hl rfl rfl (by decide) rfl) ?_
    have s_21 : (k + 1).toInt = k.toInt + (1) := i32_add1 (by omega)
    refine V.go (pc' := 2) (lv_goto X.1 X.2.1 d_Cells_copyFrom_23 (by decide)) ?_
    refine V.pick [1, 2, 0] rfl ?_
    exact ih_7 n_6 (by omega) () _ _ ⟨(k + 1), (vp_updL g k.toNatClampNeg (g2 k.toNatClampNeg)), rfl, h_18, h_16, h_19, h_20, (fun q n0_ => (fr_17 q n0_).trans ((fr_10 q n0_))), (by first | omega | with_reducible assumption | (have z0_ : (0 : Int32).toInt = 0 := rfl; have z1_ : (1 : Int32).toInt = 1 := rfl; omega)), (by first | omega | with_reducible assumption | (have z0_ : (0 : Int32).toInt = 0 := rfl; have z1_ : (1 : Int32).toInt = 1 := rfl; omega)), (by rw [← e_11, lp_Cells_copyFrom_va]; simp only [if_neg c_12])⟩
