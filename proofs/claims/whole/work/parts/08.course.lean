theorem wd_86 : (Jvm.Cond.fieldLink "PerformRanges$Course" (25 : Nat) "PerformRanges$Course" "ending" "I") ∈ GW := gw_of (i := 127) (by decide +kernel) (by decide +kernel)
theorem wd_87 : (Jvm.Cond.fieldLink "PerformRanges$Course" (29 : Nat) "PerformRanges$Course" "program" "LPerformRanges$Program;") ∈ GW := gw_of (i := 120) (by decide +kernel) (by decide +kernel)
theorem wd_88 : (Jvm.Cond.methodLink "PerformRanges$Course" (107 : Nat) ({ cls := "PerformRanges$Program", name := "isParagraph", desc := "(I)Z" } : Jvm.MethodName)) ∈ GW := gw_of (i := 365) (by decide +kernel) (by decide +kernel)
theorem wd_89 : (Jvm.Cond.methodLink "PerformRanges$Course" (44 : Nat) ({ cls := "PerformRanges$Course", name := "end", desc := "(I)I" } : Jvm.MethodName)) ∈ GW := gw_of (i := 289) (by decide +kernel) (by decide +kernel)
theorem wd_90 : (Jvm.Cond.instanceMethod ({ cls := "PerformRanges$Course", name := "end", desc := "(I)I" } : Jvm.MethodName)) ∈ GW := gw_of (i := 291) (by decide +kernel) (by decide +kernel)
theorem wd_91 : (Jvm.Cond.selects "PerformRanges$Course" ({ cls := "PerformRanges$Course", name := "end", desc := "(I)I" } : Jvm.MethodName) ({ cls := "PerformRanges$Course", name := "end", desc := "(I)I" } : Jvm.MethodName)) ∈ GW := gw_of (i := 2) (by decide +kernel) (by decide +kernel)
theorem wd_92 : (Jvm.Cond.initialized "PerformRanges$Course") ∈ GW := gw_of (i := 33) (by decide +kernel) (by decide +kernel)
theorem wd_93 : (Jvm.Cond.code ({ cls := "PerformRanges$Course", name := "end", desc := "(I)I" } : Jvm.MethodName) prog_3_method_5_code (2 : Nat) (Option.some Jvm.ClassFile.FieldType.int)) ∈ GW := gw_of (i := 292) (by decide +kernel) (by decide +kernel)
theorem wd_94 : (Jvm.Cond.methodLink "PerformRanges$Course" (91 : Nat) ({ cls := "PerformRanges$Program", name := "doingOf", desc := "(I)I" } : Jvm.MethodName)) ∈ GW := gw_of (i := 359) (by decide +kernel) (by decide +kernel)
theorem wd_95 : (Jvm.Cond.fieldLink "PerformRanges$Course" (12 : Nat) "PerformRanges$Course" "cells" "LPerformRanges$Cells;") ∈ GW := gw_of (i := 121) (by decide +kernel) (by decide +kernel)
theorem wd_96 : (Jvm.Cond.methodLink "PerformRanges$Course" (94 : Nat) ({ cls := "PerformRanges$Cells", name := "grow", desc := "(IJ)V" } : Jvm.MethodName)) ∈ GW := gw_of (i := 360) (by decide +kernel) (by decide +kernel)
theorem wd_97 : (Jvm.Cond.methodLink "PerformRanges$Course" (98 : Nat) ({ cls := "PerformRanges$Course", name := "going", desc := "(I)I" } : Jvm.MethodName)) ∈ GW := gw_of (i := 361) (by decide +kernel) (by decide +kernel)
theorem wd_98 : (Jvm.Cond.instanceMethod ({ cls := "PerformRanges$Course", name := "going", desc := "(I)I" } : Jvm.MethodName)) ∈ GW := gw_of (i := 363) (by decide +kernel) (by decide +kernel)
theorem wd_99 : (Jvm.Cond.selects "PerformRanges$Course" ({ cls := "PerformRanges$Course", name := "going", desc := "(I)I" } : Jvm.MethodName) ({ cls := "PerformRanges$Course", name := "going", desc := "(I)I" } : Jvm.MethodName)) ∈ GW := gw_of (i := 10) (by decide +kernel) (by decide +kernel)
theorem wd_100 : (Jvm.Cond.code ({ cls := "PerformRanges$Course", name := "going", desc := "(I)I" } : Jvm.MethodName) prog_3_method_8_code (2 : Nat) (Option.some Jvm.ClassFile.FieldType.int)) ∈ GW := gw_of (i := 364) (by decide +kernel) (by decide +kernel)
theorem wd_101 : (Jvm.Cond.methodLink "PerformRanges$Course" (101 : Nat) ({ cls := "PerformRanges$Cells", name := "value", desc := "(I)J" } : Jvm.MethodName)) ∈ GW := gw_of (i := 366) (by decide +kernel) (by decide +kernel)
theorem wd_102 : (Jvm.Cond.constantLong "PerformRanges$Course" (105 : Nat) (-1 : Int64)) ∈ GW := gw_of (i := 367) (by decide +kernel) (by decide +kernel)
theorem wd_103 : (Jvm.Cond.methodLink "PerformRanges$Course" (66 : Nat) ({ cls := "PerformRanges$Program", name := "wholeStatementAt", desc := "(I)LPerformRanges$Statement;" } : Jvm.MethodName)) ∈ GW := gw_of (i := 288) (by decide +kernel) (by decide +kernel)
theorem wd_104 : (Jvm.Cond.instanceMethod ({ cls := "PerformRanges$Program", name := "wholeStatementAt", desc := "(I)LPerformRanges$Statement;" } : Jvm.MethodName)) ∈ GW := gw_of (i := 267) (by decide +kernel) (by decide +kernel)
theorem wd_105 : (Jvm.Cond.selects "PerformRanges$Program" ({ cls := "PerformRanges$Program", name := "wholeStatementAt", desc := "(I)LPerformRanges$Statement;" } : Jvm.MethodName) ({ cls := "PerformRanges$Program", name := "wholeStatementAt", desc := "(I)LPerformRanges$Statement;" } : Jvm.MethodName)) ∈ GW := gw_of (i := 268) (by decide +kernel) (by decide +kernel)
theorem wd_106 : (Jvm.Cond.code ({ cls := "PerformRanges$Program", name := "wholeStatementAt", desc := "(I)LPerformRanges$Statement;" } : Jvm.MethodName) prog_5_method_11_code (3 : Nat) (Option.some (Jvm.ClassFile.FieldType.object "PerformRanges$Statement"))) ∈ GW := gw_of (i := 269) (by decide +kernel) (by decide +kernel)
theorem wd_107 : (Jvm.Cond.fieldLink "PerformRanges$Course" (21 : Nat) "PerformRanges$Course" "pile" "LPerformRanges$Pile;") ∈ GW := gw_of (i := 123) (by decide +kernel) (by decide +kernel)
theorem wd_108 : (Jvm.Cond.methodLink "PerformRanges$Course" (70 : Nat) ({ cls := "PerformRanges$Pile", name := "isFull", desc := "()Z" } : Jvm.MethodName)) ∈ GW := gw_of (i := 293) (by decide +kernel) (by decide +kernel)
theorem wd_109 : (Jvm.Cond.methodLink "PerformRanges$Course" (74 : Nat) ({ cls := "PerformRanges$Pile", name := "lay", desc := "(LPerformRanges$Statement;I)V" } : Jvm.MethodName)) ∈ GW := gw_of (i := 297) (by decide +kernel) (by decide +kernel)
theorem wd_110 : (Jvm.Cond.instanceMethod ({ cls := "PerformRanges$Pile", name := "lay", desc := "(LPerformRanges$Statement;I)V" } : Jvm.MethodName)) ∈ GW := gw_of (i := 298) (by decide +kernel) (by decide +kernel)
theorem wd_111 : (Jvm.Cond.selects "PerformRanges$Pile" ({ cls := "PerformRanges$Pile", name := "lay", desc := "(LPerformRanges$Statement;I)V" } : Jvm.MethodName) ({ cls := "PerformRanges$Pile", name := "lay", desc := "(LPerformRanges$Statement;I)V" } : Jvm.MethodName)) ∈ GW := gw_of (i := 299) (by decide +kernel) (by decide +kernel)
theorem wd_112 : (Jvm.Cond.code ({ cls := "PerformRanges$Pile", name := "lay", desc := "(LPerformRanges$Statement;I)V" } : Jvm.MethodName) prog_4_method_4_code (3 : Nat) (Option.none : Option Jvm.ClassFile.FieldType)) ∈ GW := gw_of (i := 300) (by decide +kernel) (by decide +kernel)
theorem wd_113 : (Jvm.Cond.methodLink "PerformRanges$Course" (78 : Nat) ({ cls := "PerformRanges$Statement", name := "goesAtFirst", desc := "(LPerformRanges$Cells;)Z" } : Jvm.MethodName)) ∈ GW := gw_of (i := 303) (by decide +kernel) (by decide +kernel)
theorem wd_114 : (Jvm.Cond.instanceMethod ({ cls := "PerformRanges$Statement", name := "goesAtFirst", desc := "(LPerformRanges$Cells;)Z" } : Jvm.MethodName)) ∈ GW := gw_of (i := 304) (by decide +kernel) (by decide +kernel)
theorem wd_115 : (Jvm.Cond.selects "PerformRanges$Statement" ({ cls := "PerformRanges$Statement", name := "goesAtFirst", desc := "(LPerformRanges$Cells;)Z" } : Jvm.MethodName) ({ cls := "PerformRanges$Statement", name := "goesAtFirst", desc := "(LPerformRanges$Cells;)Z" } : Jvm.MethodName)) ∈ GW := gw_of (i := 305) (by decide +kernel) (by decide +kernel)
theorem wd_116 : (Jvm.Cond.code ({ cls := "PerformRanges$Statement", name := "goesAtFirst", desc := "(LPerformRanges$Cells;)Z" } : Jvm.MethodName) prog_6_method_5_code (2 : Nat) (Option.some Jvm.ClassFile.FieldType.boolean)) ∈ GW := gw_of (i := 306) (by decide +kernel) (by decide +kernel)
theorem wd_117 : (Jvm.Cond.methodLink "PerformRanges$Course" (87 : Nat) ({ cls := "PerformRanges$Pile", name := "takeOff", desc := "()I" } : Jvm.MethodName)) ∈ GW := gw_of (i := 339) (by decide +kernel) (by decide +kernel)
theorem wd_118 : (Jvm.Cond.instanceMethod ({ cls := "PerformRanges$Pile", name := "takeOff", desc := "()I" } : Jvm.MethodName)) ∈ GW := gw_of (i := 340) (by decide +kernel) (by decide +kernel)
theorem wd_119 : (Jvm.Cond.selects "PerformRanges$Pile" ({ cls := "PerformRanges$Pile", name := "takeOff", desc := "()I" } : Jvm.MethodName) ({ cls := "PerformRanges$Pile", name := "takeOff", desc := "()I" } : Jvm.MethodName)) ∈ GW := gw_of (i := 341) (by decide +kernel) (by decide +kernel)
theorem wd_120 : (Jvm.Cond.code ({ cls := "PerformRanges$Pile", name := "takeOff", desc := "()I" } : Jvm.MethodName) prog_4_method_7_code (1 : Nat) (Option.some Jvm.ClassFile.FieldType.int)) ∈ GW := gw_of (i := 342) (by decide +kernel) (by decide +kernel)
theorem wd_121 : (Jvm.Cond.methodLink "PerformRanges$Course" (111 : Nat) ({ cls := "PerformRanges$Program", name := "goingOf", desc := "(I)I" } : Jvm.MethodName)) ∈ GW := gw_of (i := 372) (by decide +kernel) (by decide +kernel)
theorem wd_122 : (Jvm.Cond.instanceMethod ({ cls := "PerformRanges$Program", name := "goingOf", desc := "(I)I" } : Jvm.MethodName)) ∈ GW := gw_of (i := 373) (by decide +kernel) (by decide +kernel)
theorem wd_123 : (Jvm.Cond.selects "PerformRanges$Program" ({ cls := "PerformRanges$Program", name := "goingOf", desc := "(I)I" } : Jvm.MethodName) ({ cls := "PerformRanges$Program", name := "goingOf", desc := "(I)I" } : Jvm.MethodName)) ∈ GW := gw_of (i := 374) (by decide +kernel) (by decide +kernel)
theorem wd_124 : (Jvm.Cond.code ({ cls := "PerformRanges$Program", name := "goingOf", desc := "(I)I" } : Jvm.MethodName) prog_5_method_7_code (2 : Nat) (Option.some Jvm.ClassFile.FieldType.int)) ∈ GW := gw_of (i := 375) (by decide +kernel) (by decide +kernel)
theorem wd_125 : (Jvm.Cond.methodLink "PerformRanges$Course" (114 : Nat) ({ cls := "PerformRanges$Pile", name := "top", desc := "()LPerformRanges$Statement;" } : Jvm.MethodName)) ∈ GW := gw_of (i := 376) (by decide +kernel) (by decide +kernel)
theorem wd_126 : (Jvm.Cond.instanceMethod ({ cls := "PerformRanges$Pile", name := "top", desc := "()LPerformRanges$Statement;" } : Jvm.MethodName)) ∈ GW := gw_of (i := 377) (by decide +kernel) (by decide +kernel)
theorem wd_127 : (Jvm.Cond.selects "PerformRanges$Pile" ({ cls := "PerformRanges$Pile", name := "top", desc := "()LPerformRanges$Statement;" } : Jvm.MethodName) ({ cls := "PerformRanges$Pile", name := "top", desc := "()LPerformRanges$Statement;" } : Jvm.MethodName)) ∈ GW := gw_of (i := 378) (by decide +kernel) (by decide +kernel)
theorem wd_128 : (Jvm.Cond.code ({ cls := "PerformRanges$Pile", name := "top", desc := "()LPerformRanges$Statement;" } : Jvm.MethodName) prog_4_method_5_code (1 : Nat) (Option.some (Jvm.ClassFile.FieldType.object "PerformRanges$Statement"))) ∈ GW := gw_of (i := 379) (by decide +kernel) (by decide +kernel)
theorem wd_129 : (Jvm.Cond.methodLink "PerformRanges$Course" (121 : Nat) ({ cls := "PerformRanges$Course", name := "falling", desc := "(I)I" } : Jvm.MethodName)) ∈ GW := gw_of (i := 380) (by decide +kernel) (by decide +kernel)
theorem wd_130 : (Jvm.Cond.instanceMethod ({ cls := "PerformRanges$Course", name := "falling", desc := "(I)I" } : Jvm.MethodName)) ∈ GW := gw_of (i := 382) (by decide +kernel) (by decide +kernel)
theorem wd_131 : (Jvm.Cond.selects "PerformRanges$Course" ({ cls := "PerformRanges$Course", name := "falling", desc := "(I)I" } : Jvm.MethodName) ({ cls := "PerformRanges$Course", name := "falling", desc := "(I)I" } : Jvm.MethodName)) ∈ GW := gw_of (i := 12) (by decide +kernel) (by decide +kernel)
theorem wd_132 : (Jvm.Cond.code ({ cls := "PerformRanges$Course", name := "falling", desc := "(I)I" } : Jvm.MethodName) prog_3_method_10_code (2 : Nat) (Option.some Jvm.ClassFile.FieldType.int)) ∈ GW := gw_of (i := 383) (by decide +kernel) (by decide +kernel)
theorem wd_133 : (Jvm.Cond.methodLink "PerformRanges$Course" (124 : Nat) ({ cls := "PerformRanges$Pile", name := "countTurn", desc := "()I" } : Jvm.MethodName)) ∈ GW := gw_of (i := 384) (by decide +kernel) (by decide +kernel)
theorem wd_134 : (Jvm.Cond.instanceMethod ({ cls := "PerformRanges$Pile", name := "countTurn", desc := "()I" } : Jvm.MethodName)) ∈ GW := gw_of (i := 385) (by decide +kernel) (by decide +kernel)
theorem wd_135 : (Jvm.Cond.selects "PerformRanges$Pile" ({ cls := "PerformRanges$Pile", name := "countTurn", desc := "()I" } : Jvm.MethodName) ({ cls := "PerformRanges$Pile", name := "countTurn", desc := "()I" } : Jvm.MethodName)) ∈ GW := gw_of (i := 386) (by decide +kernel) (by decide +kernel)
theorem wd_136 : (Jvm.Cond.code ({ cls := "PerformRanges$Pile", name := "countTurn", desc := "()I" } : Jvm.MethodName) prog_4_method_6_code (1 : Nat) (Option.some Jvm.ClassFile.FieldType.int)) ∈ GW := gw_of (i := 387) (by decide +kernel) (by decide +kernel)
theorem wd_137 : (Jvm.Cond.methodLink "PerformRanges$Course" (127 : Nat) ({ cls := "PerformRanges$Statement", name := "goesOnceMore", desc := "(ILPerformRanges$Cells;)Z" } : Jvm.MethodName)) ∈ GW := gw_of (i := 388) (by decide +kernel) (by decide +kernel)
theorem wd_138 : (Jvm.Cond.instanceMethod ({ cls := "PerformRanges$Statement", name := "goesOnceMore", desc := "(ILPerformRanges$Cells;)Z" } : Jvm.MethodName)) ∈ GW := gw_of (i := 389) (by decide +kernel) (by decide +kernel)
theorem wd_139 : (Jvm.Cond.selects "PerformRanges$Statement" ({ cls := "PerformRanges$Statement", name := "goesOnceMore", desc := "(ILPerformRanges$Cells;)Z" } : Jvm.MethodName) ({ cls := "PerformRanges$Statement", name := "goesOnceMore", desc := "(ILPerformRanges$Cells;)Z" } : Jvm.MethodName)) ∈ GW := gw_of (i := 390) (by decide +kernel) (by decide +kernel)
theorem wd_140 : (Jvm.Cond.code ({ cls := "PerformRanges$Statement", name := "goesOnceMore", desc := "(ILPerformRanges$Cells;)Z" } : Jvm.MethodName) prog_6_method_6_code (3 : Nat) (Option.some Jvm.ClassFile.FieldType.boolean)) ∈ GW := gw_of (i := 391) (by decide +kernel) (by decide +kernel)
theorem d_Course_end_0 : decode prog_3_method_5_code 0 = .ok (.aload_n 0, 1) := by decide +kernel
theorem d_Course_end_1 : decode prog_3_method_5_code 1 = .ok (.iload_n 1, 1) := by decide +kernel
theorem d_Course_end_2 : decode prog_3_method_5_code 2 = .ok (.putfield 25, 3) := by decide +kernel
theorem d_Course_end_5 : decode prog_3_method_5_code 5 = .ok (.iconst 0, 1) := by decide +kernel
theorem d_Course_end_6 : decode prog_3_method_5_code 6 = .ok (.ireturn, 1) := by decide +kernel

set_option maxHeartbeats 4000000 in
set_option maxRecDepth 100000 in
theorem c_Course_end {l : Launch} {H0 : Heap} {D : va_G} {cI cL cQ cB : ClassId} {M : mp} {co pg ce pi ra : Nat} {ln : Int32} {en : Int32} {x : Int32} (gh0 : M co = some (.inr (1, [.ref pg, .ref ce, .ref pi, .ref ra, .int ln, .int en]))) : MC l H0 D cls7 (tysOf cI cL cQ cB) NW ({ cls := "PerformRanges$Course", name := "end", desc := "(I)I" } : Jvm.MethodName) (Cond.code ({ cls := "PerformRanges$Course", name := "end", desc := "(I)I" } : Jvm.MethodName) prog_3_method_5_code 2 (Option.some Jvm.ClassFile.FieldType.int) :: GW) ({ frames := 0, cells := 0, slots := 0, locals := 0 }) [.ref co, .int x] M (fun v M' => v = some (.int 0) ∧ M' co = some (.inr (1, [.ref pg, .ref ce, .ref pi, .ref ra, .int ln, .int x])) ∧ (∀ q, q ≠ co → M' q = M q)) := by
  refine MC.of (cc := prog_3_method_5_code) (nL := 2) (ret := (Option.some Jvm.ClassFile.FieldType.int)) (lv := [(0, .ref co), (1, .int x)]) (by decide) rfl (Nat.le_of_ble_eq_true rfl) rfl ?_
  intro p e s m below meth c X hr hlk hnm hK
  refine V.rd (pc' := 1) (fun hl => lv_aload_n X.1 X.2.1 d_Course_end_0 rfl (lv_at hl 0 rfl)) ?_
  refine V.rd (pc' := 2) (fun hl => lv_iload_n X.1 X.2.1 d_Course_end_1 rfl (lv_at hl 1 rfl)) ?_
  refine V.put (pc' := 5) X hK gh0 uw_Course t_Course tok_Course nm_Course rfl 5 (by decide) (mcs wd_86) rfl rfl rfl (Nat.le_of_ble_eq_true rfl) (fs' := [.ref pg, .ref ce, .ref pi, .ref ra, .int ln, .int x]) rfl d_Course_end_2 rfl (fun M_1 h_2 fr_3 => ?_)
  refine V.go (pc' := 6) (lv_iconst (v := 0) X.1 X.2.1 d_Course_end_5 (by decide)) ?_
  exact V.iret X hr hlk ⟨rfl, h_2, (fun q n0_ => (fr_3 q n0_))⟩ d_Course_end_6

theorem d_Course_going_0 : decode prog_3_method_8_code 0 = .ok (.aload_n 0, 1) := by decide +kernel
theorem d_Course_going_1 : decode prog_3_method_8_code 1 = .ok (.getfield 29, 3) := by decide +kernel
theorem d_Course_going_4 : decode prog_3_method_8_code 4 = .ok (.iload_n 1, 1) := by decide +kernel
theorem d_Course_going_5 : decode prog_3_method_8_code 5 = .ok (.invokevirtual 107, 3) := by decide +kernel
theorem d_Course_going_8 : decode prog_3_method_8_code 8 = .ok (.ifCond .eq 7, 3) := by decide +kernel
theorem d_Course_going_11 : decode prog_3_method_8_code 11 = .ok (.iload_n 1, 1) := by decide +kernel
theorem d_Course_going_12 : decode prog_3_method_8_code 12 = .ok (.goto 8, 3) := by decide +kernel
theorem d_Course_going_15 : decode prog_3_method_8_code 15 = .ok (.aload_n 0, 1) := by decide +kernel
theorem d_Course_going_16 : decode prog_3_method_8_code 16 = .ok (.iconst 3, 1) := by decide +kernel
theorem d_Course_going_17 : decode prog_3_method_8_code 17 = .ok (.invokevirtual 44, 3) := by decide +kernel
theorem d_Course_going_20 : decode prog_3_method_8_code 20 = .ok (.ireturn, 1) := by decide +kernel

def sp_going (np : Int32) (x : Int32) : Int32 := if (sp_isParagraph np x) = 0 then 0 else x
def sp_going_co_5 (en : Int32) (np : Int32) (x : Int32) : Int32 := if (sp_isParagraph np x) = 0 then 3 else en
set_option maxHeartbeats 4000000 in
set_option maxRecDepth 100000 in
theorem c_going {l : Launch} {H0 : Heap} {D : va_G} {cI cL cQ cB : ClassId} {M : mp} {co pg ce pi ra dg gg tg0 : Nat} {ln : Int32} {en : Int32} {np : Int32} {ns : Int32} {x : Int32} (gh0 : M co = some (.inr (1, [.ref pg, .ref ce, .ref pi, .ref ra, .int ln, .int en]))) (gh1 : M pg = some (.inr (3, [.ref dg, .ref gg, .ref tg0, .int np, .int ns]))) : MC l H0 D cls7 (tysOf cI cL cQ cB) NW ({ cls := "PerformRanges$Course", name := "going", desc := "(I)I" } : Jvm.MethodName) (Cond.code ({ cls := "PerformRanges$Course", name := "going", desc := "(I)I" } : Jvm.MethodName) prog_3_method_8_code 2 (Option.some Jvm.ClassFile.FieldType.int) :: GW) ({ frames := 1, cells := 0, slots := 0, locals := 21 }) [.ref co, .int x] M (fun v M' => v = some (.int (sp_going np x)) ∧ M' co = some (.inr (1, [.ref pg, .ref ce, .ref pi, .ref ra, .int ln, .int (sp_going_co_5 en np x)])) ∧ (∀ q, q ≠ co → M' q = M q)) := by
  refine MC.of (cc := prog_3_method_8_code) (nL := 2) (ret := (Option.some Jvm.ClassFile.FieldType.int)) (lv := [(0, .ref co), (1, .int x)]) (by decide) rfl (Nat.le_of_ble_eq_true rfl) rfl ?_
  intro p e s m below meth c X hr hlk hnm hK
  refine V.rd (pc' := 1) (fun hl => lv_aload_n X.1 X.2.1 d_Course_going_0 rfl (lv_at hl 0 rfl)) ?_
  refine V.get (pc' := 4) X hK gh0 uw_Course rfl 0 (by decide) (mcs wd_87) rfl d_Course_going_1 rfl ?_
  refine V.rd (pc' := 5) (fun hl => lv_iload_n X.1 X.2.1 d_Course_going_4 rfl (lv_at hl 1 rfl)) ?_
  refine V.callV0 (pc' := 8) X hK (c_isParagraph  (pg := pg) (dg := dg) (gg := gg) (tg0 := tg0) (np := np) (ns := ns) (x := x)   gh1  ) gh1 rfl (cwG (n := 1) X (mcs wd_88) (mcs wd_5) (mcs wd_6) (mcs wd_7) wd_8 (by decide +kernel) (by decide) (by decide)) rfl rfl (Nat.le_of_ble_eq_true rfl) d_Course_going_5 ⟨by decide, by decide⟩ rfl (st1 := [.int (sp_isParagraph np x)]) rfl ?_
  refine V.br (pc' := 11) (tgt := 15) (P := (sp_isParagraph np x) = 0) (lv_if_eq X.1 X.2.1 d_Course_going_8 (by decide)) (fun c_2 => ?_) (fun c_2 => ?_)
  · have i_3 := congrArg Int32.toInt c_2
    rw [show (0 : Int32).toInt = 0 from rfl] at i_3
    refine V.rd (pc' := 16) (fun hl => lv_aload_n X.1 X.2.1 d_Course_going_15 rfl (lv_at hl 0 rfl)) ?_
    refine V.go (pc' := 17) (lv_iconst (v := 3) X.1 X.2.1 d_Course_going_16 (by decide)) ?_
    refine V.callV (pc' := 20) X hK (c_Course_end  (co := co) (pg := pg) (ce := ce) (pi := pi) (ra := ra) (ln := ln) (en := en) (x := 3)   gh0  ) gh0 rfl (cwG (n := 1) X (mcs wd_89) (mcs wd_90) (mcs wd_91) (mcs wd_92) wd_93 (by decide +kernel) (by decide) (by decide)) rfl rfl (Nat.le_of_ble_eq_true rfl) d_Course_going_17 ⟨by decide, by decide⟩ rfl (st1 := [.int 0]) rfl (fun M_4 ⟨h_5, fr_6⟩ => ?_)
    have h_7 : M_4 pg = some (.inr (3, [.ref dg, .ref gg, .ref tg0, .int np, .int ns])) := (fr_6 _ (ne_k gh1 gh0 (i := 3) (j := 1) rfl rfl (by decide))).trans gh1
    exact V.iret X hr hlk ⟨(by simp only [sp_going, if_pos c_2]), (by simp only [sp_going_co_5, if_pos c_2]; exact h_5), (fun q n0_ => (fr_6 q n0_))⟩ d_Course_going_20
  · have i_8 := isPar_ne c_2
    refine V.rd (pc' := 12) (fun hl => lv_iload_n X.1 X.2.1 d_Course_going_11 rfl (lv_at hl 1 rfl)) ?_
    refine V.go (pc' := 20) (lv_goto X.1 X.2.1 d_Course_going_12 (by decide)) ?_
    exact V.iret X hr hlk ⟨(by simp only [sp_going, if_neg c_2]), (by simp only [sp_going_co_5, if_neg c_2]; exact gh0), (fun q n0_ => rfl)⟩ d_Course_going_20

theorem d_Course_falling_0 : decode prog_3_method_10_code 0 = .ok (.aload_n 0, 1) := by decide +kernel
theorem d_Course_falling_1 : decode prog_3_method_10_code 1 = .ok (.getfield 29, 3) := by decide +kernel
theorem d_Course_falling_4 : decode prog_3_method_10_code 4 = .ok (.iload_n 1, 1) := by decide +kernel
theorem d_Course_falling_5 : decode prog_3_method_10_code 5 = .ok (.iconst 1, 1) := by decide +kernel
theorem d_Course_falling_6 : decode prog_3_method_10_code 6 = .ok (.iadd, 1) := by decide +kernel
theorem d_Course_falling_7 : decode prog_3_method_10_code 7 = .ok (.invokevirtual 107, 3) := by decide +kernel
theorem d_Course_falling_10 : decode prog_3_method_10_code 10 = .ok (.ifCond .eq 9, 3) := by decide +kernel
theorem d_Course_falling_13 : decode prog_3_method_10_code 13 = .ok (.iload_n 1, 1) := by decide +kernel
theorem d_Course_falling_14 : decode prog_3_method_10_code 14 = .ok (.iconst 1, 1) := by decide +kernel
theorem d_Course_falling_15 : decode prog_3_method_10_code 15 = .ok (.iadd, 1) := by decide +kernel
theorem d_Course_falling_16 : decode prog_3_method_10_code 16 = .ok (.goto 8, 3) := by decide +kernel
theorem d_Course_falling_19 : decode prog_3_method_10_code 19 = .ok (.aload_n 0, 1) := by decide +kernel
theorem d_Course_falling_20 : decode prog_3_method_10_code 20 = .ok (.iconst 2, 1) := by decide +kernel
theorem d_Course_falling_21 : decode prog_3_method_10_code 21 = .ok (.invokevirtual 44, 3) := by decide +kernel
theorem d_Course_falling_24 : decode prog_3_method_10_code 24 = .ok (.ireturn, 1) := by decide +kernel

def sp_falling (np : Int32) (x : Int32) : Int32 := if (sp_isParagraph np (x + 1)) = 0 then 0 else x + 1
def sp_falling_co_5 (en : Int32) (np : Int32) (x : Int32) : Int32 := if (sp_isParagraph np (x + 1)) = 0 then 2 else en
set_option maxHeartbeats 4000000 in
set_option maxRecDepth 100000 in
theorem c_falling {l : Launch} {H0 : Heap} {D : va_G} {cI cL cQ cB : ClassId} {M : mp} {co pg ce pi ra dg gg tg0 : Nat} {ln : Int32} {en : Int32} {np : Int32} {ns : Int32} {x : Int32} (gh0 : M co = some (.inr (1, [.ref pg, .ref ce, .ref pi, .ref ra, .int ln, .int en]))) (gh1 : M pg = some (.inr (3, [.ref dg, .ref gg, .ref tg0, .int np, .int ns]))) : MC l H0 D cls7 (tysOf cI cL cQ cB) NW ({ cls := "PerformRanges$Course", name := "falling", desc := "(I)I" } : Jvm.MethodName) (Cond.code ({ cls := "PerformRanges$Course", name := "falling", desc := "(I)I" } : Jvm.MethodName) prog_3_method_10_code 2 (Option.some Jvm.ClassFile.FieldType.int) :: GW) ({ frames := 1, cells := 0, slots := 0, locals := 21 }) [.ref co, .int x] M (fun v M' => v = some (.int (sp_falling np x)) ∧ M' co = some (.inr (1, [.ref pg, .ref ce, .ref pi, .ref ra, .int ln, .int (sp_falling_co_5 en np x)])) ∧ (∀ q, q ≠ co → M' q = M q)) := by
  refine MC.of (cc := prog_3_method_10_code) (nL := 2) (ret := (Option.some Jvm.ClassFile.FieldType.int)) (lv := [(0, .ref co), (1, .int x)]) (by decide) rfl (Nat.le_of_ble_eq_true rfl) rfl ?_
  intro p e s m below meth c X hr hlk hnm hK
  refine V.rd (pc' := 1) (fun hl => lv_aload_n X.1 X.2.1 d_Course_falling_0 rfl (lv_at hl 0 rfl)) ?_
  refine V.get (pc' := 4) X hK gh0 uw_Course rfl 0 (by decide) (mcs wd_87) rfl d_Course_falling_1 rfl ?_
  refine V.rd (pc' := 5) (fun hl => lv_iload_n X.1 X.2.1 d_Course_falling_4 rfl (lv_at hl 1 rfl)) ?_
  refine V.go (pc' := 6) (lv_iconst (v := 1) X.1 X.2.1 d_Course_falling_5 (by decide)) ?_
  refine V.go (pc' := 7) (lv_iadd X.1 X.2.1 d_Course_falling_6) ?_
  refine V.callV0 (pc' := 10) X hK (c_isParagraph  (pg := pg) (dg := dg) (gg := gg) (tg0 := tg0) (np := np) (ns := ns) (x := x + 1)   gh1  ) gh1 rfl (cwG (n := 1) X (mcs wd_88) (mcs wd_5) (mcs wd_6) (mcs wd_7) wd_8 (by decide +kernel) (by decide) (by decide)) rfl rfl (Nat.le_of_ble_eq_true rfl) d_Course_falling_7 ⟨by decide, by decide⟩ rfl (st1 := [.int (sp_isParagraph np (x + 1))]) rfl ?_
  refine V.br (pc' := 13) (tgt := 19) (P := (sp_isParagraph np (x + 1)) = 0) (lv_if_eq X.1 X.2.1 d_Course_falling_10 (by decide)) (fun c_2 => ?_) (fun c_2 => ?_)
  · have i_3 := congrArg Int32.toInt c_2
    rw [show (0 : Int32).toInt = 0 from rfl] at i_3
    refine V.rd (pc' := 20) (fun hl => lv_aload_n X.1 X.2.1 d_Course_falling_19 rfl (lv_at hl 0 rfl)) ?_
    refine V.go (pc' := 21) (lv_iconst (v := 2) X.1 X.2.1 d_Course_falling_20 (by decide)) ?_
    refine V.callV (pc' := 24) X hK (c_Course_end  (co := co) (pg := pg) (ce := ce) (pi := pi) (ra := ra) (ln := ln) (en := en) (x := 2)   gh0  ) gh0 rfl (cwG (n := 1) X (mcs wd_89) (mcs wd_90) (mcs wd_91) (mcs wd_92) wd_93 (by decide +kernel) (by decide) (by decide)) rfl rfl (Nat.le_of_ble_eq_true rfl) d_Course_falling_21 ⟨by decide, by decide⟩ rfl (st1 := [.int 0]) rfl (fun M_4 ⟨h_5, fr_6⟩ => ?_)
    have h_7 : M_4 pg = some (.inr (3, [.ref dg, .ref gg, .ref tg0, .int np, .int ns])) := (fr_6 _ (ne_k gh1 gh0 (i := 3) (j := 1) rfl rfl (by decide))).trans gh1
    exact V.iret X hr hlk ⟨(by simp only [sp_falling, if_pos c_2]), (by simp only [sp_falling_co_5, if_pos c_2]; exact h_5), (fun q n0_ => (fr_6 q n0_))⟩ d_Course_falling_24
  · have i_8 := isPar_ne c_2
    refine V.rd (pc' := 14) (fun hl => lv_iload_n X.1 X.2.1 d_Course_falling_13 rfl (lv_at hl 1 rfl)) ?_
    refine V.go (pc' := 15) (lv_iconst (v := 1) X.1 X.2.1 d_Course_falling_14 (by decide)) ?_
    refine V.go (pc' := 16) (lv_iadd X.1 X.2.1 d_Course_falling_15) ?_
    refine V.go (pc' := 24) (lv_goto X.1 X.2.1 d_Course_falling_16 (by decide)) ?_
    exact V.iret X hr hlk ⟨(by simp only [sp_falling, if_neg c_2]), (by simp only [sp_falling_co_5, if_neg c_2]; exact gh0), (fun q n0_ => rfl)⟩ d_Course_falling_24

theorem d_Course_doing_0 : decode prog_3_method_7_code 0 = .ok (.aload_n 0, 1) := by decide +kernel
theorem d_Course_doing_1 : decode prog_3_method_7_code 1 = .ok (.getfield 29, 3) := by decide +kernel
theorem d_Course_doing_4 : decode prog_3_method_7_code 4 = .ok (.iload_n 1, 1) := by decide +kernel
theorem d_Course_doing_5 : decode prog_3_method_7_code 5 = .ok (.invokevirtual 91, 3) := by decide +kernel
theorem d_Course_doing_8 : decode prog_3_method_7_code 8 = .ok (.istore_n 2, 1) := by decide +kernel
theorem d_Course_doing_9 : decode prog_3_method_7_code 9 = .ok (.iload_n 2, 1) := by decide +kernel
theorem d_Course_doing_10 : decode prog_3_method_7_code 10 = .ok (.bipush 8, 2) := by decide +kernel
theorem d_Course_doing_12 : decode prog_3_method_7_code 12 = .ok (.idiv, 1) := by decide +kernel
theorem d_Course_doing_13 : decode prog_3_method_7_code 13 = .ok (.bipush 16, 2) := by decide +kernel
theorem d_Course_doing_15 : decode prog_3_method_7_code 15 = .ok (.irem, 1) := by decide +kernel
theorem d_Course_doing_16 : decode prog_3_method_7_code 16 = .ok (.istore_n 3, 1) := by decide +kernel
theorem d_Course_doing_17 : decode prog_3_method_7_code 17 = .ok (.iload_n 2, 1) := by decide +kernel
theorem d_Course_doing_18 : decode prog_3_method_7_code 18 = .ok (.bipush 8, 2) := by decide +kernel
theorem d_Course_doing_20 : decode prog_3_method_7_code 20 = .ok (.irem, 1) := by decide +kernel
theorem d_Course_doing_21 : decode prog_3_method_7_code 21 = .ok (.tableswitch 92 1 4 #[31, 92, 47, 56], 31) := by decide +kernel
theorem d_Course_doing_52 : decode prog_3_method_7_code 52 = .ok (.aload_n 0, 1) := by decide +kernel
theorem d_Course_doing_53 : decode prog_3_method_7_code 53 = .ok (.getfield 12, 3) := by decide +kernel
theorem d_Course_doing_56 : decode prog_3_method_7_code 56 = .ok (.iload_n 3, 1) := by decide +kernel
theorem d_Course_doing_57 : decode prog_3_method_7_code 57 = .ok (.iload_n 2, 1) := by decide +kernel
theorem d_Course_doing_58 : decode prog_3_method_7_code 58 = .ok (.sipush 128, 3) := by decide +kernel
theorem d_Course_doing_61 : decode prog_3_method_7_code 61 = .ok (.idiv, 1) := by decide +kernel
theorem d_Course_doing_62 : decode prog_3_method_7_code 62 = .ok (.i2l, 1) := by decide +kernel
theorem d_Course_doing_63 : decode prog_3_method_7_code 63 = .ok (.invokevirtual 94, 3) := by decide +kernel
theorem d_Course_doing_66 : decode prog_3_method_7_code 66 = .ok (.iconst (-1), 1) := by decide +kernel
theorem d_Course_doing_67 : decode prog_3_method_7_code 67 = .ok (.ireturn, 1) := by decide +kernel
theorem d_Course_doing_68 : decode prog_3_method_7_code 68 = .ok (.aload_n 0, 1) := by decide +kernel
theorem d_Course_doing_69 : decode prog_3_method_7_code 69 = .ok (.iload_n 2, 1) := by decide +kernel
theorem d_Course_doing_70 : decode prog_3_method_7_code 70 = .ok (.bipush 8, 2) := by decide +kernel
theorem d_Course_doing_72 : decode prog_3_method_7_code 72 = .ok (.idiv, 1) := by decide +kernel
theorem d_Course_doing_73 : decode prog_3_method_7_code 73 = .ok (.invokevirtual 98, 3) := by decide +kernel
theorem d_Course_doing_76 : decode prog_3_method_7_code 76 = .ok (.ireturn, 1) := by decide +kernel
theorem d_Course_doing_77 : decode prog_3_method_7_code 77 = .ok (.aload_n 0, 1) := by decide +kernel
theorem d_Course_doing_78 : decode prog_3_method_7_code 78 = .ok (.getfield 12, 3) := by decide +kernel
theorem d_Course_doing_81 : decode prog_3_method_7_code 81 = .ok (.iload_n 3, 1) := by decide +kernel
theorem d_Course_doing_82 : decode prog_3_method_7_code 82 = .ok (.invokevirtual 101, 3) := by decide +kernel
theorem d_Course_doing_85 : decode prog_3_method_7_code 85 = .ok (.lconst 0, 1) := by decide +kernel
theorem d_Course_doing_86 : decode prog_3_method_7_code 86 = .ok (.lcmp, 1) := by decide +kernel
theorem d_Course_doing_87 : decode prog_3_method_7_code 87 = .ok (.ifCond .gt 5, 3) := by decide +kernel
theorem d_Course_doing_90 : decode prog_3_method_7_code 90 = .ok (.iconst (-1), 1) := by decide +kernel
theorem d_Course_doing_91 : decode prog_3_method_7_code 91 = .ok (.ireturn, 1) := by decide +kernel
theorem d_Course_doing_92 : decode prog_3_method_7_code 92 = .ok (.aload_n 0, 1) := by decide +kernel
theorem d_Course_doing_93 : decode prog_3_method_7_code 93 = .ok (.getfield 12, 3) := by decide +kernel
theorem d_Course_doing_96 : decode prog_3_method_7_code 96 = .ok (.iload_n 3, 1) := by decide +kernel
theorem d_Course_doing_97 : decode prog_3_method_7_code 97 = .ok (.ldc2_w 105, 3) := by decide +kernel
theorem d_Course_doing_100 : decode prog_3_method_7_code 100 = .ok (.invokevirtual 94, 3) := by decide +kernel
theorem d_Course_doing_103 : decode prog_3_method_7_code 103 = .ok (.aload_n 0, 1) := by decide +kernel
theorem d_Course_doing_104 : decode prog_3_method_7_code 104 = .ok (.iload_n 2, 1) := by decide +kernel
theorem d_Course_doing_105 : decode prog_3_method_7_code 105 = .ok (.sipush 128, 3) := by decide +kernel
theorem d_Course_doing_108 : decode prog_3_method_7_code 108 = .ok (.idiv, 1) := by decide +kernel
theorem d_Course_doing_109 : decode prog_3_method_7_code 109 = .ok (.invokevirtual 98, 3) := by decide +kernel
theorem d_Course_doing_112 : decode prog_3_method_7_code 112 = .ok (.ireturn, 1) := by decide +kernel
theorem d_Course_doing_113 : decode prog_3_method_7_code 113 = .ok (.iconst (-1), 1) := by decide +kernel
theorem d_Course_doing_114 : decode prog_3_method_7_code 114 = .ok (.ireturn, 1) := by decide +kernel

def sp_doing (np : Int32) (dd : Nat → Int32) (f : Nat → Int64) (x : Int32) : Int32 := if ((sp_doingOf np dd x) - (sp_doingOf np dd x) / 8 * 8) = 1 then (-1) else if ((sp_doingOf np dd x) - (sp_doingOf np dd x) / 8 * 8) = 2 then (-1) else if ((sp_doingOf np dd x) - (sp_doingOf np dd x) / 8 * 8) = 3 then sp_going np ((sp_doingOf np dd x) / 8) else if ((sp_doingOf np dd x) - (sp_doingOf np dd x) / 8 * 8) = 4 then (if 0 < (lg_cmp (sp_Cells_value f (((sp_doingOf np dd x) / 8) - ((sp_doingOf np dd x) / 8) / 16 * 16)) 0) then sp_going np ((sp_doingOf np dd x) / 128) else (-1)) else (-1)
def sp_doing_va (np : Int32) (dd : Nat → Int32) (f : Nat → Int64) (x : Int32) : Nat → Int64 := if ((sp_doingOf np dd x) - (sp_doingOf np dd x) / 8 * 8) = 1 then sp_Cells_grow_va f (((sp_doingOf np dd x) / 8) - ((sp_doingOf np dd x) / 8) / 16 * 16) (((sp_doingOf np dd x) / 128).toInt64) else if ((sp_doingOf np dd x) - (sp_doingOf np dd x) / 8 * 8) = 2 then f else if ((sp_doingOf np dd x) - (sp_doingOf np dd x) / 8 * 8) = 3 then f else if ((sp_doingOf np dd x) - (sp_doingOf np dd x) / 8 * 8) = 4 then (if 0 < (lg_cmp (sp_Cells_value f (((sp_doingOf np dd x) / 8) - ((sp_doingOf np dd x) / 8) / 16 * 16)) 0) then sp_Cells_grow_va f (((sp_doingOf np dd x) / 8) - ((sp_doingOf np dd x) / 8) / 16 * 16) (-1) else f) else f
def sp_doing_co_5 (en : Int32) (np : Int32) (dd : Nat → Int32) (f : Nat → Int64) (x : Int32) : Int32 := if ((sp_doingOf np dd x) - (sp_doingOf np dd x) / 8 * 8) = 1 then en else if ((sp_doingOf np dd x) - (sp_doingOf np dd x) / 8 * 8) = 2 then en else if ((sp_doingOf np dd x) - (sp_doingOf np dd x) / 8 * 8) = 3 then sp_going_co_5 en np ((sp_doingOf np dd x) / 8) else if ((sp_doingOf np dd x) - (sp_doingOf np dd x) / 8 * 8) = 4 then (if 0 < (lg_cmp (sp_Cells_value f (((sp_doingOf np dd x) / 8) - ((sp_doingOf np dd x) / 8) / 16 * 16)) 0) then sp_going_co_5 en np ((sp_doingOf np dd x) / 128) else en) else en
set_option maxHeartbeats 4000000 in
set_option maxRecDepth 100000 in
theorem c_doing {l : Launch} {H0 : Heap} {D : va_G} {cI cL cQ cB : ClassId} {M : mp} {co pg ce pi ra va dg gg tg0 : Nat} {ln : Int32} {en : Int32} {np : Int32} {ns : Int32} {dd : Nat → Int32} {f : Nat → Int64} {x : Int32} (gh0 : M co = some (.inr (1, [.ref pg, .ref ce, .ref pi, .ref ra, .int ln, .int en]))) (gh1 : M ce = some (.inr (0, [.ref va]))) (gh2 : M va = some (.inl (cL, 16, .inr (.inl f)))) (gh3 : M pg = some (.inr (3, [.ref dg, .ref gg, .ref tg0, .int np, .int ns]))) (gh4 : M dg = some (.inl (cI, 60, .inl dd))) : MC l H0 D cls7 (tysOf cI cL cQ cB) NW ({ cls := "PerformRanges$Course", name := "doing", desc := "(I)I" } : Jvm.MethodName) (Cond.code ({ cls := "PerformRanges$Course", name := "doing", desc := "(I)I" } : Jvm.MethodName) prog_3_method_7_code 4 (Option.some Jvm.ClassFile.FieldType.int) :: GW) ({ frames := 2, cells := 0, slots := 0, locals := 42 }) [.ref co, .int x] M (fun v M' => v = some (.int (sp_doing np dd f x)) ∧ M' va = some (.inl (cL, 16, .inr (.inl (sp_doing_va np dd f x)))) ∧ M' co = some (.inr (1, [.ref pg, .ref ce, .ref pi, .ref ra, .int ln, .int (sp_doing_co_5 en np dd f x)])) ∧ (∀ q, q ≠ va → q ≠ co → M' q = M q)) := by
  refine MC.of (cc := prog_3_method_7_code) (nL := 4) (ret := (Option.some Jvm.ClassFile.FieldType.int)) (lv := [(0, .ref co), (1, .int x)]) (by decide) rfl (Nat.le_of_ble_eq_true rfl) rfl ?_
  intro p e s m below meth c X hr hlk hnm hK
  refine V.rd (pc' := 1) (fun hl => lv_aload_n X.1 X.2.1 d_Course_doing_0 rfl (lv_at hl 0 rfl)) ?_
  refine V.get (pc' := 4) X hK gh0 uw_Course rfl 0 (by decide) (mcs wd_87) rfl d_Course_doing_1 rfl ?_
  refine V.rd (pc' := 5) (fun hl => lv_iload_n X.1 X.2.1 d_Course_doing_4 rfl (lv_at hl 1 rfl)) ?_
  refine V.callV0 (pc' := 8) X hK (c_doingOf  (pg := pg) (dg := dg) (gg := gg) (tg0 := tg0) (np := np) (ns := ns) (dd := dd) (x := x)   gh3 gh4  ) gh3 rfl (cwG (n := 1) X (mcs wd_94) (mcs wd_10) (mcs wd_11) (mcs wd_7) wd_12 (by decide +kernel) (by decide) (by decide)) rfl rfl (Nat.le_of_ble_eq_true rfl) d_Course_doing_5 ⟨by decide, by decide⟩ rfl (st1 := [.int (sp_doingOf np dd x)]) rfl ?_
  refine V.wr (pc' := 9) (lv' := [(2, .int (sp_doingOf np dd x)), (0, .ref co), (1, .int x)]) (fun hl => lv_istore_n X.1 X.2.1 d_Course_doing_8 rfl hl (by decide) rfl) ?_
  refine V.rd (pc' := 10) (fun hl => lv_iload_n X.1 X.2.1 d_Course_doing_9 rfl (lv_at hl 0 rfl)) ?_
  refine V.go (pc' := 12) (lv_bipush (v := 8) X.1 X.2.1 d_Course_doing_10 (by decide)) ?_
  refine V.go (pc' := 13) (lv_idiv X.1 X.2.1 d_Course_doing_12 (by decide)) ?_
  refine V.go (pc' := 15) (lv_bipush (v := 16) X.1 X.2.1 d_Course_doing_13 (by decide)) ?_
  refine V.go (pc' := 16) (lv_irem X.1 X.2.1 d_Course_doing_15 (by decide)) ?_
  refine V.wr (pc' := 17) (lv' := [(3, .int (((sp_doingOf np dd x) / 8) - ((sp_doingOf np dd x) / 8) / 16 * 16)), (2, .int (sp_doingOf np dd x)), (0, .ref co), (1, .int x)]) (fun hl => lv_istore_n X.1 X.2.1 d_Course_doing_16 rfl hl (by decide) rfl) ?_
  refine V.rd (pc' := 18) (fun hl => lv_iload_n X.1 X.2.1 d_Course_doing_17 rfl (lv_at hl 1 rfl)) ?_
  refine V.go (pc' := 20) (lv_bipush (v := 8) X.1 X.2.1 d_Course_doing_18 (by decide)) ?_
  refine V.go (pc' := 21) (lv_irem X.1 X.2.1 d_Course_doing_20 (by decide)) ?_
  refine V.dec (P := ((sp_doingOf np dd x) - (sp_doingOf np dd x) / 8 * 8) = 1) (fun c_2 => ?_) (fun c_2 => ?_)
  · refine V.go (pc' := 52) (lv_tableIn X.1 X.2.1 d_Course_doing_21 (by rw [c_2]; decide) (by rw [c_2]; decide) (off := 31) (by rw [c_2]; rfl) (by decide)) ?_
    refine V.rd (pc' := 53) (fun hl => lv_aload_n X.1 X.2.1 d_Course_doing_52 rfl (lv_at hl 2 rfl)) ?_
    refine V.get (pc' := 56) X hK gh0 uw_Course rfl 1 (by decide) (mcs wd_95) rfl d_Course_doing_53 rfl ?_
    refine V.rd (pc' := 57) (fun hl => lv_iload_n X.1 X.2.1 d_Course_doing_56 rfl (lv_at hl 0 rfl)) ?_
    refine V.rd (pc' := 58) (fun hl => lv_iload_n X.1 X.2.1 d_Course_doing_57 rfl (lv_at hl 1 rfl)) ?_
    refine V.go (pc' := 61) (lv_sipush (v := 128) X.1 X.2.1 d_Course_doing_58 (by decide)) ?_
    refine V.go (pc' := 62) (lv_idiv X.1 X.2.1 d_Course_doing_61 (by decide)) ?_
    refine V.go (pc' := 63) (lv_i2l X.1 X.2.1 d_Course_doing_62 rfl) ?_
    refine V.callV (pc' := 66) X hK (c_Cells_grow  (ce := ce) (va := va) (f := f) (x := ((sp_doingOf np dd x) / 8) - ((sp_doingOf np dd x) / 8) / 16 * 16) (y := ((sp_doingOf np dd x) / 128).toInt64)   gh1 gh2  ) gh1 rfl (cwG (n := 2) X (mcs wd_96) (mcs wd_30) (mcs wd_31) (mcs wd_24) wd_32 (by decide +kernel) (by decide) (by decide)) rfl rfl (Nat.le_of_ble_eq_true rfl) d_Course_doing_63 ⟨by decide, by decide⟩ rfl (st1 := []) rfl (fun M_3 ⟨h_4, fr_5⟩ => ?_)
    have h_6 : M_3 co = some (.inr (1, [.ref pg, .ref ce, .ref pi, .ref ra, .int ln, .int en])) := (fr_5 _ (ne_k gh0 gh2 (i := 1) (j := 100016) rfl rfl (by decide))).trans gh0
    have h_7 : M_3 ce = some (.inr (0, [.ref va])) := (fr_5 _ (ne_k gh1 gh2 (i := 0) (j := 100016) rfl rfl (by decide))).trans gh1
    have h_8 : M_3 pg = some (.inr (3, [.ref dg, .ref gg, .ref tg0, .int np, .int ns])) := (fr_5 _ (ne_k gh3 gh2 (i := 3) (j := 100016) rfl rfl (by decide))).trans gh3
    have h_9 : M_3 dg = some (.inl (cI, 60, .inl dd)) := (fr_5 _ (ne_k gh4 gh2 (i := 1060) (j := 100016) rfl rfl (by decide))).trans gh4
    refine V.go (pc' := 67) (lv_iconst (v := (-1)) X.1 X.2.1 d_Course_doing_66 (by decide)) ?_
    exact V.iret X hr hlk ⟨(by simp only [sp_doing, if_pos c_2]), (by simp only [sp_doing_va, if_pos c_2]; exact h_4), (by simp only [sp_doing_co_5, if_pos c_2]; exact h_6), (fun q n0_ n1_ => (fr_5 q n0_))⟩ d_Course_doing_67
  · refine V.dec (P := ((sp_doingOf np dd x) - (sp_doingOf np dd x) / 8 * 8) = 2) (fun c_10 => ?_) (fun c_10 => ?_)
    · refine V.go (pc' := 113) (lv_tableIn X.1 X.2.1 d_Course_doing_21 (by rw [c_10]; decide) (by rw [c_10]; decide) (off := 92) (by rw [c_10]; rfl) (by decide)) ?_
      refine V.go (pc' := 114) (lv_iconst (v := (-1)) X.1 X.2.1 d_Course_doing_113 (by decide)) ?_
      exact V.iret X hr hlk ⟨(by simp only [sp_doing, if_neg c_2, if_pos c_10]), (by simp only [sp_doing_va, if_neg c_2, if_pos c_10]; exact gh2), (by simp only [sp_doing_co_5, if_neg c_2, if_pos c_10]; exact gh0), (fun q n0_ n1_ => rfl)⟩ d_Course_doing_114
    · refine V.dec (P := ((sp_doingOf np dd x) - (sp_doingOf np dd x) / 8 * 8) = 3) (fun c_11 => ?_) (fun c_11 => ?_)
      · refine V.go (pc' := 68) (lv_tableIn X.1 X.2.1 d_Course_doing_21 (by rw [c_11]; decide) (by rw [c_11]; decide) (off := 47) (by rw [c_11]; rfl) (by decide)) ?_
        refine V.rd (pc' := 69) (fun hl => lv_aload_n X.1 X.2.1 d_Course_doing_68 rfl (lv_at hl 2 rfl)) ?_
        refine V.rd (pc' := 70) (fun hl => lv_iload_n X.1 X.2.1 d_Course_doing_69 rfl (lv_at hl 1 rfl)) ?_
        refine V.go (pc' := 72) (lv_bipush (v := 8) X.1 X.2.1 d_Course_doing_70 (by decide)) ?_
        refine V.go (pc' := 73) (lv_idiv X.1 X.2.1 d_Course_doing_72 (by decide)) ?_
        refine V.callV (pc' := 76) X hK (c_going  (co := co) (pg := pg) (ce := ce) (pi := pi) (ra := ra) (dg := dg) (gg := gg) (tg0 := tg0) (ln := ln) (en := en) (np := np) (ns := ns) (x := (sp_doingOf np dd x) / 8)   gh0 gh3  ) gh0 rfl (cwG (n := 1) X (mcs wd_97) (mcs wd_98) (mcs wd_99) (mcs wd_92) wd_100 (by decide +kernel) (by decide) (by decide)) rfl rfl (Nat.le_of_ble_eq_true rfl) d_Course_doing_73 ⟨by decide, by decide⟩ rfl (st1 := [.int (sp_going np ((sp_doingOf np dd x) / 8))]) rfl (fun M_12 ⟨h_13, fr_14⟩ => ?_)
        have h_15 : M_12 ce = some (.inr (0, [.ref va])) := (fr_14 _ (ne_k gh1 gh0 (i := 0) (j := 1) rfl rfl (by decide))).trans gh1
        have h_16 : M_12 va = some (.inl (cL, 16, .inr (.inl f))) := (fr_14 _ (ne_k gh2 gh0 (i := 100016) (j := 1) rfl rfl (by decide))).trans gh2
        have h_17 : M_12 pg = some (.inr (3, [.ref dg, .ref gg, .ref tg0, .int np, .int ns])) := (fr_14 _ (ne_k gh3 gh0 (i := 3) (j := 1) rfl rfl (by decide))).trans gh3
        have h_18 : M_12 dg = some (.inl (cI, 60, .inl dd)) := (fr_14 _ (ne_k gh4 gh0 (i := 1060) (j := 1) rfl rfl (by decide))).trans gh4
        exact V.iret X hr hlk ⟨(by simp only [sp_doing, if_neg c_2, if_neg c_10, if_pos c_11]), (by simp only [sp_doing_va, if_neg c_2, if_neg c_10, if_pos c_11]; exact h_16), (by simp only [sp_doing_co_5, if_neg c_2, if_neg c_10, if_pos c_11]; exact h_13), (fun q n0_ n1_ => (fr_14 q n1_))⟩ d_Course_doing_76
      · refine V.dec (P := ((sp_doingOf np dd x) - (sp_doingOf np dd x) / 8 * 8) = 4) (fun c_19 => ?_) (fun c_19 => ?_)
        · refine V.go (pc' := 77) (lv_tableIn X.1 X.2.1 d_Course_doing_21 (by rw [c_19]; decide) (by rw [c_19]; decide) (off := 56) (by rw [c_19]; rfl) (by decide)) ?_
          refine V.rd (pc' := 78) (fun hl => lv_aload_n X.1 X.2.1 d_Course_doing_77 rfl (lv_at hl 2 rfl)) ?_
          refine V.get (pc' := 81) X hK gh0 uw_Course rfl 1 (by decide) (mcs wd_95) rfl d_Course_doing_78 rfl ?_
          refine V.rd (pc' := 82) (fun hl => lv_iload_n X.1 X.2.1 d_Course_doing_81 rfl (lv_at hl 0 rfl)) ?_
          refine V.callV0 (pc' := 85) X hK (c_Cells_value  (ce := ce) (va := va) (f := f) (x := ((sp_doingOf np dd x) / 8) - ((sp_doingOf np dd x) / 8) / 16 * 16)   gh1 gh2  ) gh1 rfl (cwG (n := 1) X (mcs wd_101) (mcs wd_22) (mcs wd_23) (mcs wd_24) wd_25 (by decide +kernel) (by decide) (by decide)) rfl rfl (Nat.le_of_ble_eq_true rfl) d_Course_doing_82 ⟨by decide, by decide⟩ rfl (st1 := [.long (sp_Cells_value f (((sp_doingOf np dd x) / 8) - ((sp_doingOf np dd x) / 8) / 16 * 16))]) rfl ?_
          refine V.go (pc' := 86) (lv_lconst (v := 0) X.1 X.2.1 d_Course_doing_85 (by decide)) ?_
          refine V.go (pc' := 87) (W.lcmp X.1 X.2.1 d_Course_doing_86) ?_
          refine V.br (pc' := 90) (tgt := 92) (P := 0 < (lg_cmp (sp_Cells_value f (((sp_doingOf np dd x) / 8) - ((sp_doingOf np dd x) / 8) / 16 * 16)) 0)) (lv_if_gt X.1 X.2.1 d_Course_doing_87 (by decide)) (fun c_21 => ?_) (fun c_21 => ?_)
          · refine V.rd (pc' := 93) (fun hl => lv_aload_n X.1 X.2.1 d_Course_doing_92 rfl (lv_at hl 2 rfl)) ?_
            refine V.get (pc' := 96) X hK gh0 uw_Course rfl 1 (by decide) (mcs wd_95) rfl d_Course_doing_93 rfl ?_
            refine V.rd (pc' := 97) (fun hl => lv_iload_n X.1 X.2.1 d_Course_doing_96 rfl (lv_at hl 0 rfl)) ?_
            refine V.go (pc' := 100) (lv_ldc2 (v := (-1)) X.1 X.2.1 X.2.2.2.1 (X.2.2.2.2 _ (mcs wd_102)) d_Course_doing_97) ?_
            refine V.callV (pc' := 103) X hK (c_Cells_grow  (ce := ce) (va := va) (f := f) (x := ((sp_doingOf np dd x) / 8) - ((sp_doingOf np dd x) / 8) / 16 * 16) (y := (-1))   gh1 gh2  ) gh1 rfl (cwG (n := 2) X (mcs wd_96) (mcs wd_30) (mcs wd_31) (mcs wd_24) wd_32 (by decide +kernel) (by decide) (by decide)) rfl rfl (Nat.le_of_ble_eq_true rfl) d_Course_doing_100 ⟨by decide, by decide⟩ rfl (st1 := []) rfl (fun M_22 ⟨h_23, fr_24⟩ => ?_)
            have h_25 : M_22 co = some (.inr (1, [.ref pg, .ref ce, .ref pi, .ref ra, .int ln, .int en])) := (fr_24 _ (ne_k gh0 gh2 (i := 1) (j := 100016) rfl rfl (by decide))).trans gh0
            have h_26 : M_22 ce = some (.inr (0, [.ref va])) := (fr_24 _ (ne_k gh1 gh2 (i := 0) (j := 100016) rfl rfl (by decide))).trans gh1
            have h_27 : M_22 pg = some (.inr (3, [.ref dg, .ref gg, .ref tg0, .int np, .int ns])) := (fr_24 _ (ne_k gh3 gh2 (i := 3) (j := 100016) rfl rfl (by decide))).trans gh3
            have h_28 : M_22 dg = some (.inl (cI, 60, .inl dd)) := (fr_24 _ (ne_k gh4 gh2 (i := 1060) (j := 100016) rfl rfl (by decide))).trans gh4
            refine V.rd (pc' := 104) (fun hl => lv_aload_n X.1 X.2.1 d_Course_doing_103 rfl (lv_at hl 2 rfl)) ?_
            refine V.rd (pc' := 105) (fun hl => lv_iload_n X.1 X.2.1 d_Course_doing_104 rfl (lv_at hl 1 rfl)) ?_
            refine V.go (pc' := 108) (lv_sipush (v := 128) X.1 X.2.1 d_Course_doing_105 (by decide)) ?_
            refine V.go (pc' := 109) (lv_idiv X.1 X.2.1 d_Course_doing_108 (by decide)) ?_
            refine V.callV (pc' := 112) X hK (c_going  (co := co) (pg := pg) (ce := ce) (pi := pi) (ra := ra) (dg := dg) (gg := gg) (tg0 := tg0) (ln := ln) (en := en) (np := np) (ns := ns) (x := (sp_doingOf np dd x) / 128)   h_25 h_27  ) h_25 rfl (cwG (n := 1) X (mcs wd_97) (mcs wd_98) (mcs wd_99) (mcs wd_92) wd_100 (by decide +kernel) (by decide) (by decide)) rfl rfl (Nat.le_of_ble_eq_true rfl) d_Course_doing_109 ⟨by decide, by decide⟩ rfl (st1 := [.int (sp_going np ((sp_doingOf np dd x) / 128))]) rfl (fun M_29 ⟨h_30, fr_31⟩ => ?_)
            have h_32 : M_29 ce = some (.inr (0, [.ref va])) := (fr_31 _ (ne_k h_26 h_25 (i := 0) (j := 1) rfl rfl (by decide))).trans h_26
            have h_33 : M_29 pg = some (.inr (3, [.ref dg, .ref gg, .ref tg0, .int np, .int ns])) := (fr_31 _ (ne_k h_27 h_25 (i := 3) (j := 1) rfl rfl (by decide))).trans h_27
            have h_34 : M_29 dg = some (.inl (cI, 60, .inl dd)) := (fr_31 _ (ne_k h_28 h_25 (i := 1060) (j := 1) rfl rfl (by decide))).trans h_28
            have h_35 : M_29 va = some (.inl (cL, 16, .inr (.inl (sp_Cells_grow_va f (((sp_doingOf np dd x) / 8) - ((sp_doingOf np dd x) / 8) / 16 * 16) (-1))))) := (fr_31 _ (ne_k h_23 h_25 (i := 100016) (j := 1) rfl rfl (by decide))).trans h_23
            exact V.iret X hr hlk ⟨(by simp only [sp_doing, if_neg c_2, if_neg c_10, if_neg c_11, if_pos c_19, if_pos c_21]), (by simp only [sp_doing_va, if_neg c_2, if_neg c_10, if_neg c_11, if_pos c_19, if_pos c_21]; exact h_35), (by simp only [sp_doing_co_5, if_neg c_2, if_neg c_10, if_neg c_11, if_pos c_19, if_pos c_21]; exact h_30), (fun q n0_ n1_ => (fr_31 q n1_).trans ((fr_24 q n0_)))⟩ d_Course_doing_112
          · refine V.go (pc' := 91) (lv_iconst (v := (-1)) X.1 X.2.1 d_Course_doing_90 (by decide)) ?_
            exact V.iret X hr hlk ⟨(by simp only [sp_doing, if_neg c_2, if_neg c_10, if_neg c_11, if_pos c_19, if_neg c_21]), (by simp only [sp_doing_va, if_neg c_2, if_neg c_10, if_neg c_11, if_pos c_19, if_neg c_21]; exact gh2), (by simp only [sp_doing_co_5, if_neg c_2, if_neg c_10, if_neg c_11, if_pos c_19, if_neg c_21]; exact gh0), (fun q n0_ n1_ => rfl)⟩ d_Course_doing_91
        · refine V.go (pc' := 113) (lv_tableOut X.1 X.2.1 d_Course_doing_21 (by have t0 := lv_neT (a := 1) c_2 rfl; have t1 := lv_neT (a := 2) c_10 rfl; have t2 := lv_neT (a := 3) c_11 rfl; have t3 := lv_neT (a := 4) c_19 rfl; omega) (by decide)) ?_
          refine V.go (pc' := 114) (lv_iconst (v := (-1)) X.1 X.2.1 d_Course_doing_113 (by decide)) ?_
          exact V.iret X hr hlk ⟨(by simp only [sp_doing, if_neg c_2, if_neg c_10, if_neg c_11, if_neg c_19]), (by simp only [sp_doing_va, if_neg c_2, if_neg c_10, if_neg c_11, if_neg c_19]; exact gh2), (by simp only [sp_doing_co_5, if_neg c_2, if_neg c_10, if_neg c_11, if_neg c_19]; exact gh0), (fun q n0_ n1_ => rfl)⟩ d_Course_doing_114

theorem d_Course_performing_0 : decode prog_3_method_6_code 0 = .ok (.aload_n 0, 1) := by decide +kernel
theorem d_Course_performing_1 : decode prog_3_method_6_code 1 = .ok (.getfield 29, 3) := by decide +kernel
theorem d_Course_performing_4 : decode prog_3_method_6_code 4 = .ok (.iload_n 1, 1) := by decide +kernel
theorem d_Course_performing_5 : decode prog_3_method_6_code 5 = .ok (.invokevirtual 66, 3) := by decide +kernel
theorem d_Course_performing_8 : decode prog_3_method_6_code 8 = .ok (.astore_n 3, 1) := by decide +kernel
theorem d_Course_performing_9 : decode prog_3_method_6_code 9 = .ok (.aload_n 3, 1) := by decide +kernel
theorem d_Course_performing_10 : decode prog_3_method_6_code 10 = .ok (.ifnonnull 9, 3) := by decide +kernel
theorem d_Course_performing_13 : decode prog_3_method_6_code 13 = .ok (.aload_n 0, 1) := by decide +kernel
theorem d_Course_performing_14 : decode prog_3_method_6_code 14 = .ok (.iconst 3, 1) := by decide +kernel
theorem d_Course_performing_15 : decode prog_3_method_6_code 15 = .ok (.invokevirtual 44, 3) := by decide +kernel
theorem d_Course_performing_18 : decode prog_3_method_6_code 18 = .ok (.ireturn, 1) := by decide +kernel
theorem d_Course_performing_19 : decode prog_3_method_6_code 19 = .ok (.aload_n 0, 1) := by decide +kernel
theorem d_Course_performing_20 : decode prog_3_method_6_code 20 = .ok (.getfield 21, 3) := by decide +kernel
theorem d_Course_performing_23 : decode prog_3_method_6_code 23 = .ok (.invokevirtual 70, 3) := by decide +kernel
theorem d_Course_performing_26 : decode prog_3_method_6_code 26 = .ok (.ifCond .eq 9, 3) := by decide +kernel
theorem d_Course_performing_29 : decode prog_3_method_6_code 29 = .ok (.aload_n 0, 1) := by decide +kernel
theorem d_Course_performing_30 : decode prog_3_method_6_code 30 = .ok (.iconst 4, 1) := by decide +kernel
theorem d_Course_performing_31 : decode prog_3_method_6_code 31 = .ok (.invokevirtual 44, 3) := by decide +kernel
theorem d_Course_performing_34 : decode prog_3_method_6_code 34 = .ok (.ireturn, 1) := by decide +kernel
theorem d_Course_performing_35 : decode prog_3_method_6_code 35 = .ok (.aload_n 0, 1) := by decide +kernel
theorem d_Course_performing_36 : decode prog_3_method_6_code 36 = .ok (.getfield 21, 3) := by decide +kernel
theorem d_Course_performing_39 : decode prog_3_method_6_code 39 = .ok (.aload_n 3, 1) := by decide +kernel
theorem d_Course_performing_40 : decode prog_3_method_6_code 40 = .ok (.iload_n 2, 1) := by decide +kernel
theorem d_Course_performing_41 : decode prog_3_method_6_code 41 = .ok (.invokevirtual 74, 3) := by decide +kernel
theorem d_Course_performing_44 : decode prog_3_method_6_code 44 = .ok (.aload_n 3, 1) := by decide +kernel
theorem d_Course_performing_45 : decode prog_3_method_6_code 45 = .ok (.aload_n 0, 1) := by decide +kernel
theorem d_Course_performing_46 : decode prog_3_method_6_code 46 = .ok (.getfield 12, 3) := by decide +kernel
theorem d_Course_performing_49 : decode prog_3_method_6_code 49 = .ok (.invokevirtual 78, 3) := by decide +kernel
theorem d_Course_performing_52 : decode prog_3_method_6_code 52 = .ok (.ifCond .eq 8, 3) := by decide +kernel
theorem d_Course_performing_55 : decode prog_3_method_6_code 55 = .ok (.aload_n 3, 1) := by decide +kernel
theorem d_Course_performing_56 : decode prog_3_method_6_code 56 = .ok (.getfield 84, 3) := by decide +kernel
theorem d_Course_performing_59 : decode prog_3_method_6_code 59 = .ok (.ireturn, 1) := by decide +kernel
theorem d_Course_performing_60 : decode prog_3_method_6_code 60 = .ok (.aload_n 0, 1) := by decide +kernel
theorem d_Course_performing_61 : decode prog_3_method_6_code 61 = .ok (.getfield 21, 3) := by decide +kernel
theorem d_Course_performing_64 : decode prog_3_method_6_code 64 = .ok (.invokevirtual 87, 3) := by decide +kernel
theorem d_Course_performing_67 : decode prog_3_method_6_code 67 = .ok (.pop, 1) := by decide +kernel
theorem d_Course_performing_68 : decode prog_3_method_6_code 68 = .ok (.iconst (-1), 1) := by decide +kernel
theorem d_Course_performing_69 : decode prog_3_method_6_code 69 = .ok (.ireturn, 1) := by decide +kernel

def sp_performing (ns : Int32) (hh : Int32) (f : Nat → Int64) (x : Int32) (σ : Nat → Stm) : Int32 := oc (sp_whole ns x σ) 0 (fun i_3 => if (sp_Pile_isFull hh) = 0 then (if (sp_goesAtFirst (st_k (σ i_3)) (st_n (σ i_3)) (st_a (σ i_3)) (st_l (σ i_3)) (st_kc (σ i_3)) (st_kv (σ i_3)) (st_lc (σ i_3)) (st_fv (σ i_3)) (st_lz (σ i_3)) f) = 0 then (-1) else st_f (σ i_3)) else 0)
def sp_performing_co_5 (en : Int32) (ns : Int32) (hh : Int32) (x : Int32) (σ : Nat → Stm) : Int32 := oc (sp_whole ns x σ) 3 (fun i_3 => if (sp_Pile_isFull hh) = 0 then en else 4)
def sp_performing_la (ns : Int32) (hh : Int32) (lo : Nat → Option Nat) (x : Int32) (σ : Nat → Stm) : Nat → Option Nat := oc (sp_whole ns x σ) lo (fun i_3 => if (sp_Pile_isFull hh) = 0 then sp_lay_la hh lo i_3 else lo)
def sp_performing_pe (ns : Int32) (hh : Int32) (pd : Nat → Int32) (x : Int32) (y : Int32) (σ : Nat → Stm) : Nat → Int32 := oc (sp_whole ns x σ) pd (fun i_3 => if (sp_Pile_isFull hh) = 0 then sp_lay_pe hh pd y else pd)
def sp_performing_tu (ns : Int32) (hh : Int32) (ud : Nat → Int32) (x : Int32) (σ : Nat → Stm) : Nat → Int32 := oc (sp_whole ns x σ) ud (fun i_3 => if (sp_Pile_isFull hh) = 0 then sp_lay_tu hh ud else ud)
def sp_performing_pi_3 (ns : Int32) (hh : Int32) (f : Nat → Int64) (x : Int32) (σ : Nat → Stm) : Int32 := oc (sp_whole ns x σ) hh (fun i_3 => if (sp_Pile_isFull hh) = 0 then (if (sp_goesAtFirst (st_k (σ i_3)) (st_n (σ i_3)) (st_a (σ i_3)) (st_l (σ i_3)) (st_kc (σ i_3)) (st_kv (σ i_3)) (st_lc (σ i_3)) (st_fv (σ i_3)) (st_lz (σ i_3)) f) = 0 then sp_Pile_takeOff_pi_3 (sp_lay_pi_3 hh) else sp_lay_pi_3 hh) else hh)
def sp_performing_pi_4 (ns : Int32) (hh : Int32) (hi : Int32) (f : Nat → Int64) (x : Int32) (σ : Nat → Stm) : Int32 := oc (sp_whole ns x σ) hi (fun i_3 => if (sp_Pile_isFull hh) = 0 then (if (sp_goesAtFirst (st_k (σ i_3)) (st_n (σ i_3)) (st_a (σ i_3)) (st_l (σ i_3)) (st_kc (σ i_3)) (st_kv (σ i_3)) (st_lc (σ i_3)) (st_fv (σ i_3)) (st_lz (σ i_3)) f) = 0 then (sp_lay_pi_4 hh hi) else sp_lay_pi_4 hh hi) else hi)
def sp_performing_va (ns : Int32) (hh : Int32) (f : Nat → Int64) (x : Int32) (σ : Nat → Stm) : Nat → Int64 := oc (sp_whole ns x σ) f (fun i_3 => if (sp_Pile_isFull hh) = 0 then sp_goesAtFirst_va (st_k (σ i_3)) (st_a (σ i_3)) (st_l (σ i_3)) (st_kc (σ i_3)) (st_kv (σ i_3)) (st_lc (σ i_3)) (st_fv (σ i_3)) (st_lz (σ i_3)) f else f)
set_option maxHeartbeats 4000000 in
set_option maxRecDepth 100000 in
theorem c_performing {l : Launch} {H0 : Heap} {D : va_G} {cI cL cQ cB : ClassId} {M : mp} {co pg ce pi ra va dg gg tg0 la pe tu : Nat} {sa u1 u2 u3 u4 u5 : Nat → Nat} {σ : Nat → Stm} {ln : Int32} {en : Int32} {np : Int32} {ns : Int32} {hh : Int32} {hi : Int32} {f : Nat → Int64} {lo : Nat → Option Nat} {pd : Nat → Int32} {ud : Nat → Int32} {x : Int32} {y : Int32} (ne0 : pe ≠ tu) (gh0 : M co = some (.inr (1, [.ref pg, .ref ce, .ref pi, .ref ra, .int ln, .int en]))) (gh1 : M ce = some (.inr (0, [.ref va]))) (gh2 : M va = some (.inl (cL, 16, .inr (.inl f)))) (gh3 : M pg = some (.inr (3, [.ref dg, .ref gg, .ref tg0, .int np, .int ns]))) (gh4 : M tg0 = some (.inl (cQ, 60, .inr (.inr (.inr (.inr (tdOf ns sa))))))) (gh5 : M pi = some (.inr (2, [.ref la, .ref pe, .ref tu, .int hh, .int hi]))) (gh6 : M la = some (.inl (cQ, 100, .inr (.inr (.inr (.inr (lq lo sa))))))) (gh7 : M pe = some (.inl (cI, 100, .inl pd))) (gh8 : M tu = some (.inl (cI, 100, .inl ud))) (hp : SP cI cL M ns sa u1 u2 u3 u4 u5 σ) (hσ : ∀ i : Nat, (i : Int) < ns.toInt → (st_l (σ i)).toInt ≤ 7) : MC l H0 D cls7 (tysOf cI cL cQ cB) NW ({ cls := "PerformRanges$Course", name := "performing", desc := "(II)I" } : Jvm.MethodName) (Cond.code ({ cls := "PerformRanges$Course", name := "performing", desc := "(II)I" } : Jvm.MethodName) prog_3_method_6_code 4 (Option.some Jvm.ClassFile.FieldType.int) :: GW) ({ frames := 5, cells := 0, slots := 0, locals := 109 }) [.ref co, .int x, .int y] M (fun v M' => v = some (.int (sp_performing ns hh f x σ)) ∧ M' co = some (.inr (1, [.ref pg, .ref ce, .ref pi, .ref ra, .int ln, .int (sp_performing_co_5 en ns hh x σ)])) ∧ M' la = some (.inl (cQ, 100, .inr (.inr (.inr (.inr (lq (sp_performing_la ns hh lo x σ) sa)))))) ∧ M' pe = some (.inl (cI, 100, .inl (sp_performing_pe ns hh pd x y σ))) ∧ M' tu = some (.inl (cI, 100, .inl (sp_performing_tu ns hh ud x σ))) ∧ M' pi = some (.inr (2, [.ref la, .ref pe, .ref tu, .int (sp_performing_pi_3 ns hh f x σ), .int (sp_performing_pi_4 ns hh hi f x σ)])) ∧ M' va = some (.inl (cL, 16, .inr (.inl (sp_performing_va ns hh f x σ)))) ∧ (∀ q, q ≠ co → q ≠ la → q ≠ pe → q ≠ tu → q ≠ pi → q ≠ va → M' q = M q)) := by
  refine MC.of (cc := prog_3_method_6_code) (nL := 4) (ret := (Option.some Jvm.ClassFile.FieldType.int)) (lv := [(0, .ref co), (1, .int x), (2, .int y)]) (by decide) rfl (Nat.le_of_ble_eq_true rfl) rfl ?_
  intro p e s m below meth c X hr hlk hnm hK
  refine V.rd (pc' := 1) (fun hl => lv_aload_n X.1 X.2.1 d_Course_performing_0 rfl (lv_at hl 0 rfl)) ?_
  refine V.get (pc' := 4) X hK gh0 uw_Course rfl 0 (by decide) (mcs wd_87) rfl d_Course_performing_1 rfl ?_
  refine V.rd (pc' := 5) (fun hl => lv_iload_n X.1 X.2.1 d_Course_performing_4 rfl (lv_at hl 1 rfl)) ?_
  refine V.callV0 (pc' := 8) X hK (c_whole  (pg := pg) (dg := dg) (gg := gg) (tg0 := tg0) (np := np) (ns := ns) (x := x)   gh3 gh4 hp hσ) gh3 rfl (cwG (n := 1) X (mcs wd_103) (mcs wd_104) (mcs wd_105) (mcs wd_7) wd_106 (by decide +kernel) (by decide) (by decide)) rfl rfl (Nat.le_of_ble_eq_true rfl) d_Course_performing_5 ⟨by decide, by decide⟩ rfl (st1 := [va_rf (Option.map sa (sp_whole ns x σ))]) rfl ?_
  refine V.sp (o := sp_whole ns x σ) (fun c_2 => ?_) (fun i_3 c_2 => ?_)
  · refine V.wr (pc' := 9) (lv' := [(3, .null), (0, .ref co), (1, .int x), (2, .int y)]) (fun hl => lv_astore_nN X.1 X.2.1 d_Course_performing_8 rfl hl (by decide) rfl) ?_
    refine V.rd (pc' := 10) (fun hl => lv_aload_nN X.1 X.2.1 d_Course_performing_9 rfl (lv_at hl 0 rfl)) ?_
    refine V.go (pc' := 13) (lv_ifnonnullN X.1 X.2.1 d_Course_performing_10) ?_
    refine V.rd (pc' := 14) (fun hl => lv_aload_n X.1 X.2.1 d_Course_performing_13 rfl (lv_at hl 1 rfl)) ?_
    refine V.go (pc' := 15) (lv_iconst (v := 3) X.1 X.2.1 d_Course_performing_14 (by decide)) ?_
    refine V.callV (pc' := 18) X hK (c_Course_end  (co := co) (pg := pg) (ce := ce) (pi := pi) (ra := ra) (ln := ln) (en := en) (x := 3)   gh0  ) gh0 rfl (cwG (n := 1) X (mcs wd_89) (mcs wd_90) (mcs wd_91) (mcs wd_92) wd_93 (by decide +kernel) (by decide) (by decide)) rfl rfl (Nat.le_of_ble_eq_true rfl) d_Course_performing_15 ⟨by decide, by decide⟩ rfl (st1 := [.int 0]) rfl (fun M_4 ⟨h_5, fr_6⟩ => ?_)
    have h_7 : M_4 ce = some (.inr (0, [.ref va])) := (fr_6 _ (ne_k gh1 gh0 (i := 0) (j := 1) rfl rfl (by decide))).trans gh1
    have h_8 : M_4 va = some (.inl (cL, 16, .inr (.inl f))) := (fr_6 _ (ne_k gh2 gh0 (i := 100016) (j := 1) rfl rfl (by decide))).trans gh2
    have h_9 : M_4 pg = some (.inr (3, [.ref dg, .ref gg, .ref tg0, .int np, .int ns])) := (fr_6 _ (ne_k gh3 gh0 (i := 3) (j := 1) rfl rfl (by decide))).trans gh3
    have h_10 : M_4 tg0 = some (.inl (cQ, 60, .inr (.inr (.inr (.inr (tdOf ns sa)))))) := (fr_6 _ (ne_k gh4 gh0 (i := 10000060) (j := 1) rfl rfl (by decide))).trans gh4
    have h_11 : M_4 pi = some (.inr (2, [.ref la, .ref pe, .ref tu, .int hh, .int hi])) := (fr_6 _ (ne_k gh5 gh0 (i := 2) (j := 1) rfl rfl (by decide))).trans gh5
    have h_12 : M_4 la = some (.inl (cQ, 100, .inr (.inr (.inr (.inr (lq lo sa)))))) := (fr_6 _ (ne_k gh6 gh0 (i := 10000100) (j := 1) rfl rfl (by decide))).trans gh6
    have h_13 : M_4 pe = some (.inl (cI, 100, .inl pd)) := (fr_6 _ (ne_k gh7 gh0 (i := 1100) (j := 1) rfl rfl (by decide))).trans gh7
    have h_14 : M_4 tu = some (.inl (cI, 100, .inl ud)) := (fr_6 _ (ne_k gh8 gh0 (i := 1100) (j := 1) rfl rfl (by decide))).trans gh8
    have hp_15 := hp.keep (M' := M_4) (fun q e he ht => fr_6 q (ne_p he ht gh0 (j := 1) rfl (by decide)))
    exact V.iret X hr hlk ⟨(by simp only [sp_performing, c_2, oc_none]), (by simp only [sp_performing_co_5, c_2, oc_none]; exact h_5), (by simp only [sp_performing_la, c_2, oc_none]; exact h_12), (by simp only [sp_performing_pe, c_2, oc_none]; exact h_13), (by simp only [sp_performing_tu, c_2, oc_none]; exact h_14), (by simp only [sp_performing_pi_3, sp_performing_pi_4, c_2, oc_none]; exact h_11), (by simp only [sp_performing_va, c_2, oc_none]; exact h_8), (fun q n0_ n1_ n2_ n3_ n4_ n5_ => (fr_6 q n0_))⟩ d_Course_performing_18
  · have hlt_22 : (i_3 : Int) < ns.toInt := whole_lt c_2
    have hs_23 := hσ i_3 hlt_22
    obtain ⟨h_16, h_17, h_18, h_19, h_20, h_21⟩ := hp i_3 hlt_22
    refine V.wr (pc' := 9) (lv' := [(3, .ref (sa i_3)), (0, .ref co), (1, .int x), (2, .int y)]) (fun hl => lv_astore_n X.1 X.2.1 d_Course_performing_8 rfl hl (by decide) rfl) ?_
    refine V.rd (pc' := 10) (fun hl => lv_aload_n X.1 X.2.1 d_Course_performing_9 rfl (lv_at hl 0 rfl)) ?_
    refine V.go (pc' := 19) (lv_ifnonnull X.1 X.2.1 d_Course_performing_10 (by decide)) ?_
    refine V.rd (pc' := 20) (fun hl => lv_aload_n X.1 X.2.1 d_Course_performing_19 rfl (lv_at hl 1 rfl)) ?_
    refine V.get (pc' := 23) X hK gh0 uw_Course rfl 2 (by decide) (mcs wd_107) rfl d_Course_performing_20 rfl ?_
    refine V.callV0 (pc' := 26) X hK (c_Pile_isFull  (pi := pi) (la := la) (pe := pe) (tu := tu) (hh := hh) (hi := hi)   gh5  ) gh5 rfl (cwG (n := 0) X (mcs wd_108) (mcs wd_79) (mcs wd_80) (mcs wd_81) wd_82 (by decide +kernel) (by decide) (by decide)) rfl rfl (Nat.le_of_ble_eq_true rfl) d_Course_performing_23 ⟨by decide, by decide⟩ rfl (st1 := [.int (sp_Pile_isFull hh)]) rfl ?_
    refine V.br (pc' := 29) (tgt := 35) (P := (sp_Pile_isFull hh) = 0) (lv_if_eq X.1 X.2.1 d_Course_performing_26 (by decide)) (fun c_25 => ?_) (fun c_25 => ?_)
    · have i_26 := isFull_0 c_25
      refine V.rd (pc' := 36) (fun hl => lv_aload_n X.1 X.2.1 d_Course_performing_35 rfl (lv_at hl 1 rfl)) ?_
      refine V.get (pc' := 39) X hK gh0 uw_Course rfl 2 (by decide) (mcs wd_107) rfl d_Course_performing_36 rfl ?_
      refine V.rd (pc' := 40) (fun hl => lv_aload_n X.1 X.2.1 d_Course_performing_39 rfl (lv_at hl 0 rfl)) ?_
      refine V.rd (pc' := 41) (fun hl => lv_iload_n X.1 X.2.1 d_Course_performing_40 rfl (lv_at hl 3 rfl)) ?_
      refine V.callV (pc' := 44) X hK (c_lay  (pi := pi) (la := la) (pe := pe) (tu := tu) (hh := hh) (hi := hi) (lo := lo) (pd := pd) (ud := ud) (i0 := i_3) (vs := [.int (st_f (σ i_3)), .int (st_t (σ i_3)), .int (st_k (σ i_3)), .int (st_n (σ i_3)), .int (st_a (σ i_3)), .int (st_c (σ i_3)), .int (st_l (σ i_3)), .ref (u1 i_3), .ref (u2 i_3), .ref (u3 i_3), .ref (u4 i_3), .ref (u5 i_3)]) (x := y)  ne0 gh5 gh6 gh7 gh8 h_16  ) gh5 rfl (cwG (n := 2) X (mcs wd_109) (mcs wd_110) (mcs wd_111) (mcs wd_81) wd_112 (by decide +kernel) (by decide) (by decide)) rfl rfl (Nat.le_of_ble_eq_true rfl) d_Course_performing_41 ⟨by decide, by decide⟩ rfl (st1 := []) rfl (fun M_27 ⟨h_28, h_29, h_30, h_31, fr_32⟩ => ?_)
      have h_33 : M_27 co = some (.inr (1, [.ref pg, .ref ce, .ref pi, .ref ra, .int ln, .int en])) := (fr_32 _ (ne_k gh0 gh6 (i := 1) (j := 10000100) rfl rfl (by decide)) (ne_k gh0 gh7 (i := 1) (j := 1100) rfl rfl (by decide)) (ne_k gh0 gh8 (i := 1) (j := 1100) rfl rfl (by decide)) (ne_k gh0 gh5 (i := 1) (j := 2) rfl rfl (by decide))).trans gh0
      have h_34 : M_27 ce = some (.inr (0, [.ref va])) := (fr_32 _ (ne_k gh1 gh6 (i := 0) (j := 10000100) rfl rfl (by decide)) (ne_k gh1 gh7 (i := 0) (j := 1100) rfl rfl (by decide)) (ne_k gh1 gh8 (i := 0) (j := 1100) rfl rfl (by decide)) (ne_k gh1 gh5 (i := 0) (j := 2) rfl rfl (by decide))).trans gh1
      have h_35 : M_27 va = some (.inl (cL, 16, .inr (.inl f))) := (fr_32 _ (ne_k gh2 gh6 (i := 100016) (j := 10000100) rfl rfl (by decide)) (ne_k gh2 gh7 (i := 100016) (j := 1100) rfl rfl (by decide)) (ne_k gh2 gh8 (i := 100016) (j := 1100) rfl rfl (by decide)) (ne_k gh2 gh5 (i := 100016) (j := 2) rfl rfl (by decide))).trans gh2
      have h_36 : M_27 pg = some (.inr (3, [.ref dg, .ref gg, .ref tg0, .int np, .int ns])) := (fr_32 _ (ne_k gh3 gh6 (i := 3) (j := 10000100) rfl rfl (by decide)) (ne_k gh3 gh7 (i := 3) (j := 1100) rfl rfl (by decide)) (ne_k gh3 gh8 (i := 3) (j := 1100) rfl rfl (by decide)) (ne_k gh3 gh5 (i := 3) (j := 2) rfl rfl (by decide))).trans gh3
      have h_37 : M_27 tg0 = some (.inl (cQ, 60, .inr (.inr (.inr (.inr (tdOf ns sa)))))) := (fr_32 _ (ne_k gh4 gh6 (i := 10000060) (j := 10000100) rfl rfl (by decide)) (ne_k gh4 gh7 (i := 10000060) (j := 1100) rfl rfl (by decide)) (ne_k gh4 gh8 (i := 10000060) (j := 1100) rfl rfl (by decide)) (ne_k gh4 gh5 (i := 10000060) (j := 2) rfl rfl (by decide))).trans gh4
      have h_38 : M_27 (sa i_3) = some (.inr (4, [.int (st_f (σ i_3)), .int (st_t (σ i_3)), .int (st_k (σ i_3)), .int (st_n (σ i_3)), .int (st_a (σ i_3)), .int (st_c (σ i_3)), .int (st_l (σ i_3)), .ref (u1 i_3), .ref (u2 i_3), .ref (u3 i_3), .ref (u4 i_3), .ref (u5 i_3)])) := (fr_32 _ (ne_k h_16 gh6 (i := 4) (j := 10000100) rfl rfl (by decide)) (ne_k h_16 gh7 (i := 4) (j := 1100) rfl rfl (by decide)) (ne_k h_16 gh8 (i := 4) (j := 1100) rfl rfl (by decide)) (ne_k h_16 gh5 (i := 4) (j := 2) rfl rfl (by decide))).trans h_16
      have h_39 : M_27 (u1 i_3) = some (.inl (cI, 7, .inl (st_kc (σ i_3)))) := (fr_32 _ (ne_k h_17 gh6 (i := 1007) (j := 10000100) rfl rfl (by decide)) (ne_k h_17 gh7 (i := 1007) (j := 1100) rfl rfl (by decide)) (ne_k h_17 gh8 (i := 1007) (j := 1100) rfl rfl (by decide)) (ne_k h_17 gh5 (i := 1007) (j := 2) rfl rfl (by decide))).trans h_17
      have h_40 : M_27 (u2 i_3) = some (.inl (cL, 7, .inr (.inl (st_kv (σ i_3))))) := (fr_32 _ (ne_k h_18 gh6 (i := 100007) (j := 10000100) rfl rfl (by decide)) (ne_k h_18 gh7 (i := 100007) (j := 1100) rfl rfl (by decide)) (ne_k h_18 gh8 (i := 100007) (j := 1100) rfl rfl (by decide)) (ne_k h_18 gh5 (i := 100007) (j := 2) rfl rfl (by decide))).trans h_18
      have h_41 : M_27 (u3 i_3) = some (.inl (cI, 7, .inl (st_lc (σ i_3)))) := (fr_32 _ (ne_k h_19 gh6 (i := 1007) (j := 10000100) rfl rfl (by decide)) (ne_k h_19 gh7 (i := 1007) (j := 1100) rfl rfl (by decide)) (ne_k h_19 gh8 (i := 1007) (j := 1100) rfl rfl (by decide)) (ne_k h_19 gh5 (i := 1007) (j := 2) rfl rfl (by decide))).trans h_19
      have h_42 : M_27 (u4 i_3) = some (.inl (cL, 7, .inr (.inl (st_fv (σ i_3))))) := (fr_32 _ (ne_k h_20 gh6 (i := 100007) (j := 10000100) rfl rfl (by decide)) (ne_k h_20 gh7 (i := 100007) (j := 1100) rfl rfl (by decide)) (ne_k h_20 gh8 (i := 100007) (j := 1100) rfl rfl (by decide)) (ne_k h_20 gh5 (i := 100007) (j := 2) rfl rfl (by decide))).trans h_20
      have h_43 : M_27 (u5 i_3) = some (.inl (cL, 7, .inr (.inl (st_lz (σ i_3))))) := (fr_32 _ (ne_k h_21 gh6 (i := 100007) (j := 10000100) rfl rfl (by decide)) (ne_k h_21 gh7 (i := 100007) (j := 1100) rfl rfl (by decide)) (ne_k h_21 gh8 (i := 100007) (j := 1100) rfl rfl (by decide)) (ne_k h_21 gh5 (i := 100007) (j := 2) rfl rfl (by decide))).trans h_21
      have hp_44 := hp.keep (M' := M_27) (fun q e he ht => fr_32 q (ne_p he ht gh6 (j := 10000100) rfl (by decide)) (ne_p he ht gh7 (j := 1100) rfl (by decide)) (ne_p he ht gh8 (j := 1100) rfl (by decide)) (ne_p he ht gh5 (j := 2) rfl (by decide)))
      refine V.rd (pc' := 45) (fun hl => lv_aload_n X.1 X.2.1 d_Course_performing_44 rfl (lv_at hl 0 rfl)) ?_
      refine V.rd (pc' := 46) (fun hl => lv_aload_n X.1 X.2.1 d_Course_performing_45 rfl (lv_at hl 1 rfl)) ?_
      refine V.get (pc' := 49) X hK h_33 uw_Course rfl 1 (by decide) (mcs wd_95) rfl d_Course_performing_46 rfl ?_
      refine V.callV (pc' := 52) X hK (c_goesAtFirst  (sm := sa i_3) (acc := u1 i_3) (acv := u2 i_3) (alc := u3 i_3) (afv := u4 i_3) (als := u5 i_3) (ce := ce) (va := va) (sf := st_f (σ i_3)) (sto := st_t (σ i_3)) (sk := st_k (σ i_3)) (sn := st_n (σ i_3)) (saf := st_a (σ i_3)) (sc := st_c (σ i_3)) (sl := st_l (σ i_3)) (kc := st_kc (σ i_3)) (kv := st_kv (σ i_3)) (lc := st_lc (σ i_3)) (fv := st_fv (σ i_3)) (lz := st_lz (σ i_3)) (f := f) (by first | omega | with_reducible assumption | (have z0_ : (0 : Int32).toInt = 0 := rfl; have z1_ : (1 : Int32).toInt = 1 := rfl; omega))  h_38 h_39 h_40 h_41 h_42 h_43 h_34 h_35  ) h_38 rfl (cwG (n := 1) X (mcs wd_113) (mcs wd_114) (mcs wd_115) (mcs wd_46) wd_116 (by decide +kernel) (by decide) (by decide)) rfl rfl (Nat.le_of_ble_eq_true rfl) d_Course_performing_49 ⟨by decide, by decide⟩ rfl (st1 := [.int (sp_goesAtFirst (st_k (σ i_3)) (st_n (σ i_3)) (st_a (σ i_3)) (st_l (σ i_3)) (st_kc (σ i_3)) (st_kv (σ i_3)) (st_lc (σ i_3)) (st_fv (σ i_3)) (st_lz (σ i_3)) f)]) rfl (fun M_45 ⟨h_46, fr_47⟩ => ?_)
      have h_48 : M_45 co = some (.inr (1, [.ref pg, .ref ce, .ref pi, .ref ra, .int ln, .int en])) := (fr_47 _ (ne_k h_33 h_35 (i := 1) (j := 100016) rfl rfl (by decide))).trans h_33
      have h_49 : M_45 ce = some (.inr (0, [.ref va])) := (fr_47 _ (ne_k h_34 h_35 (i := 0) (j := 100016) rfl rfl (by decide))).trans h_34
      have h_50 : M_45 pg = some (.inr (3, [.ref dg, .ref gg, .ref tg0, .int np, .int ns])) := (fr_47 _ (ne_k h_36 h_35 (i := 3) (j := 100016) rfl rfl (by decide))).trans h_36
      have h_51 : M_45 tg0 = some (.inl (cQ, 60, .inr (.inr (.inr (.inr (tdOf ns sa)))))) := (fr_47 _ (ne_k h_37 h_35 (i := 10000060) (j := 100016) rfl rfl (by decide))).trans h_37
      have h_52 : M_45 (sa i_3) = some (.inr (4, [.int (st_f (σ i_3)), .int (st_t (σ i_3)), .int (st_k (σ i_3)), .int (st_n (σ i_3)), .int (st_a (σ i_3)), .int (st_c (σ i_3)), .int (st_l (σ i_3)), .ref (u1 i_3), .ref (u2 i_3), .ref (u3 i_3), .ref (u4 i_3), .ref (u5 i_3)])) := (fr_47 _ (ne_k h_38 h_35 (i := 4) (j := 100016) rfl rfl (by decide))).trans h_38
      have h_53 : M_45 (u1 i_3) = some (.inl (cI, 7, .inl (st_kc (σ i_3)))) := (fr_47 _ (ne_k h_39 h_35 (i := 1007) (j := 100016) rfl rfl (by decide))).trans h_39
      have h_54 : M_45 (u2 i_3) = some (.inl (cL, 7, .inr (.inl (st_kv (σ i_3))))) := (fr_47 _ (ne_k h_40 h_35 (i := 100007) (j := 100016) rfl rfl (by decide))).trans h_40
      have h_55 : M_45 (u3 i_3) = some (.inl (cI, 7, .inl (st_lc (σ i_3)))) := (fr_47 _ (ne_k h_41 h_35 (i := 1007) (j := 100016) rfl rfl (by decide))).trans h_41
      have h_56 : M_45 (u4 i_3) = some (.inl (cL, 7, .inr (.inl (st_fv (σ i_3))))) := (fr_47 _ (ne_k h_42 h_35 (i := 100007) (j := 100016) rfl rfl (by decide))).trans h_42
      have h_57 : M_45 (u5 i_3) = some (.inl (cL, 7, .inr (.inl (st_lz (σ i_3))))) := (fr_47 _ (ne_k h_43 h_35 (i := 100007) (j := 100016) rfl rfl (by decide))).trans h_43
      have h_58 : M_45 la = some (.inl (cQ, 100, .inr (.inr (.inr (.inr (lq (sp_lay_la hh lo i_3) sa)))))) := (fr_47 _ (ne_k h_28 h_35 (i := 10000100) (j := 100016) rfl rfl (by decide))).trans h_28
      have h_59 : M_45 pe = some (.inl (cI, 100, .inl (sp_lay_pe hh pd y))) := (fr_47 _ (ne_k h_29 h_35 (i := 1100) (j := 100016) rfl rfl (by decide))).trans h_29
      have h_60 : M_45 tu = some (.inl (cI, 100, .inl (sp_lay_tu hh ud))) := (fr_47 _ (ne_k h_30 h_35 (i := 1100) (j := 100016) rfl rfl (by decide))).trans h_30
      have h_61 : M_45 pi = some (.inr (2, [.ref la, .ref pe, .ref tu, .int (sp_lay_pi_3 hh), .int (sp_lay_pi_4 hh hi)])) := (fr_47 _ (ne_k h_31 h_35 (i := 2) (j := 100016) rfl rfl (by decide))).trans h_31
      have hp_62 := hp_44.keep (M' := M_45) (fun q e he ht => fr_47 q (ne_p he ht h_35 (j := 100016) rfl (by decide)))
      refine V.br (pc' := 55) (tgt := 60) (P := (sp_goesAtFirst (st_k (σ i_3)) (st_n (σ i_3)) (st_a (σ i_3)) (st_l (σ i_3)) (st_kc (σ i_3)) (st_kv (σ i_3)) (st_lc (σ i_3)) (st_fv (σ i_3)) (st_lz (σ i_3)) f) = 0) (lv_if_eq X.1 X.2.1 d_Course_performing_52 (by decide)) (fun c_63 => ?_) (fun c_63 => ?_)
      · have i_64 := congrArg Int32.toInt c_63
        rw [show (0 : Int32).toInt = 0 from rfl] at i_64
        refine V.rd (pc' := 61) (fun hl => lv_aload_n X.1 X.2.1 d_Course_performing_60 rfl (lv_at hl 1 rfl)) ?_
        refine V.get (pc' := 64) X hK h_48 uw_Course rfl 2 (by decide) (mcs wd_107) rfl d_Course_performing_61 rfl ?_
        refine V.callV (pc' := 67) X hK (c_Pile_takeOff  (pi := pi) (la := la) (pe := pe) (tu := tu) (hh := sp_lay_pi_3 hh) (hi := sp_lay_pi_4 hh hi) (pd := sp_lay_pe hh pd y)   h_61 h_59  ) h_61 rfl (cwG (n := 0) X (mcs wd_117) (mcs wd_118) (mcs wd_119) (mcs wd_81) wd_120 (by decide +kernel) (by decide) (by decide)) rfl rfl (Nat.le_of_ble_eq_true rfl) d_Course_performing_64 ⟨by decide, by decide⟩ rfl (st1 := [.int (sp_Pile_takeOff (sp_lay_pi_3 hh) (sp_lay_pe hh pd y))]) rfl (fun M_65 ⟨h_66, fr_67⟩ => ?_)
        have h_68 : M_65 co = some (.inr (1, [.ref pg, .ref ce, .ref pi, .ref ra, .int ln, .int en])) := (fr_67 _ (ne_k h_48 h_61 (i := 1) (j := 2) rfl rfl (by decide))).trans h_48
        have h_69 : M_65 ce = some (.inr (0, [.ref va])) := (fr_67 _ (ne_k h_49 h_61 (i := 0) (j := 2) rfl rfl (by decide))).trans h_49
        have h_70 : M_65 pg = some (.inr (3, [.ref dg, .ref gg, .ref tg0, .int np, .int ns])) := (fr_67 _ (ne_k h_50 h_61 (i := 3) (j := 2) rfl rfl (by decide))).trans h_50
        have h_71 : M_65 tg0 = some (.inl (cQ, 60, .inr (.inr (.inr (.inr (tdOf ns sa)))))) := (fr_67 _ (ne_k h_51 h_61 (i := 10000060) (j := 2) rfl rfl (by decide))).trans h_51
        have h_72 : M_65 (sa i_3) = some (.inr (4, [.int (st_f (σ i_3)), .int (st_t (σ i_3)), .int (st_k (σ i_3)), .int (st_n (σ i_3)), .int (st_a (σ i_3)), .int (st_c (σ i_3)), .int (st_l (σ i_3)), .ref (u1 i_3), .ref (u2 i_3), .ref (u3 i_3), .ref (u4 i_3), .ref (u5 i_3)])) := (fr_67 _ (ne_k h_52 h_61 (i := 4) (j := 2) rfl rfl (by decide))).trans h_52
        have h_73 : M_65 (u1 i_3) = some (.inl (cI, 7, .inl (st_kc (σ i_3)))) := (fr_67 _ (ne_k h_53 h_61 (i := 1007) (j := 2) rfl rfl (by decide))).trans h_53
        have h_74 : M_65 (u2 i_3) = some (.inl (cL, 7, .inr (.inl (st_kv (σ i_3))))) := (fr_67 _ (ne_k h_54 h_61 (i := 100007) (j := 2) rfl rfl (by decide))).trans h_54
        have h_75 : M_65 (u3 i_3) = some (.inl (cI, 7, .inl (st_lc (σ i_3)))) := (fr_67 _ (ne_k h_55 h_61 (i := 1007) (j := 2) rfl rfl (by decide))).trans h_55
        have h_76 : M_65 (u4 i_3) = some (.inl (cL, 7, .inr (.inl (st_fv (σ i_3))))) := (fr_67 _ (ne_k h_56 h_61 (i := 100007) (j := 2) rfl rfl (by decide))).trans h_56
        have h_77 : M_65 (u5 i_3) = some (.inl (cL, 7, .inr (.inl (st_lz (σ i_3))))) := (fr_67 _ (ne_k h_57 h_61 (i := 100007) (j := 2) rfl rfl (by decide))).trans h_57
        have h_78 : M_65 la = some (.inl (cQ, 100, .inr (.inr (.inr (.inr (lq (sp_lay_la hh lo i_3) sa)))))) := (fr_67 _ (ne_k h_58 h_61 (i := 10000100) (j := 2) rfl rfl (by decide))).trans h_58
        have h_79 : M_65 pe = some (.inl (cI, 100, .inl (sp_lay_pe hh pd y))) := (fr_67 _ (ne_k h_59 h_61 (i := 1100) (j := 2) rfl rfl (by decide))).trans h_59
        have h_80 : M_65 tu = some (.inl (cI, 100, .inl (sp_lay_tu hh ud))) := (fr_67 _ (ne_k h_60 h_61 (i := 1100) (j := 2) rfl rfl (by decide))).trans h_60
        have h_81 : M_65 va = some (.inl (cL, 16, .inr (.inl (sp_goesAtFirst_va (st_k (σ i_3)) (st_a (σ i_3)) (st_l (σ i_3)) (st_kc (σ i_3)) (st_kv (σ i_3)) (st_lc (σ i_3)) (st_fv (σ i_3)) (st_lz (σ i_3)) f)))) := (fr_67 _ (ne_k h_46 h_61 (i := 100016) (j := 2) rfl rfl (by decide))).trans h_46
        have hp_82 := hp_62.keep (M' := M_65) (fun q e he ht => fr_67 q (ne_p he ht h_61 (j := 2) rfl (by decide)))
        refine V.go (pc' := 68) (lv_pop X.1 X.2.1 d_Course_performing_67 rfl) ?_
        refine V.go (pc' := 69) (lv_iconst (v := (-1)) X.1 X.2.1 d_Course_performing_68 (by decide)) ?_
        exact V.iret X hr hlk ⟨(by simp only [sp_performing, c_2, oc_some, if_pos c_25, if_pos c_63]), (by simp only [sp_performing_co_5, c_2, oc_some, if_pos c_25, if_pos c_63]; exact h_68), (by simp only [sp_performing_la, c_2, oc_some, if_pos c_25, if_pos c_63]; exact h_78), (by simp only [sp_performing_pe, c_2, oc_some, if_pos c_25, if_pos c_63]; exact h_79), (by simp only [sp_performing_tu, c_2, oc_some, if_pos c_25, if_pos c_63]; exact h_80), (by simp only [sp_performing_pi_3, sp_performing_pi_4, c_2, oc_some, if_pos c_25, if_pos c_63]; exact h_66), (by simp only [sp_performing_va, c_2, oc_some, if_pos c_25, if_pos c_63]; exact h_81), (fun q n0_ n1_ n2_ n3_ n4_ n5_ => (fr_67 q n4_).trans ((fr_47 q n5_).trans ((fr_32 q n1_ n2_ n3_ n4_))))⟩ d_Course_performing_69
      · have i_83 := mt Int32.toInt_inj.mp c_63
        rw [show (0 : Int32).toInt = 0 from rfl] at i_83
        refine V.rd (pc' := 56) (fun hl => lv_aload_n X.1 X.2.1 d_Course_performing_55 rfl (lv_at hl 0 rfl)) ?_
        refine V.getN (pc' := 59) X hK h_52 uw_Statement rfl 0 (by decide) (List.mem_of_getElem? (i := 11) rfl) rfl d_Course_performing_56 rfl ?_
        exact V.iret X hr hlk ⟨(by simp only [sp_performing, c_2, oc_some, if_pos c_25, if_neg c_63]), (by simp only [sp_performing_co_5, c_2, oc_some, if_pos c_25, if_neg c_63]; exact h_48), (by simp only [sp_performing_la, c_2, oc_some, if_pos c_25, if_neg c_63]; exact h_58), (by simp only [sp_performing_pe, c_2, oc_some, if_pos c_25, if_neg c_63]; exact h_59), (by simp only [sp_performing_tu, c_2, oc_some, if_pos c_25, if_neg c_63]; exact h_60), (by simp only [sp_performing_pi_3, sp_performing_pi_4, c_2, oc_some, if_pos c_25, if_neg c_63]; exact h_61), (by simp only [sp_performing_va, c_2, oc_some, if_pos c_25, if_neg c_63]; exact h_46), (fun q n0_ n1_ n2_ n3_ n4_ n5_ => (fr_47 q n5_).trans ((fr_32 q n1_ n2_ n3_ n4_)))⟩ d_Course_performing_59
    · have i_84 := mt Int32.toInt_inj.mp c_25
      rw [show (0 : Int32).toInt = 0 from rfl] at i_84
      refine V.rd (pc' := 30) (fun hl => lv_aload_n X.1 X.2.1 d_Course_performing_29 rfl (lv_at hl 1 rfl)) ?_
      refine V.go (pc' := 31) (lv_iconst (v := 4) X.1 X.2.1 d_Course_performing_30 (by decide)) ?_
      refine V.callV (pc' := 34) X hK (c_Course_end  (co := co) (pg := pg) (ce := ce) (pi := pi) (ra := ra) (ln := ln) (en := en) (x := 4)   gh0  ) gh0 rfl (cwG (n := 1) X (mcs wd_89) (mcs wd_90) (mcs wd_91) (mcs wd_92) wd_93 (by decide +kernel) (by decide) (by decide)) rfl rfl (Nat.le_of_ble_eq_true rfl) d_Course_performing_31 ⟨by decide, by decide⟩ rfl (st1 := [.int 0]) rfl (fun M_85 ⟨h_86, fr_87⟩ => ?_)
      have h_88 : M_85 ce = some (.inr (0, [.ref va])) := (fr_87 _ (ne_k gh1 gh0 (i := 0) (j := 1) rfl rfl (by decide))).trans gh1
      have h_89 : M_85 va = some (.inl (cL, 16, .inr (.inl f))) := (fr_87 _ (ne_k gh2 gh0 (i := 100016) (j := 1) rfl rfl (by decide))).trans gh2
      have h_90 : M_85 pg = some (.inr (3, [.ref dg, .ref gg, .ref tg0, .int np, .int ns])) := (fr_87 _ (ne_k gh3 gh0 (i := 3) (j := 1) rfl rfl (by decide))).trans gh3
      have h_91 : M_85 tg0 = some (.inl (cQ, 60, .inr (.inr (.inr (.inr (tdOf ns sa)))))) := (fr_87 _ (ne_k gh4 gh0 (i := 10000060) (j := 1) rfl rfl (by decide))).trans gh4
      have h_92 : M_85 pi = some (.inr (2, [.ref la, .ref pe, .ref tu, .int hh, .int hi])) := (fr_87 _ (ne_k gh5 gh0 (i := 2) (j := 1) rfl rfl (by decide))).trans gh5
      have h_93 : M_85 la = some (.inl (cQ, 100, .inr (.inr (.inr (.inr (lq lo sa)))))) := (fr_87 _ (ne_k gh6 gh0 (i := 10000100) (j := 1) rfl rfl (by decide))).trans gh6
      have h_94 : M_85 pe = some (.inl (cI, 100, .inl pd)) := (fr_87 _ (ne_k gh7 gh0 (i := 1100) (j := 1) rfl rfl (by decide))).trans gh7
      have h_95 : M_85 tu = some (.inl (cI, 100, .inl ud)) := (fr_87 _ (ne_k gh8 gh0 (i := 1100) (j := 1) rfl rfl (by decide))).trans gh8
      have h_96 : M_85 (sa i_3) = some (.inr (4, [.int (st_f (σ i_3)), .int (st_t (σ i_3)), .int (st_k (σ i_3)), .int (st_n (σ i_3)), .int (st_a (σ i_3)), .int (st_c (σ i_3)), .int (st_l (σ i_3)), .ref (u1 i_3), .ref (u2 i_3), .ref (u3 i_3), .ref (u4 i_3), .ref (u5 i_3)])) := (fr_87 _ (ne_k h_16 gh0 (i := 4) (j := 1) rfl rfl (by decide))).trans h_16
      have h_97 : M_85 (u1 i_3) = some (.inl (cI, 7, .inl (st_kc (σ i_3)))) := (fr_87 _ (ne_k h_17 gh0 (i := 1007) (j := 1) rfl rfl (by decide))).trans h_17
      have h_98 : M_85 (u2 i_3) = some (.inl (cL, 7, .inr (.inl (st_kv (σ i_3))))) := (fr_87 _ (ne_k h_18 gh0 (i := 100007) (j := 1) rfl rfl (by decide))).trans h_18
      have h_99 : M_85 (u3 i_3) = some (.inl (cI, 7, .inl (st_lc (σ i_3)))) := (fr_87 _ (ne_k h_19 gh0 (i := 1007) (j := 1) rfl rfl (by decide))).trans h_19
      have h_100 : M_85 (u4 i_3) = some (.inl (cL, 7, .inr (.inl (st_fv (σ i_3))))) := (fr_87 _ (ne_k h_20 gh0 (i := 100007) (j := 1) rfl rfl (by decide))).trans h_20
      have h_101 : M_85 (u5 i_3) = some (.inl (cL, 7, .inr (.inl (st_lz (σ i_3))))) := (fr_87 _ (ne_k h_21 gh0 (i := 100007) (j := 1) rfl rfl (by decide))).trans h_21
      have hp_102 := hp.keep (M' := M_85) (fun q e he ht => fr_87 q (ne_p he ht gh0 (j := 1) rfl (by decide)))
      exact V.iret X hr hlk ⟨(by simp only [sp_performing, c_2, oc_some, if_neg c_25]), (by simp only [sp_performing_co_5, c_2, oc_some, if_neg c_25]; exact h_86), (by simp only [sp_performing_la, c_2, oc_some, if_neg c_25]; exact h_93), (by simp only [sp_performing_pe, c_2, oc_some, if_neg c_25]; exact h_94), (by simp only [sp_performing_tu, c_2, oc_some, if_neg c_25]; exact h_95), (by simp only [sp_performing_pi_3, sp_performing_pi_4, c_2, oc_some, if_neg c_25]; exact h_92), (by simp only [sp_performing_va, c_2, oc_some, if_neg c_25]; exact h_89), (fun q n0_ n1_ n2_ n3_ n4_ n5_ => (fr_87 q n0_))⟩ d_Course_performing_34

theorem perf_lo {ns hh x : Int32} {lo : Nat → Option Nat} {σ : Nat → Stm} (hlo : ∀ k j : Nat, lo k = some j → (j : Int) < ns.toInt) : ∀ k j : Nat, sp_performing_la ns hh lo x σ k = some j → (j : Int) < ns.toInt := by
  intro k j h
  unfold sp_performing_la at h
  cases hc : sp_whole ns x σ with
  | none =>
    rw [hc, oc_none] at h
    exact hlo k j h
  | some i =>
    rw [hc, oc_some] at h
    by_cases hf : sp_Pile_isFull hh = 0
    · rw [if_pos hf, sp_lay_la, if_pos hf] at h
      by_cases h0 : 0 ≤ hh
      · rw [if_pos h0] at h
        by_cases hk : k = hh.toNatClampNeg
        · subst hk
          rw [va_up_self] at h
          cases h
          exact whole_lt hc
        · rw [va_up_ne _ _ hk] at h
          exact hlo k j h
      · rw [if_neg h0] at h
        exact hlo k j h
    · rw [if_neg hf] at h
      exact hlo k j h

theorem d_Course_behindDoing_0 : decode prog_3_method_9_code 0 = .ok (.iload_n 1, 1) := by decide +kernel
theorem d_Course_behindDoing_1 : decode prog_3_method_9_code 1 = .ok (.istore_n 2, 1) := by decide +kernel
theorem d_Course_behindDoing_2 : decode prog_3_method_9_code 2 = .ok (.iconst 0, 1) := by decide +kernel
theorem d_Course_behindDoing_3 : decode prog_3_method_9_code 3 = .ok (.istore_n 3, 1) := by decide +kernel
theorem d_Course_behindDoing_4 : decode prog_3_method_9_code 4 = .ok (.iload_n 3, 1) := by decide +kernel
theorem d_Course_behindDoing_5 : decode prog_3_method_9_code 5 = .ok (.bipush 100, 2) := by decide +kernel
theorem d_Course_behindDoing_7 : decode prog_3_method_9_code 7 = .ok (.if_icmp .ge 97, 3) := by decide +kernel
theorem d_Course_behindDoing_10 : decode prog_3_method_9_code 10 = .ok (.iload_n 2, 1) := by decide +kernel
theorem d_Course_behindDoing_11 : decode prog_3_method_9_code 11 = .ok (.ifCond .eq 93, 3) := by decide +kernel
theorem d_Course_behindDoing_14 : decode prog_3_method_9_code 14 = .ok (.aload_n 0, 1) := by decide +kernel
theorem d_Course_behindDoing_15 : decode prog_3_method_9_code 15 = .ok (.getfield 29, 3) := by decide +kernel
theorem d_Course_behindDoing_18 : decode prog_3_method_9_code 18 = .ok (.iload_n 2, 1) := by decide +kernel
theorem d_Course_behindDoing_19 : decode prog_3_method_9_code 19 = .ok (.invokevirtual 111, 3) := by decide +kernel
theorem d_Course_behindDoing_22 : decode prog_3_method_9_code 22 = .ok (.istore 4, 2) := by decide +kernel
theorem d_Course_behindDoing_24 : decode prog_3_method_9_code 24 = .ok (.iload 4, 2) := by decide +kernel
theorem d_Course_behindDoing_26 : decode prog_3_method_9_code 26 = .ok (.ifCond .eq 10, 3) := by decide +kernel
theorem d_Course_behindDoing_29 : decode prog_3_method_9_code 29 = .ok (.aload_n 0, 1) := by decide +kernel
theorem d_Course_behindDoing_30 : decode prog_3_method_9_code 30 = .ok (.iload 4, 2) := by decide +kernel
theorem d_Course_behindDoing_32 : decode prog_3_method_9_code 32 = .ok (.invokevirtual 98, 3) := by decide +kernel
theorem d_Course_behindDoing_35 : decode prog_3_method_9_code 35 = .ok (.ireturn, 1) := by decide +kernel
theorem d_Course_behindDoing_36 : decode prog_3_method_9_code 36 = .ok (.aload_n 0, 1) := by decide +kernel
theorem d_Course_behindDoing_37 : decode prog_3_method_9_code 37 = .ok (.getfield 21, 3) := by decide +kernel
theorem d_Course_behindDoing_40 : decode prog_3_method_9_code 40 = .ok (.invokevirtual 114, 3) := by decide +kernel
theorem d_Course_behindDoing_43 : decode prog_3_method_9_code 43 = .ok (.astore 5, 2) := by decide +kernel
theorem d_Course_behindDoing_45 : decode prog_3_method_9_code 45 = .ok (.aload 5, 2) := by decide +kernel
theorem d_Course_behindDoing_47 : decode prog_3_method_9_code 47 = .ok (.ifnull 12, 3) := by decide +kernel
theorem d_Course_behindDoing_50 : decode prog_3_method_9_code 50 = .ok (.aload 5, 2) := by decide +kernel
theorem d_Course_behindDoing_52 : decode prog_3_method_9_code 52 = .ok (.getfield 118, 3) := by decide +kernel
theorem d_Course_behindDoing_55 : decode prog_3_method_9_code 55 = .ok (.iload_n 2, 1) := by decide +kernel
theorem d_Course_behindDoing_56 : decode prog_3_method_9_code 56 = .ok (.if_icmp .eq 9, 3) := by decide +kernel
theorem d_Course_behindDoing_59 : decode prog_3_method_9_code 59 = .ok (.aload_n 0, 1) := by decide +kernel
theorem d_Course_behindDoing_60 : decode prog_3_method_9_code 60 = .ok (.iload_n 2, 1) := by decide +kernel
theorem d_Course_behindDoing_61 : decode prog_3_method_9_code 61 = .ok (.invokevirtual 121, 3) := by decide +kernel
theorem d_Course_behindDoing_64 : decode prog_3_method_9_code 64 = .ok (.ireturn, 1) := by decide +kernel
theorem d_Course_behindDoing_65 : decode prog_3_method_9_code 65 = .ok (.aload 5, 2) := by decide +kernel
theorem d_Course_behindDoing_67 : decode prog_3_method_9_code 67 = .ok (.aload_n 0, 1) := by decide +kernel
theorem d_Course_behindDoing_68 : decode prog_3_method_9_code 68 = .ok (.getfield 21, 3) := by decide +kernel
theorem d_Course_behindDoing_71 : decode prog_3_method_9_code 71 = .ok (.invokevirtual 124, 3) := by decide +kernel
theorem d_Course_behindDoing_74 : decode prog_3_method_9_code 74 = .ok (.aload_n 0, 1) := by decide +kernel
theorem d_Course_behindDoing_75 : decode prog_3_method_9_code 75 = .ok (.getfield 12, 3) := by decide +kernel
theorem d_Course_behindDoing_78 : decode prog_3_method_9_code 78 = .ok (.invokevirtual 127, 3) := by decide +kernel
theorem d_Course_behindDoing_81 : decode prog_3_method_9_code 81 = .ok (.ifCond .eq 9, 3) := by decide +kernel
theorem d_Course_behindDoing_84 : decode prog_3_method_9_code 84 = .ok (.aload 5, 2) := by decide +kernel
theorem d_Course_behindDoing_86 : decode prog_3_method_9_code 86 = .ok (.getfield 84, 3) := by decide +kernel
theorem d_Course_behindDoing_89 : decode prog_3_method_9_code 89 = .ok (.ireturn, 1) := by decide +kernel
theorem d_Course_behindDoing_90 : decode prog_3_method_9_code 90 = .ok (.aload_n 0, 1) := by decide +kernel
theorem d_Course_behindDoing_91 : decode prog_3_method_9_code 91 = .ok (.getfield 21, 3) := by decide +kernel
theorem d_Course_behindDoing_94 : decode prog_3_method_9_code 94 = .ok (.invokevirtual 87, 3) := by decide +kernel
theorem d_Course_behindDoing_97 : decode prog_3_method_9_code 97 = .ok (.istore_n 2, 1) := by decide +kernel
theorem d_Course_behindDoing_98 : decode prog_3_method_9_code 98 = .ok (.iinc 3 1, 3) := by decide +kernel
theorem d_Course_behindDoing_101 : decode prog_3_method_9_code 101 = .ok (.goto (-97), 3) := by decide +kernel
theorem d_Course_behindDoing_104 : decode prog_3_method_9_code 104 = .ok (.aload_n 0, 1) := by decide +kernel
theorem d_Course_behindDoing_105 : decode prog_3_method_9_code 105 = .ok (.iconst 0, 1) := by decide +kernel
theorem d_Course_behindDoing_106 : decode prog_3_method_9_code 106 = .ok (.invokevirtual 44, 3) := by decide +kernel
theorem d_Course_behindDoing_109 : decode prog_3_method_9_code 109 = .ok (.ireturn, 1) := by decide +kernel

def lp_behindDoing (np : Int32) (gd : Nat → Int32) (lo : Nat → Option Nat) (pd : Nat → Int32) (σ : Nat → Stm) : Nat → Int32 → Int32 → (Nat → Int64) → Int32 → (Nat → Int32) → Int32
  | 0, _, _, _, _, _ => 0
  | n_ + 1, hr_, k, g, h2, ud2 => if 100 ≤ k then 0 else if hr_ = 0 then 0 else if (sp_goingOf np gd hr_) = 0 then oc (sp_top h2 lo) (sp_falling np hr_) (fun i_45 => if (st_t (σ i_45)) = hr_ then (if (sp_goesOnceMore (st_k (σ i_45)) (st_n (σ i_45)) (st_a (σ i_45)) (st_l (σ i_45)) (st_kc (σ i_45)) (st_kv (σ i_45)) (st_lc (σ i_45)) (st_fv (σ i_45)) (st_lz (σ i_45)) g (sp_Pile_countTurn h2 ud2)) = 0 then lp_behindDoing np gd lo pd σ n_ (sp_Pile_takeOff h2 pd) (k + 1) (sp_goesOnceMore_va (st_k (σ i_45)) (st_a (σ i_45)) (st_l (σ i_45)) (st_kc (σ i_45)) (st_kv (σ i_45)) (st_lc (σ i_45)) (st_fv (σ i_45)) (st_lz (σ i_45)) g) (sp_Pile_takeOff_pi_3 h2) (sp_Pile_countTurn_tu h2 ud2) else st_f (σ i_45)) else sp_falling np hr_) else sp_going np (sp_goingOf np gd hr_)
def lp_behindDoing_co_5 (en : Int32) (np : Int32) (gd : Nat → Int32) (lo : Nat → Option Nat) (pd : Nat → Int32) (σ : Nat → Stm) : Nat → Int32 → Int32 → (Nat → Int64) → Int32 → (Nat → Int32) → Int32
  | 0, _, _, _, _, _ => en
  | n_ + 1, hr_, k, g, h2, ud2 => if 100 ≤ k then 0 else if hr_ = 0 then 0 else if (sp_goingOf np gd hr_) = 0 then oc (sp_top h2 lo) (sp_falling_co_5 en np hr_) (fun i_45 => if (st_t (σ i_45)) = hr_ then (if (sp_goesOnceMore (st_k (σ i_45)) (st_n (σ i_45)) (st_a (σ i_45)) (st_l (σ i_45)) (st_kc (σ i_45)) (st_kv (σ i_45)) (st_lc (σ i_45)) (st_fv (σ i_45)) (st_lz (σ i_45)) g (sp_Pile_countTurn h2 ud2)) = 0 then lp_behindDoing_co_5 en np gd lo pd σ n_ (sp_Pile_takeOff h2 pd) (k + 1) (sp_goesOnceMore_va (st_k (σ i_45)) (st_a (σ i_45)) (st_l (σ i_45)) (st_kc (σ i_45)) (st_kv (σ i_45)) (st_lc (σ i_45)) (st_fv (σ i_45)) (st_lz (σ i_45)) g) (sp_Pile_takeOff_pi_3 h2) (sp_Pile_countTurn_tu h2 ud2) else en) else sp_falling_co_5 en np hr_) else sp_going_co_5 en np (sp_goingOf np gd hr_)
def lp_behindDoing_tu (np : Int32) (gd : Nat → Int32) (lo : Nat → Option Nat) (pd : Nat → Int32) (σ : Nat → Stm) : Nat → Int32 → Int32 → (Nat → Int64) → Int32 → (Nat → Int32) → Nat → Int32
  | 0, _, _, _, _, ud2 => ud2
  | n_ + 1, hr_, k, g, h2, ud2 => if 100 ≤ k then ud2 else if hr_ = 0 then ud2 else if (sp_goingOf np gd hr_) = 0 then oc (sp_top h2 lo) ud2 (fun i_45 => if (st_t (σ i_45)) = hr_ then (if (sp_goesOnceMore (st_k (σ i_45)) (st_n (σ i_45)) (st_a (σ i_45)) (st_l (σ i_45)) (st_kc (σ i_45)) (st_kv (σ i_45)) (st_lc (σ i_45)) (st_fv (σ i_45)) (st_lz (σ i_45)) g (sp_Pile_countTurn h2 ud2)) = 0 then lp_behindDoing_tu np gd lo pd σ n_ (sp_Pile_takeOff h2 pd) (k + 1) (sp_goesOnceMore_va (st_k (σ i_45)) (st_a (σ i_45)) (st_l (σ i_45)) (st_kc (σ i_45)) (st_kv (σ i_45)) (st_lc (σ i_45)) (st_fv (σ i_45)) (st_lz (σ i_45)) g) (sp_Pile_takeOff_pi_3 h2) (sp_Pile_countTurn_tu h2 ud2) else sp_Pile_countTurn_tu h2 ud2) else ud2) else ud2
def lp_behindDoing_va (np : Int32) (gd : Nat → Int32) (lo : Nat → Option Nat) (pd : Nat → Int32) (σ : Nat → Stm) : Nat → Int32 → Int32 → (Nat → Int64) → Int32 → (Nat → Int32) → Nat → Int64
  | 0, _, _, g, _, _ => g
  | n_ + 1, hr_, k, g, h2, ud2 => if 100 ≤ k then g else if hr_ = 0 then g else if (sp_goingOf np gd hr_) = 0 then oc (sp_top h2 lo) g (fun i_45 => if (st_t (σ i_45)) = hr_ then (if (sp_goesOnceMore (st_k (σ i_45)) (st_n (σ i_45)) (st_a (σ i_45)) (st_l (σ i_45)) (st_kc (σ i_45)) (st_kv (σ i_45)) (st_lc (σ i_45)) (st_fv (σ i_45)) (st_lz (σ i_45)) g (sp_Pile_countTurn h2 ud2)) = 0 then lp_behindDoing_va np gd lo pd σ n_ (sp_Pile_takeOff h2 pd) (k + 1) (sp_goesOnceMore_va (st_k (σ i_45)) (st_a (σ i_45)) (st_l (σ i_45)) (st_kc (σ i_45)) (st_kv (σ i_45)) (st_lc (σ i_45)) (st_fv (σ i_45)) (st_lz (σ i_45)) g) (sp_Pile_takeOff_pi_3 h2) (sp_Pile_countTurn_tu h2 ud2) else sp_goesOnceMore_va (st_k (σ i_45)) (st_a (σ i_45)) (st_l (σ i_45)) (st_kc (σ i_45)) (st_kv (σ i_45)) (st_lc (σ i_45)) (st_fv (σ i_45)) (st_lz (σ i_45)) g) else g) else g
def lp_behindDoing_pi_3 (np : Int32) (gd : Nat → Int32) (lo : Nat → Option Nat) (pd : Nat → Int32) (σ : Nat → Stm) : Nat → Int32 → Int32 → (Nat → Int64) → Int32 → (Nat → Int32) → Int32
  | 0, _, _, _, h2, _ => h2
  | n_ + 1, hr_, k, g, h2, ud2 => if 100 ≤ k then h2 else if hr_ = 0 then h2 else if (sp_goingOf np gd hr_) = 0 then oc (sp_top h2 lo) h2 (fun i_45 => if (st_t (σ i_45)) = hr_ then (if (sp_goesOnceMore (st_k (σ i_45)) (st_n (σ i_45)) (st_a (σ i_45)) (st_l (σ i_45)) (st_kc (σ i_45)) (st_kv (σ i_45)) (st_lc (σ i_45)) (st_fv (σ i_45)) (st_lz (σ i_45)) g (sp_Pile_countTurn h2 ud2)) = 0 then lp_behindDoing_pi_3 np gd lo pd σ n_ (sp_Pile_takeOff h2 pd) (k + 1) (sp_goesOnceMore_va (st_k (σ i_45)) (st_a (σ i_45)) (st_l (σ i_45)) (st_kc (σ i_45)) (st_kv (σ i_45)) (st_lc (σ i_45)) (st_fv (σ i_45)) (st_lz (σ i_45)) g) (sp_Pile_takeOff_pi_3 h2) (sp_Pile_countTurn_tu h2 ud2) else h2) else h2) else h2
set_option maxHeartbeats 4000000 in
set_option maxRecDepth 100000 in
theorem c_behindDoing {l : Launch} {H0 : Heap} {D : va_G} {cI cL cQ cB : ClassId} {M : mp} {co pg ce pi ra va dg gg tg0 la pe tu : Nat} {sa u1 u2 u3 u4 u5 : Nat → Nat} {σ : Nat → Stm} {ln : Int32} {en : Int32} {np : Int32} {ns : Int32} {hh : Int32} {hi : Int32} {gd : Nat → Int32} {f : Nat → Int64} {lo : Nat → Option Nat} {pd : Nat → Int32} {ud : Nat → Int32} {x : Int32} (ne0 : pe ≠ tu) (gh0 : M co = some (.inr (1, [.ref pg, .ref ce, .ref pi, .ref ra, .int ln, .int en]))) (gh1 : M ce = some (.inr (0, [.ref va]))) (gh2 : M va = some (.inl (cL, 16, .inr (.inl f)))) (gh3 : M pg = some (.inr (3, [.ref dg, .ref gg, .ref tg0, .int np, .int ns]))) (gh4 : M gg = some (.inl (cI, 60, .inl gd))) (gh5 : M pi = some (.inr (2, [.ref la, .ref pe, .ref tu, .int hh, .int hi]))) (gh6 : M la = some (.inl (cQ, 100, .inr (.inr (.inr (.inr (lq lo sa))))))) (gh7 : M pe = some (.inl (cI, 100, .inl pd))) (gh8 : M tu = some (.inl (cI, 100, .inl ud))) (hp : SP cI cL M ns sa u1 u2 u3 u4 u5 σ) (hσ : ∀ i : Nat, (i : Int) < ns.toInt → (st_l (σ i)).toInt ≤ 7) (hlo : ∀ k j : Nat, lo k = some j → (j : Int) < ns.toInt) : MC l H0 D cls7 (tysOf cI cL cQ cB) NW ({ cls := "PerformRanges$Course", name := "behindDoing", desc := "(I)I" } : Jvm.MethodName) (Cond.code ({ cls := "PerformRanges$Course", name := "behindDoing", desc := "(I)I" } : Jvm.MethodName) prog_3_method_9_code 6 (Option.some Jvm.ClassFile.FieldType.int) :: GW) ({ frames := 5, cells := 0, slots := 0, locals := 110 }) [.ref co, .int x] M (fun v M' => v = some (.int (lp_behindDoing np gd lo pd σ 101 x 0 f hh ud)) ∧ M' co = some (.inr (1, [.ref pg, .ref ce, .ref pi, .ref ra, .int ln, .int (lp_behindDoing_co_5 en np gd lo pd σ 101 x 0 f hh ud)])) ∧ M' tu = some (.inl (cI, 100, .inl (lp_behindDoing_tu np gd lo pd σ 101 x 0 f hh ud))) ∧ M' va = some (.inl (cL, 16, .inr (.inl (lp_behindDoing_va np gd lo pd σ 101 x 0 f hh ud)))) ∧ M' pi = some (.inr (2, [.ref la, .ref pe, .ref tu, .int (lp_behindDoing_pi_3 np gd lo pd σ 101 x 0 f hh ud), .int hi])) ∧ (∀ q, q ≠ co → q ≠ tu → q ≠ va → q ≠ pi → M' q = M q)) := by
  refine MC.of (cc := prog_3_method_9_code) (nL := 6) (ret := (Option.some Jvm.ClassFile.FieldType.int)) (lv := [(0, .ref co), (1, .int x)]) (by decide) rfl (Nat.le_of_ble_eq_true rfl) rfl ?_
  intro p e s m below meth c X hr hlk hnm hK
  refine V.rd (pc' := 1) (fun hl => lv_iload_n X.1 X.2.1 d_Course_behindDoing_0 rfl (lv_at hl 1 rfl)) ?_
  refine V.wr (pc' := 2) (lv' := [(2, .int x), (0, .ref co), (1, .int x)]) (fun hl => lv_istore_n X.1 X.2.1 d_Course_behindDoing_1 rfl hl (by decide) rfl) ?_
  refine V.go (pc' := 3) (lv_iconst (v := 0) X.1 X.2.1 d_Course_behindDoing_2 (by decide)) ?_
  refine V.wr (pc' := 4) (lv' := [(3, .int 0), (2, .int x), (0, .ref co), (1, .int x)]) (fun hl => lv_istore_n X.1 X.2.1 d_Course_behindDoing_3 rfl hl (by decide) rfl) ?_
  obtain ⟨ze_17, hze_17⟩ : ∃ z, z = lp_behindDoing np gd lo pd σ 101 x 0 f hh ud := ⟨_, rfl⟩
  obtain ⟨ze_18, hze_18⟩ : ∃ z, z = lp_behindDoing_co_5 en np gd lo pd σ 101 x 0 f hh ud := ⟨_, rfl⟩
  obtain ⟨ze_19, hze_19⟩ : ∃ z, z = lp_behindDoing_tu np gd lo pd σ 101 x 0 f hh ud := ⟨_, rfl⟩
  obtain ⟨ze_20, hze_20⟩ : ∃ z, z = lp_behindDoing_va np gd lo pd σ 101 x 0 f hh ud := ⟨_, rfl⟩
  obtain ⟨ze_21, hze_21⟩ : ∃ z, z = lp_behindDoing_pi_3 np gd lo pd σ 101 x 0 f hh ud := ⟨_, rfl⟩
  refine V.pick [2, 3, 1, 0] rfl ?_
  refine V.ind (α := Unit) (x0 := ()) (n0 := 101) (I := fun nn_ _ M' lv' => ∃ (hr_ : Int32) (k : Int32) (g : Nat → Int64) (h2 : Int32) (ud2 : Nat → Int32), lv' = [(0, .ref co), (1, .int x), (2, .int hr_), (3, .int k)] ∧ M' co = some (.inr (1, [.ref pg, .ref ce, .ref pi, .ref ra, .int ln, .int en])) ∧ M' ce = some (.inr (0, [.ref va])) ∧ M' va = some (.inl (cL, 16, .inr (.inl g))) ∧ M' pg = some (.inr (3, [.ref dg, .ref gg, .ref tg0, .int np, .int ns])) ∧ M' gg = some (.inl (cI, 60, .inl gd)) ∧ M' pi = some (.inr (2, [.ref la, .ref pe, .ref tu, .int h2, .int hi])) ∧ M' la = some (.inl (cQ, 100, .inr (.inr (.inr (.inr (lq lo sa)))))) ∧ M' pe = some (.inl (cI, 100, .inl pd)) ∧ M' tu = some (.inl (cI, 100, .inl ud2)) ∧ SP cI cL M' ns sa u1 u2 u3 u4 u5 σ ∧ (∀ q, q ≠ va → q ≠ pi → q ≠ tu → M' q = M q) ∧ (0 ≤ k.toInt ∧ k.toInt ≤ 100) ∧ (k.toInt + nn_ = 101) ∧ lp_behindDoing np gd lo pd σ nn_ hr_ k g h2 ud2 = ze_17 ∧ lp_behindDoing_co_5 en np gd lo pd σ nn_ hr_ k g h2 ud2 = ze_18 ∧ lp_behindDoing_tu np gd lo pd σ nn_ hr_ k g h2 ud2 = ze_19 ∧ lp_behindDoing_va np gd lo pd σ nn_ hr_ k g h2 ud2 = ze_20 ∧ lp_behindDoing_pi_3 np gd lo pd σ nn_ hr_ k g h2 ud2 = ze_21) ⟨x, 0, f, hh, ud, rfl, gh0, gh1, gh2, gh3, gh4, gh5, gh6, gh7, gh8, hp, (fun q _ _ _ => rfl), (by first | omega | with_reducible assumption | (have z0_ : (0 : Int32).toInt = 0 := rfl; have z1_ : (1 : Int32).toInt = 1 := rfl; omega)), (by first | omega | with_reducible assumption | (have z0_ : (0 : Int32).toInt = 0 := rfl; have z1_ : (1 : Int32).toInt = 1 := rfl; omega)), hze_17.symm, hze_18.symm, hze_19.symm, hze_20.symm, hze_21.symm⟩ (fun n_11 ih_12 _ M_10 lv_13 hI_14 => ?_)
  obtain ⟨hr_, k, g, h2, ud2, rfl, h_1, h_2, h_3, h_4, h_5, h_6, h_7, h_8, h_9, hp_16, fr_15, j1, j2, e_17, e_18, e_19, e_20, e_21⟩ := hI_14
  obtain ⟨n_11, rfl⟩ : ∃ j, n_11 = j + 1 := ⟨n_11 - 1, by omega⟩
  refine V.rd (pc' := 5) (fun hl => lv_iload_n X.1 X.2.1 d_Course_behindDoing_4 rfl (lv_at hl 3 rfl)) ?_
  refine V.go (pc' := 7) (lv_bipush (v := 100) X.1 X.2.1 d_Course_behindDoing_5 (by decide)) ?_
  refine V.br (pc' := 10) (tgt := 104) (P := 100 ≤ k) (lv_icmp_ge X.1 X.2.1 d_Course_behindDoing_7 (by decide)) (fun c_22 => ?_) (fun c_22 => ?_)
  · have i_23 := Int32.le_iff_toInt_le.mp c_22
    rw [show (100 : Int32).toInt = 100 from rfl] at i_23
    refine V.rd (pc' := 105) (fun hl => lv_aload_n X.1 X.2.1 d_Course_behindDoing_104 rfl (lv_at hl 0 rfl)) ?_
    refine V.go (pc' := 106) (lv_iconst (v := 0) X.1 X.2.1 d_Course_behindDoing_105 (by decide)) ?_
    refine V.callV (pc' := 109) X hK (c_Course_end  (co := co) (pg := pg) (ce := ce) (pi := pi) (ra := ra) (ln := ln) (en := en) (x := 0)   h_1  ) h_1 rfl (cwG (n := 1) X (mcs wd_89) (mcs wd_90) (mcs wd_91) (mcs wd_92) wd_93 (by decide +kernel) (by decide) (by decide)) rfl rfl (Nat.le_of_ble_eq_true rfl) d_Course_behindDoing_106 ⟨by decide, by decide⟩ rfl (st1 := [.int 0]) rfl (fun M_24 ⟨h_25, fr_26⟩ => ?_)
    have h_27 : M_24 ce = some (.inr (0, [.ref va])) := (fr_26 _ (ne_k h_2 h_1 (i := 0) (j := 1) rfl rfl (by decide))).trans h_2
    have h_28 : M_24 va = some (.inl (cL, 16, .inr (.inl g))) := (fr_26 _ (ne_k h_3 h_1 (i := 100016) (j := 1) rfl rfl (by decide))).trans h_3
    have h_29 : M_24 pg = some (.inr (3, [.ref dg, .ref gg, .ref tg0, .int np, .int ns])) := (fr_26 _ (ne_k h_4 h_1 (i := 3) (j := 1) rfl rfl (by decide))).trans h_4
    have h_30 : M_24 gg = some (.inl (cI, 60, .inl gd)) := (fr_26 _ (ne_k h_5 h_1 (i := 1060) (j := 1) rfl rfl (by decide))).trans h_5
    have h_31 : M_24 pi = some (.inr (2, [.ref la, .ref pe, .ref tu, .int h2, .int hi])) := (fr_26 _ (ne_k h_6 h_1 (i := 2) (j := 1) rfl rfl (by decide))).trans h_6
    have h_32 : M_24 la = some (.inl (cQ, 100, .inr (.inr (.inr (.inr (lq lo sa)))))) := (fr_26 _ (ne_k h_7 h_1 (i := 10000100) (j := 1) rfl rfl (by decide))).trans h_7
    have h_33 : M_24 pe = some (.inl (cI, 100, .inl pd)) := (fr_26 _ (ne_k h_8 h_1 (i := 1100) (j := 1) rfl rfl (by decide))).trans h_8
    have h_34 : M_24 tu = some (.inl (cI, 100, .inl ud2)) := (fr_26 _ (ne_k h_9 h_1 (i := 1100) (j := 1) rfl rfl (by decide))).trans h_9
    have hp_35 := hp_16.keep (M' := M_24) (fun q e he ht => fr_26 q (ne_p he ht h_1 (j := 1) rfl (by decide)))
    rw [lp_behindDoing] at e_17
    simp only [if_pos c_22] at e_17
    rw [lp_behindDoing_co_5] at e_18
    simp only [if_pos c_22] at e_18
    rw [lp_behindDoing_tu] at e_19
    simp only [if_pos c_22] at e_19
    rw [lp_behindDoing_va] at e_20
    simp only [if_pos c_22] at e_20
    rw [lp_behindDoing_pi_3] at e_21
    simp only [if_pos c_22] at e_21
    exact V.iret X hr hlk ⟨(by exact congrArg (fun z => some (Value.int z)) (e_17.trans hze_17)), (by rw [← hze_18, ← e_18]; exact h_25), (by rw [← hze_19, ← e_19]; exact h_34), (by rw [← hze_20, ← e_20]; exact h_28), (by rw [← hze_21, ← e_21]; exact h_31), (fun q n0_ n1_ n2_ n3_ => (fr_26 q n0_).trans ((fr_15 q n2_ n3_ n1_)))⟩ d_Course_behindDoing_109
  · have i_36 := mt Int32.le_iff_toInt_le.mpr c_22
    rw [show (100 : Int32).toInt = 100 from rfl] at i_36
    refine V.rd (pc' := 11) (fun hl => lv_iload_n X.1 X.2.1 d_Course_behindDoing_10 rfl (lv_at hl 2 rfl)) ?_
    refine V.br (pc' := 14) (tgt := 104) (P := hr_ = 0) (lv_if_eq X.1 X.2.1 d_Course_behindDoing_11 (by decide)) (fun c_37 => ?_) (fun c_37 => ?_)
    · have i_38 := congrArg Int32.toInt c_37
      rw [show (0 : Int32).toInt = 0 from rfl] at i_38
      refine V.rd (pc' := 105) (fun hl => lv_aload_n X.1 X.2.1 d_Course_behindDoing_104 rfl (lv_at hl 0 rfl)) ?_
      refine V.go (pc' := 106) (lv_iconst (v := 0) X.1 X.2.1 d_Course_behindDoing_105 (by decide)) ?_
      refine V.callV (pc' := 109) X hK (c_Course_end  (co := co) (pg := pg) (ce := ce) (pi := pi) (ra := ra) (ln := ln) (en := en) (x := 0)   h_1  ) h_1 rfl (cwG (n := 1) X (mcs wd_89) (mcs wd_90) (mcs wd_91) (mcs wd_92) wd_93 (by decide +kernel) (by decide) (by decide)) rfl rfl (Nat.le_of_ble_eq_true rfl) d_Course_behindDoing_106 ⟨by decide, by decide⟩ rfl (st1 := [.int 0]) rfl (fun M_39 ⟨h_40, fr_41⟩ => ?_)
      have h_42 : M_39 ce = some (.inr (0, [.ref va])) := (fr_41 _ (ne_k h_2 h_1 (i := 0) (j := 1) rfl rfl (by decide))).trans h_2
      have h_43 : M_39 va = some (.inl (cL, 16, .inr (.inl g))) := (fr_41 _ (ne_k h_3 h_1 (i := 100016) (j := 1) rfl rfl (by decide))).trans h_3
      have h_44 : M_39 pg = some (.inr (3, [.ref dg, .ref gg, .ref tg0, .int np, .int ns])) := (fr_41 _ (ne_k h_4 h_1 (i := 3) (j := 1) rfl rfl (by decide))).trans h_4
      have h_45 : M_39 gg = some (.inl (cI, 60, .inl gd)) := (fr_41 _ (ne_k h_5 h_1 (i := 1060) (j := 1) rfl rfl (by decide))).trans h_5
      have h_46 : M_39 pi = some (.inr (2, [.ref la, .ref pe, .ref tu, .int h2, .int hi])) := (fr_41 _ (ne_k h_6 h_1 (i := 2) (j := 1) rfl rfl (by decide))).trans h_6
      have h_47 : M_39 la = some (.inl (cQ, 100, .inr (.inr (.inr (.inr (lq lo sa)))))) := (fr_41 _ (ne_k h_7 h_1 (i := 10000100) (j := 1) rfl rfl (by decide))).trans h_7
      have h_48 : M_39 pe = some (.inl (cI, 100, .inl pd)) := (fr_41 _ (ne_k h_8 h_1 (i := 1100) (j := 1) rfl rfl (by decide))).trans h_8
      have h_49 : M_39 tu = some (.inl (cI, 100, .inl ud2)) := (fr_41 _ (ne_k h_9 h_1 (i := 1100) (j := 1) rfl rfl (by decide))).trans h_9
      have hp_50 := hp_16.keep (M' := M_39) (fun q e he ht => fr_41 q (ne_p he ht h_1 (j := 1) rfl (by decide)))
      rw [lp_behindDoing] at e_17
      simp only [if_neg c_22, if_pos c_37] at e_17
      rw [lp_behindDoing_co_5] at e_18
      simp only [if_neg c_22, if_pos c_37] at e_18
      rw [lp_behindDoing_tu] at e_19
      simp only [if_neg c_22, if_pos c_37] at e_19
      rw [lp_behindDoing_va] at e_20
      simp only [if_neg c_22, if_pos c_37] at e_20
      rw [lp_behindDoing_pi_3] at e_21
      simp only [if_neg c_22, if_pos c_37] at e_21
      exact V.iret X hr hlk ⟨(by exact congrArg (fun z => some (Value.int z)) (e_17.trans hze_17)), (by rw [← hze_18, ← e_18]; exact h_40), (by rw [← hze_19, ← e_19]; exact h_49), (by rw [← hze_20, ← e_20]; exact h_43), (by rw [← hze_21, ← e_21]; exact h_46), (fun q n0_ n1_ n2_ n3_ => (fr_41 q n0_).trans ((fr_15 q n2_ n3_ n1_)))⟩ d_Course_behindDoing_109
    · have i_51 := mt Int32.toInt_inj.mp c_37
      rw [show (0 : Int32).toInt = 0 from rfl] at i_51
      refine V.rd (pc' := 15) (fun hl => lv_aload_n X.1 X.2.1 d_Course_behindDoing_14 rfl (lv_at hl 0 rfl)) ?_
      refine V.get (pc' := 18) X hK h_1 uw_Course rfl 0 (by decide) (mcs wd_87) rfl d_Course_behindDoing_15 rfl ?_
      refine V.rd (pc' := 19) (fun hl => lv_iload_n X.1 X.2.1 d_Course_behindDoing_18 rfl (lv_at hl 2 rfl)) ?_
      refine V.callV0 (pc' := 22) X hK (c_goingOf  (pg := pg) (dg := dg) (gg := gg) (tg0 := tg0) (np := np) (ns := ns) (gd := gd) (x := hr_)   h_4 h_5  ) h_4 rfl (cwG (n := 1) X (mcs wd_121) (mcs wd_122) (mcs wd_123) (mcs wd_7) wd_124 (by decide +kernel) (by decide) (by decide)) rfl rfl (Nat.le_of_ble_eq_true rfl) d_Course_behindDoing_19 ⟨by decide, by decide⟩ rfl (st1 := [.int (sp_goingOf np gd hr_)]) rfl ?_
      refine V.wr (pc' := 24) (lv' := [(4, .int (sp_goingOf np gd hr_)), (0, .ref co), (1, .int x), (2, .int hr_), (3, .int k)]) (fun hl => lv_istore X.1 X.2.1 d_Course_behindDoing_22 hl (by decide) rfl) ?_
      refine V.rd (pc' := 26) (fun hl => lv_iload X.1 X.2.1 d_Course_behindDoing_24 (lv_at hl 0 rfl)) ?_
      refine V.br (pc' := 29) (tgt := 36) (P := (sp_goingOf np gd hr_) = 0) (lv_if_eq X.1 X.2.1 d_Course_behindDoing_26 (by decide)) (fun c_53 => ?_) (fun c_53 => ?_)
      · have i_54 := congrArg Int32.toInt c_53
        rw [show (0 : Int32).toInt = 0 from rfl] at i_54
        refine V.rd (pc' := 37) (fun hl => lv_aload_n X.1 X.2.1 d_Course_behindDoing_36 rfl (lv_at hl 1 rfl)) ?_
        refine V.get (pc' := 40) X hK h_1 uw_Course rfl 2 (by decide) (mcs wd_107) rfl d_Course_behindDoing_37 rfl ?_
        refine V.callV0 (pc' := 43) X hK (c_top  (pi := pi) (la := la) (pe := pe) (tu := tu) (hh := h2) (hi := hi) (lo := lo)   h_6 h_7  ) h_6 rfl (cwG (n := 0) X (mcs wd_125) (mcs wd_126) (mcs wd_127) (mcs wd_81) wd_128 (by decide +kernel) (by decide) (by decide)) rfl rfl (Nat.le_of_ble_eq_true rfl) d_Course_behindDoing_40 ⟨by decide, by decide⟩ rfl (st1 := [va_rf (Option.map sa (sp_top h2 lo))]) rfl ?_
        refine V.sp (o := sp_top h2 lo) (fun c_56 => ?_) (fun i_57 c_56 => ?_)
        · refine V.wr (pc' := 45) (lv' := [(5, .null), (4, .int (sp_goingOf np gd hr_)), (0, .ref co), (1, .int x), (2, .int hr_), (3, .int k)]) (fun hl => lv_astoreN X.1 X.2.1 d_Course_behindDoing_43 hl (by decide) rfl) ?_
          refine V.rd (pc' := 47) (fun hl => lv_aloadN X.1 X.2.1 d_Course_behindDoing_45 (lv_at hl 0 rfl)) ?_
          refine V.go (pc' := 59) (lv_ifnullN X.1 X.2.1 d_Course_behindDoing_47 (by decide)) ?_
          refine V.rd (pc' := 60) (fun hl => lv_aload_n X.1 X.2.1 d_Course_behindDoing_59 rfl (lv_at hl 2 rfl)) ?_
          refine V.rd (pc' := 61) (fun hl => lv_iload_n X.1 X.2.1 d_Course_behindDoing_60 rfl (lv_at hl 4 rfl)) ?_
          refine V.callV (pc' := 64) X hK (c_falling  (co := co) (pg := pg) (ce := ce) (pi := pi) (ra := ra) (dg := dg) (gg := gg) (tg0 := tg0) (ln := ln) (en := en) (np := np) (ns := ns) (x := hr_)   h_1 h_4  ) h_1 rfl (cwG (n := 1) X (mcs wd_129) (mcs wd_130) (mcs wd_131) (mcs wd_92) wd_132 (by decide +kernel) (by decide) (by decide)) rfl rfl (Nat.le_of_ble_eq_true rfl) d_Course_behindDoing_61 ⟨by decide, by decide⟩ rfl (st1 := [.int (sp_falling np hr_)]) rfl (fun M_58 ⟨h_59, fr_60⟩ => ?_)
          have h_61 : M_58 ce = some (.inr (0, [.ref va])) := (fr_60 _ (ne_k h_2 h_1 (i := 0) (j := 1) rfl rfl (by decide))).trans h_2
          have h_62 : M_58 va = some (.inl (cL, 16, .inr (.inl g))) := (fr_60 _ (ne_k h_3 h_1 (i := 100016) (j := 1) rfl rfl (by decide))).trans h_3
          have h_63 : M_58 pg = some (.inr (3, [.ref dg, .ref gg, .ref tg0, .int np, .int ns])) := (fr_60 _ (ne_k h_4 h_1 (i := 3) (j := 1) rfl rfl (by decide))).trans h_4
          have h_64 : M_58 gg = some (.inl (cI, 60, .inl gd)) := (fr_60 _ (ne_k h_5 h_1 (i := 1060) (j := 1) rfl rfl (by decide))).trans h_5
          have h_65 : M_58 pi = some (.inr (2, [.ref la, .ref pe, .ref tu, .int h2, .int hi])) := (fr_60 _ (ne_k h_6 h_1 (i := 2) (j := 1) rfl rfl (by decide))).trans h_6
          have h_66 : M_58 la = some (.inl (cQ, 100, .inr (.inr (.inr (.inr (lq lo sa)))))) := (fr_60 _ (ne_k h_7 h_1 (i := 10000100) (j := 1) rfl rfl (by decide))).trans h_7
          have h_67 : M_58 pe = some (.inl (cI, 100, .inl pd)) := (fr_60 _ (ne_k h_8 h_1 (i := 1100) (j := 1) rfl rfl (by decide))).trans h_8
          have h_68 : M_58 tu = some (.inl (cI, 100, .inl ud2)) := (fr_60 _ (ne_k h_9 h_1 (i := 1100) (j := 1) rfl rfl (by decide))).trans h_9
          have hp_69 := hp_16.keep (M' := M_58) (fun q e he ht => fr_60 q (ne_p he ht h_1 (j := 1) rfl (by decide)))
          rw [lp_behindDoing] at e_17
          simp only [if_neg c_22, if_neg c_37, if_pos c_53, c_56, oc_none] at e_17
          rw [lp_behindDoing_co_5] at e_18
          simp only [if_neg c_22, if_neg c_37, if_pos c_53, c_56, oc_none] at e_18
          rw [lp_behindDoing_tu] at e_19
          simp only [if_neg c_22, if_neg c_37, if_pos c_53, c_56, oc_none] at e_19
          rw [lp_behindDoing_va] at e_20
          simp only [if_neg c_22, if_neg c_37, if_pos c_53, c_56, oc_none] at e_20
          rw [lp_behindDoing_pi_3] at e_21
          simp only [if_neg c_22, if_neg c_37, if_pos c_53, c_56, oc_none] at e_21
          exact V.iret X hr hlk ⟨(by exact congrArg (fun z => some (Value.int z)) (e_17.trans hze_17)), (by rw [← hze_18, ← e_18]; exact h_59), (by rw [← hze_19, ← e_19]; exact h_68), (by rw [← hze_20, ← e_20]; exact h_62), (by rw [← hze_21, ← e_21]; exact h_65), (fun q n0_ n1_ n2_ n3_ => (fr_60 q n0_).trans ((fr_15 q n2_ n3_ n1_)))⟩ d_Course_behindDoing_64
        · have hlt_76 : (i_57 : Int) < ns.toInt := top_lt hlo c_56
          have hs_77 := hσ i_57 hlt_76
          obtain ⟨h_70, h_71, h_72, h_73, h_74, h_75⟩ := hp_16 i_57 hlt_76
          refine V.wr (pc' := 45) (lv' := [(5, .ref (sa i_57)), (4, .int (sp_goingOf np gd hr_)), (0, .ref co), (1, .int x), (2, .int hr_), (3, .int k)]) (fun hl => lv_astore X.1 X.2.1 d_Course_behindDoing_43 hl (by decide) rfl) ?_
          refine V.rd (pc' := 47) (fun hl => lv_aload X.1 X.2.1 d_Course_behindDoing_45 (lv_at hl 0 rfl)) ?_
          refine V.go (pc' := 50) (lv_ifnull X.1 X.2.1 d_Course_behindDoing_47) ?_
          refine V.rd (pc' := 52) (fun hl => lv_aload X.1 X.2.1 d_Course_behindDoing_50 (lv_at hl 0 rfl)) ?_
          refine V.getN (pc' := 55) X hK h_70 uw_Statement rfl 1 (by decide) (List.mem_of_getElem? (i := 13) rfl) rfl d_Course_behindDoing_52 rfl ?_
          refine V.rd (pc' := 56) (fun hl => lv_iload_n X.1 X.2.1 d_Course_behindDoing_55 rfl (lv_at hl 4 rfl)) ?_
          refine V.br (pc' := 59) (tgt := 65) (P := (st_t (σ i_57)) = hr_) (lv_icmp_eq X.1 X.2.1 d_Course_behindDoing_56 (by decide)) (fun c_78 => ?_) (fun c_78 => ?_)
          · have i_79 := congrArg Int32.toInt c_78
            refine V.rd (pc' := 67) (fun hl => lv_aload X.1 X.2.1 d_Course_behindDoing_65 (lv_at hl 0 rfl)) ?_
            refine V.rd (pc' := 68) (fun hl => lv_aload_n X.1 X.2.1 d_Course_behindDoing_67 rfl (lv_at hl 2 rfl)) ?_
            refine V.get (pc' := 71) X hK h_1 uw_Course rfl 2 (by decide) (mcs wd_107) rfl d_Course_behindDoing_68 rfl ?_
            refine V.callV (pc' := 74) X hK (c_Pile_countTurn  (pi := pi) (la := la) (pe := pe) (tu := tu) (hh := h2) (hi := hi) (ud := ud2)   h_6 h_9  ) h_6 rfl (cwG (n := 0) X (mcs wd_133) (mcs wd_134) (mcs wd_135) (mcs wd_81) wd_136 (by decide +kernel) (by decide) (by decide)) rfl rfl (Nat.le_of_ble_eq_true rfl) d_Course_behindDoing_71 ⟨by decide, by decide⟩ rfl (st1 := [.int (sp_Pile_countTurn h2 ud2), .ref (sa i_57)]) rfl (fun M_80 ⟨h_81, fr_82⟩ => ?_)
            have h_83 : M_80 co = some (.inr (1, [.ref pg, .ref ce, .ref pi, .ref ra, .int ln, .int en])) := (fr_82 _ (ne_k h_1 h_9 (i := 1) (j := 1100) rfl rfl (by decide))).trans h_1
            have h_84 : M_80 ce = some (.inr (0, [.ref va])) := (fr_82 _ (ne_k h_2 h_9 (i := 0) (j := 1100) rfl rfl (by decide))).trans h_2
            have h_85 : M_80 va = some (.inl (cL, 16, .inr (.inl g))) := (fr_82 _ (ne_k h_3 h_9 (i := 100016) (j := 1100) rfl rfl (by decide))).trans h_3
            have h_86 : M_80 pg = some (.inr (3, [.ref dg, .ref gg, .ref tg0, .int np, .int ns])) := (fr_82 _ (ne_k h_4 h_9 (i := 3) (j := 1100) rfl rfl (by decide))).trans h_4
            have h_87 : M_80 gg = some (.inl (cI, 60, .inl gd)) := (fr_82 _ (ne_k h_5 h_9 (i := 1060) (j := 1100) rfl rfl (by decide))).trans h_5
            have h_88 : M_80 pi = some (.inr (2, [.ref la, .ref pe, .ref tu, .int h2, .int hi])) := (fr_82 _ (ne_k h_6 h_9 (i := 2) (j := 1100) rfl rfl (by decide))).trans h_6
            have h_89 : M_80 la = some (.inl (cQ, 100, .inr (.inr (.inr (.inr (lq lo sa)))))) := (fr_82 _ (ne_k h_7 h_9 (i := 10000100) (j := 1100) rfl rfl (by decide))).trans h_7
            have h_90 : M_80 pe = some (.inl (cI, 100, .inl pd)) := (fr_82 _ ne0).trans h_8
            have h_91 : M_80 (sa i_57) = some (.inr (4, [.int (st_f (σ i_57)), .int (st_t (σ i_57)), .int (st_k (σ i_57)), .int (st_n (σ i_57)), .int (st_a (σ i_57)), .int (st_c (σ i_57)), .int (st_l (σ i_57)), .ref (u1 i_57), .ref (u2 i_57), .ref (u3 i_57), .ref (u4 i_57), .ref (u5 i_57)])) := (fr_82 _ (ne_k h_70 h_9 (i := 4) (j := 1100) rfl rfl (by decide))).trans h_70
            have h_92 : M_80 (u1 i_57) = some (.inl (cI, 7, .inl (st_kc (σ i_57)))) := (fr_82 _ (ne_k h_71 h_9 (i := 1007) (j := 1100) rfl rfl (by decide))).trans h_71
            have h_93 : M_80 (u2 i_57) = some (.inl (cL, 7, .inr (.inl (st_kv (σ i_57))))) := (fr_82 _ (ne_k h_72 h_9 (i := 100007) (j := 1100) rfl rfl (by decide))).trans h_72
            have h_94 : M_80 (u3 i_57) = some (.inl (cI, 7, .inl (st_lc (σ i_57)))) := (fr_82 _ (ne_k h_73 h_9 (i := 1007) (j := 1100) rfl rfl (by decide))).trans h_73
            have h_95 : M_80 (u4 i_57) = some (.inl (cL, 7, .inr (.inl (st_fv (σ i_57))))) := (fr_82 _ (ne_k h_74 h_9 (i := 100007) (j := 1100) rfl rfl (by decide))).trans h_74
            have h_96 : M_80 (u5 i_57) = some (.inl (cL, 7, .inr (.inl (st_lz (σ i_57))))) := (fr_82 _ (ne_k h_75 h_9 (i := 100007) (j := 1100) rfl rfl (by decide))).trans h_75
            have hp_97 := hp_16.keep (M' := M_80) (fun q e he ht => fr_82 q (ne_p he ht h_9 (j := 1100) rfl (by decide)))
            refine V.rd (pc' := 75) (fun hl => lv_aload_n X.1 X.2.1 d_Course_behindDoing_74 rfl (lv_at hl 2 rfl)) ?_
            refine V.get (pc' := 78) X hK h_83 uw_Course rfl 1 (by decide) (mcs wd_95) rfl d_Course_behindDoing_75 rfl ?_
            refine V.callV (pc' := 81) X hK (c_goesOnceMore  (sm := sa i_57) (acc := u1 i_57) (acv := u2 i_57) (alc := u3 i_57) (afv := u4 i_57) (als := u5 i_57) (ce := ce) (va := va) (sf := st_f (σ i_57)) (sto := st_t (σ i_57)) (sk := st_k (σ i_57)) (sn := st_n (σ i_57)) (saf := st_a (σ i_57)) (sc := st_c (σ i_57)) (sl := st_l (σ i_57)) (kc := st_kc (σ i_57)) (kv := st_kv (σ i_57)) (lc := st_lc (σ i_57)) (fv := st_fv (σ i_57)) (lz := st_lz (σ i_57)) (f := g) (x := sp_Pile_countTurn h2 ud2) (by first | omega | with_reducible assumption | (have z0_ : (0 : Int32).toInt = 0 := rfl; have z1_ : (1 : Int32).toInt = 1 := rfl; omega))  h_91 h_92 h_93 h_94 h_95 h_96 h_84 h_85  ) h_91 rfl (cwG (n := 2) X (mcs wd_137) (mcs wd_138) (mcs wd_139) (mcs wd_46) wd_140 (by decide +kernel) (by decide) (by decide)) rfl rfl (Nat.le_of_ble_eq_true rfl) d_Course_behindDoing_78 ⟨by decide, by decide⟩ rfl (st1 := [.int (sp_goesOnceMore (st_k (σ i_57)) (st_n (σ i_57)) (st_a (σ i_57)) (st_l (σ i_57)) (st_kc (σ i_57)) (st_kv (σ i_57)) (st_lc (σ i_57)) (st_fv (σ i_57)) (st_lz (σ i_57)) g (sp_Pile_countTurn h2 ud2))]) rfl (fun M_98 ⟨h_99, fr_100⟩ => ?_)
            have h_101 : M_98 co = some (.inr (1, [.ref pg, .ref ce, .ref pi, .ref ra, .int ln, .int en])) := (fr_100 _ (ne_k h_83 h_85 (i := 1) (j := 100016) rfl rfl (by decide))).trans h_83
            have h_102 : M_98 ce = some (.inr (0, [.ref va])) := (fr_100 _ (ne_k h_84 h_85 (i := 0) (j := 100016) rfl rfl (by decide))).trans h_84
            have h_103 : M_98 pg = some (.inr (3, [.ref dg, .ref gg, .ref tg0, .int np, .int ns])) := (fr_100 _ (ne_k h_86 h_85 (i := 3) (j := 100016) rfl rfl (by decide))).trans h_86
            have h_104 : M_98 gg = some (.inl (cI, 60, .inl gd)) := (fr_100 _ (ne_k h_87 h_85 (i := 1060) (j := 100016) rfl rfl (by decide))).trans h_87
            have h_105 : M_98 pi = some (.inr (2, [.ref la, .ref pe, .ref tu, .int h2, .int hi])) := (fr_100 _ (ne_k h_88 h_85 (i := 2) (j := 100016) rfl rfl (by decide))).trans h_88
            have h_106 : M_98 la = some (.inl (cQ, 100, .inr (.inr (.inr (.inr (lq lo sa)))))) := (fr_100 _ (ne_k h_89 h_85 (i := 10000100) (j := 100016) rfl rfl (by decide))).trans h_89
            have h_107 : M_98 pe = some (.inl (cI, 100, .inl pd)) := (fr_100 _ (ne_k h_90 h_85 (i := 1100) (j := 100016) rfl rfl (by decide))).trans h_90
            have h_108 : M_98 (sa i_57) = some (.inr (4, [.int (st_f (σ i_57)), .int (st_t (σ i_57)), .int (st_k (σ i_57)), .int (st_n (σ i_57)), .int (st_a (σ i_57)), .int (st_c (σ i_57)), .int (st_l (σ i_57)), .ref (u1 i_57), .ref (u2 i_57), .ref (u3 i_57), .ref (u4 i_57), .ref (u5 i_57)])) := (fr_100 _ (ne_k h_91 h_85 (i := 4) (j := 100016) rfl rfl (by decide))).trans h_91
            have h_109 : M_98 (u1 i_57) = some (.inl (cI, 7, .inl (st_kc (σ i_57)))) := (fr_100 _ (ne_k h_92 h_85 (i := 1007) (j := 100016) rfl rfl (by decide))).trans h_92
            have h_110 : M_98 (u2 i_57) = some (.inl (cL, 7, .inr (.inl (st_kv (σ i_57))))) := (fr_100 _ (ne_k h_93 h_85 (i := 100007) (j := 100016) rfl rfl (by decide))).trans h_93
            have h_111 : M_98 (u3 i_57) = some (.inl (cI, 7, .inl (st_lc (σ i_57)))) := (fr_100 _ (ne_k h_94 h_85 (i := 1007) (j := 100016) rfl rfl (by decide))).trans h_94
            have h_112 : M_98 (u4 i_57) = some (.inl (cL, 7, .inr (.inl (st_fv (σ i_57))))) := (fr_100 _ (ne_k h_95 h_85 (i := 100007) (j := 100016) rfl rfl (by decide))).trans h_95
            have h_113 : M_98 (u5 i_57) = some (.inl (cL, 7, .inr (.inl (st_lz (σ i_57))))) := (fr_100 _ (ne_k h_96 h_85 (i := 100007) (j := 100016) rfl rfl (by decide))).trans h_96
            have h_114 : M_98 tu = some (.inl (cI, 100, .inl (sp_Pile_countTurn_tu h2 ud2))) := (fr_100 _ (ne_k h_81 h_85 (i := 1100) (j := 100016) rfl rfl (by decide))).trans h_81
            have hp_115 := hp_97.keep (M' := M_98) (fun q e he ht => fr_100 q (ne_p he ht h_85 (j := 100016) rfl (by decide)))
            refine V.br (pc' := 84) (tgt := 90) (P := (sp_goesOnceMore (st_k (σ i_57)) (st_n (σ i_57)) (st_a (σ i_57)) (st_l (σ i_57)) (st_kc (σ i_57)) (st_kv (σ i_57)) (st_lc (σ i_57)) (st_fv (σ i_57)) (st_lz (σ i_57)) g (sp_Pile_countTurn h2 ud2)) = 0) (lv_if_eq X.1 X.2.1 d_Course_behindDoing_81 (by decide)) (fun c_116 => ?_) (fun c_116 => ?_)
            · have i_117 := congrArg Int32.toInt c_116
              rw [show (0 : Int32).toInt = 0 from rfl] at i_117
              refine V.rd (pc' := 91) (fun hl => lv_aload_n X.1 X.2.1 d_Course_behindDoing_90 rfl (lv_at hl 2 rfl)) ?_
              refine V.get (pc' := 94) X hK h_101 uw_Course rfl 2 (by decide) (mcs wd_107) rfl d_Course_behindDoing_91 rfl ?_
              refine V.callV (pc' := 97) X hK (c_Pile_takeOff  (pi := pi) (la := la) (pe := pe) (tu := tu) (hh := h2) (hi := hi) (pd := pd)   h_105 h_107  ) h_105 rfl (cwG (n := 0) X (mcs wd_117) (mcs wd_118) (mcs wd_119) (mcs wd_81) wd_120 (by decide +kernel) (by decide) (by decide)) rfl rfl (Nat.le_of_ble_eq_true rfl) d_Course_behindDoing_94 ⟨by decide, by decide⟩ rfl (st1 := [.int (sp_Pile_takeOff h2 pd)]) rfl (fun M_118 ⟨h_119, fr_120⟩ => ?_)
              have h_121 : M_118 co = some (.inr (1, [.ref pg, .ref ce, .ref pi, .ref ra, .int ln, .int en])) := (fr_120 _ (ne_k h_101 h_105 (i := 1) (j := 2) rfl rfl (by decide))).trans h_101
              have h_122 : M_118 ce = some (.inr (0, [.ref va])) := (fr_120 _ (ne_k h_102 h_105 (i := 0) (j := 2) rfl rfl (by decide))).trans h_102
              have h_123 : M_118 pg = some (.inr (3, [.ref dg, .ref gg, .ref tg0, .int np, .int ns])) := (fr_120 _ (ne_k h_103 h_105 (i := 3) (j := 2) rfl rfl (by decide))).trans h_103
              have h_124 : M_118 gg = some (.inl (cI, 60, .inl gd)) := (fr_120 _ (ne_k h_104 h_105 (i := 1060) (j := 2) rfl rfl (by decide))).trans h_104
              have h_125 : M_118 la = some (.inl (cQ, 100, .inr (.inr (.inr (.inr (lq lo sa)))))) := (fr_120 _ (ne_k h_106 h_105 (i := 10000100) (j := 2) rfl rfl (by decide))).trans h_106
              have h_126 : M_118 pe = some (.inl (cI, 100, .inl pd)) := (fr_120 _ (ne_k h_107 h_105 (i := 1100) (j := 2) rfl rfl (by decide))).trans h_107
              have h_127 : M_118 (sa i_57) = some (.inr (4, [.int (st_f (σ i_57)), .int (st_t (σ i_57)), .int (st_k (σ i_57)), .int (st_n (σ i_57)), .int (st_a (σ i_57)), .int (st_c (σ i_57)), .int (st_l (σ i_57)), .ref (u1 i_57), .ref (u2 i_57), .ref (u3 i_57), .ref (u4 i_57), .ref (u5 i_57)])) := (fr_120 _ (ne_k h_108 h_105 (i := 4) (j := 2) rfl rfl (by decide))).trans h_108
              have h_128 : M_118 (u1 i_57) = some (.inl (cI, 7, .inl (st_kc (σ i_57)))) := (fr_120 _ (ne_k h_109 h_105 (i := 1007) (j := 2) rfl rfl (by decide))).trans h_109
              have h_129 : M_118 (u2 i_57) = some (.inl (cL, 7, .inr (.inl (st_kv (σ i_57))))) := (fr_120 _ (ne_k h_110 h_105 (i := 100007) (j := 2) rfl rfl (by decide))).trans h_110
              have h_130 : M_118 (u3 i_57) = some (.inl (cI, 7, .inl (st_lc (σ i_57)))) := (fr_120 _ (ne_k h_111 h_105 (i := 1007) (j := 2) rfl rfl (by decide))).trans h_111
              have h_131 : M_118 (u4 i_57) = some (.inl (cL, 7, .inr (.inl (st_fv (σ i_57))))) := (fr_120 _ (ne_k h_112 h_105 (i := 100007) (j := 2) rfl rfl (by decide))).trans h_112
              have h_132 : M_118 (u5 i_57) = some (.inl (cL, 7, .inr (.inl (st_lz (σ i_57))))) := (fr_120 _ (ne_k h_113 h_105 (i := 100007) (j := 2) rfl rfl (by decide))).trans h_113
              have h_133 : M_118 tu = some (.inl (cI, 100, .inl (sp_Pile_countTurn_tu h2 ud2))) := (fr_120 _ (ne_k h_114 h_105 (i := 1100) (j := 2) rfl rfl (by decide))).trans h_114
              have h_134 : M_118 va = some (.inl (cL, 16, .inr (.inl (sp_goesOnceMore_va (st_k (σ i_57)) (st_a (σ i_57)) (st_l (σ i_57)) (st_kc (σ i_57)) (st_kv (σ i_57)) (st_lc (σ i_57)) (st_fv (σ i_57)) (st_lz (σ i_57)) g)))) := (fr_120 _ (ne_k h_99 h_105 (i := 100016) (j := 2) rfl rfl (by decide))).trans h_99
              have hp_135 := hp_115.keep (M' := M_118) (fun q e he ht => fr_120 q (ne_p he ht h_105 (j := 2) rfl (by decide)))
              refine V.wr (pc' := 98) (lv' := [(2, .int (sp_Pile_takeOff h2 pd)), (5, .ref (sa i_57)), (4, .int (sp_goingOf np gd hr_)), (0, .ref co), (1, .int x), (3, .int k)]) (fun hl => lv_istore_n X.1 X.2.1 d_Course_behindDoing_97 rfl hl (by decide) rfl) ?_
              refine V.wr (pc' := 101) (lv' := [(3, .int (k + 1)), (2, .int (sp_Pile_takeOff h2 pd)), (5, .ref (sa i_57)), (4, .int (sp_goingOf np gd hr_)), (0, .ref co), (1, .int x)]) (fun hl => lv_iinc (k := 5) (v := k + 1) X.1 X.2.1 d_Course_behindDoing_98 hl rfl rfl (by decide) rfl) ?_
              have s_136 : (k + 1).toInt = k.toInt + (1) := i32_add1 (by omega)
              refine V.go (pc' := 4) (lv_goto X.1 X.2.1 d_Course_behindDoing_101 (by decide)) ?_
              refine V.pick [4, 5, 1, 0] rfl ?_
              exact ih_12 n_11 (by omega) () _ _ ⟨(sp_Pile_takeOff h2 pd), (k + 1), (sp_goesOnceMore_va (st_k (σ i_57)) (st_a (σ i_57)) (st_l (σ i_57)) (st_kc (σ i_57)) (st_kv (σ i_57)) (st_lc (σ i_57)) (st_fv (σ i_57)) (st_lz (σ i_57)) g), (sp_Pile_takeOff_pi_3 h2), (sp_Pile_countTurn_tu h2 ud2), rfl, h_121, h_122, h_134, h_123, h_124, h_119, h_125, h_126, h_133, hp_135, (fun q n0_ n1_ n2_ => (fr_120 q n1_).trans ((fr_100 q n0_).trans ((fr_82 q n2_).trans ((fr_15 q n0_ n1_ n2_))))), (by first | omega | with_reducible assumption | (have z0_ : (0 : Int32).toInt = 0 := rfl; have z1_ : (1 : Int32).toInt = 1 := rfl; omega)), (by first | omega | with_reducible assumption | (have z0_ : (0 : Int32).toInt = 0 := rfl; have z1_ : (1 : Int32).toInt = 1 := rfl; omega)), (by rw [← e_17, lp_behindDoing]; simp only [if_neg c_22, if_neg c_37, if_pos c_53, c_56, oc_some, if_pos c_78, if_pos c_116]), (by rw [← e_18, lp_behindDoing_co_5]; simp only [if_neg c_22, if_neg c_37, if_pos c_53, c_56, oc_some, if_pos c_78, if_pos c_116]), (by rw [← e_19, lp_behindDoing_tu]; simp only [if_neg c_22, if_neg c_37, if_pos c_53, c_56, oc_some, if_pos c_78, if_pos c_116]), (by rw [← e_20, lp_behindDoing_va]; simp only [if_neg c_22, if_neg c_37, if_pos c_53, c_56, oc_some, if_pos c_78, if_pos c_116]), (by rw [← e_21, lp_behindDoing_pi_3]; simp only [if_neg c_22, if_neg c_37, if_pos c_53, c_56, oc_some, if_pos c_78, if_pos c_116])⟩
            · have i_137 := mt Int32.toInt_inj.mp c_116
              rw [show (0 : Int32).toInt = 0 from rfl] at i_137
              refine V.rd (pc' := 86) (fun hl => lv_aload X.1 X.2.1 d_Course_behindDoing_84 (lv_at hl 0 rfl)) ?_
              refine V.getN (pc' := 89) X hK h_108 uw_Statement rfl 0 (by decide) (List.mem_of_getElem? (i := 11) rfl) rfl d_Course_behindDoing_86 rfl ?_
              rw [lp_behindDoing] at e_17
              simp only [if_neg c_22, if_neg c_37, if_pos c_53, c_56, oc_some, if_pos c_78, if_neg c_116] at e_17
              rw [lp_behindDoing_co_5] at e_18
              simp only [if_neg c_22, if_neg c_37, if_pos c_53, c_56, oc_some, if_pos c_78, if_neg c_116] at e_18
              rw [lp_behindDoing_tu] at e_19
              simp only [if_neg c_22, if_neg c_37, if_pos c_53, c_56, oc_some, if_pos c_78, if_neg c_116] at e_19
              rw [lp_behindDoing_va] at e_20
              simp only [if_neg c_22, if_neg c_37, if_pos c_53, c_56, oc_some, if_pos c_78, if_neg c_116] at e_20
              rw [lp_behindDoing_pi_3] at e_21
              simp only [if_neg c_22, if_neg c_37, if_pos c_53, c_56, oc_some, if_pos c_78, if_neg c_116] at e_21
              exact V.iret X hr hlk ⟨(by exact congrArg (fun z => some (Value.int z)) (e_17.trans hze_17)), (by rw [← hze_18, ← e_18]; exact h_101), (by rw [← hze_19, ← e_19]; exact h_114), (by rw [← hze_20, ← e_20]; exact h_99), (by rw [← hze_21, ← e_21]; exact h_105), (fun q n0_ n1_ n2_ n3_ => (fr_100 q n2_).trans ((fr_82 q n1_).trans ((fr_15 q n2_ n3_ n1_))))⟩ d_Course_behindDoing_89
          · have i_138 := mt Int32.toInt_inj.mp c_78
            refine V.rd (pc' := 60) (fun hl => lv_aload_n X.1 X.2.1 d_Course_behindDoing_59 rfl (lv_at hl 2 rfl)) ?_
            refine V.rd (pc' := 61) (fun hl => lv_iload_n X.1 X.2.1 d_Course_behindDoing_60 rfl (lv_at hl 4 rfl)) ?_
            refine V.callV (pc' := 64) X hK (c_falling  (co := co) (pg := pg) (ce := ce) (pi := pi) (ra := ra) (dg := dg) (gg := gg) (tg0 := tg0) (ln := ln) (en := en) (np := np) (ns := ns) (x := hr_)   h_1 h_4  ) h_1 rfl (cwG (n := 1) X (mcs wd_129) (mcs wd_130) (mcs wd_131) (mcs wd_92) wd_132 (by decide +kernel) (by decide) (by decide)) rfl rfl (Nat.le_of_ble_eq_true rfl) d_Course_behindDoing_61 ⟨by decide, by decide⟩ rfl (st1 := [.int (sp_falling np hr_)]) rfl (fun M_139 ⟨h_140, fr_141⟩ => ?_)
            have h_142 : M_139 ce = some (.inr (0, [.ref va])) := (fr_141 _ (ne_k h_2 h_1 (i := 0) (j := 1) rfl rfl (by decide))).trans h_2
            have h_143 : M_139 va = some (.inl (cL, 16, .inr (.inl g))) := (fr_141 _ (ne_k h_3 h_1 (i := 100016) (j := 1) rfl rfl (by decide))).trans h_3
            have h_144 : M_139 pg = some (.inr (3, [.ref dg, .ref gg, .ref tg0, .int np, .int ns])) := (fr_141 _ (ne_k h_4 h_1 (i := 3) (j := 1) rfl rfl (by decide))).trans h_4
            have h_145 : M_139 gg = some (.inl (cI, 60, .inl gd)) := (fr_141 _ (ne_k h_5 h_1 (i := 1060) (j := 1) rfl rfl (by decide))).trans h_5
            have h_146 : M_139 pi = some (.inr (2, [.ref la, .ref pe, .ref tu, .int h2, .int hi])) := (fr_141 _ (ne_k h_6 h_1 (i := 2) (j := 1) rfl rfl (by decide))).trans h_6
            have h_147 : M_139 la = some (.inl (cQ, 100, .inr (.inr (.inr (.inr (lq lo sa)))))) := (fr_141 _ (ne_k h_7 h_1 (i := 10000100) (j := 1) rfl rfl (by decide))).trans h_7
            have h_148 : M_139 pe = some (.inl (cI, 100, .inl pd)) := (fr_141 _ (ne_k h_8 h_1 (i := 1100) (j := 1) rfl rfl (by decide))).trans h_8
            have h_149 : M_139 tu = some (.inl (cI, 100, .inl ud2)) := (fr_141 _ (ne_k h_9 h_1 (i := 1100) (j := 1) rfl rfl (by decide))).trans h_9
            have h_150 : M_139 (sa i_57) = some (.inr (4, [.int (st_f (σ i_57)), .int (st_t (σ i_57)), .int (st_k (σ i_57)), .int (st_n (σ i_57)), .int (st_a (σ i_57)), .int (st_c (σ i_57)), .int (st_l (σ i_57)), .ref (u1 i_57), .ref (u2 i_57), .ref (u3 i_57), .ref (u4 i_57), .ref (u5 i_57)])) := (fr_141 _ (ne_k h_70 h_1 (i := 4) (j := 1) rfl rfl (by decide))).trans h_70
            have h_151 : M_139 (u1 i_57) = some (.inl (cI, 7, .inl (st_kc (σ i_57)))) := (fr_141 _ (ne_k h_71 h_1 (i := 1007) (j := 1) rfl rfl (by decide))).trans h_71
            have h_152 : M_139 (u2 i_57) = some (.inl (cL, 7, .inr (.inl (st_kv (σ i_57))))) := (fr_141 _ (ne_k h_72 h_1 (i := 100007) (j := 1) rfl rfl (by decide))).trans h_72
            have h_153 : M_139 (u3 i_57) = some (.inl (cI, 7, .inl (st_lc (σ i_57)))) := (fr_141 _ (ne_k h_73 h_1 (i := 1007) (j := 1) rfl rfl (by decide))).trans h_73
            have h_154 : M_139 (u4 i_57) = some (.inl (cL, 7, .inr (.inl (st_fv (σ i_57))))) := (fr_141 _ (ne_k h_74 h_1 (i := 100007) (j := 1) rfl rfl (by decide))).trans h_74
            have h_155 : M_139 (u5 i_57) = some (.inl (cL, 7, .inr (.inl (st_lz (σ i_57))))) := (fr_141 _ (ne_k h_75 h_1 (i := 100007) (j := 1) rfl rfl (by decide))).trans h_75
            have hp_156 := hp_16.keep (M' := M_139) (fun q e he ht => fr_141 q (ne_p he ht h_1 (j := 1) rfl (by decide)))
            rw [lp_behindDoing] at e_17
            simp only [if_neg c_22, if_neg c_37, if_pos c_53, c_56, oc_some, if_neg c_78] at e_17
            rw [lp_behindDoing_co_5] at e_18
            simp only [if_neg c_22, if_neg c_37, if_pos c_53, c_56, oc_some, if_neg c_78] at e_18
            rw [lp_behindDoing_tu] at e_19
            simp only [if_neg c_22, if_neg c_37, if_pos c_53, c_56, oc_some, if_neg c_78] at e_19
            rw [lp_behindDoing_va] at e_20
            simp only [if_neg c_22, if_neg c_37, if_pos c_53, c_56, oc_some, if_neg c_78] at e_20
            rw [lp_behindDoing_pi_3] at e_21
            simp only [if_neg c_22, if_neg c_37, if_pos c_53, c_56, oc_some, if_neg c_78] at e_21
            exact V.iret X hr hlk ⟨(by exact congrArg (fun z => some (Value.int z)) (e_17.trans hze_17)), (by rw [← hze_18, ← e_18]; exact h_140), (by rw [← hze_19, ← e_19]; exact h_149), (by rw [← hze_20, ← e_20]; exact h_143), (by rw [← hze_21, ← e_21]; exact h_146), (fun q n0_ n1_ n2_ n3_ => (fr_141 q n0_).trans ((fr_15 q n2_ n3_ n1_)))⟩ d_Course_behindDoing_64
      · have i_157 := mt Int32.toInt_inj.mp c_53
        rw [show (0 : Int32).toInt = 0 from rfl] at i_157
        refine V.rd (pc' := 30) (fun hl => lv_aload_n X.1 X.2.1 d_Course_behindDoing_29 rfl (lv_at hl 1 rfl)) ?_
        refine V.rd (pc' := 32) (fun hl => lv_iload X.1 X.2.1 d_Course_behindDoing_30 (lv_at hl 0 rfl)) ?_
        refine V.callV (pc' := 35) X hK (c_going  (co := co) (pg := pg) (ce := ce) (pi := pi) (ra := ra) (dg := dg) (gg := gg) (tg0 := tg0) (ln := ln) (en := en) (np := np) (ns := ns) (x := sp_goingOf np gd hr_)   h_1 h_4  ) h_1 rfl (cwG (n := 1) X (mcs wd_97) (mcs wd_98) (mcs wd_99) (mcs wd_92) wd_100 (by decide +kernel) (by decide) (by decide)) rfl rfl (Nat.le_of_ble_eq_true rfl) d_Course_behindDoing_32 ⟨by decide, by decide⟩ rfl (st1 := [.int (sp_going np (sp_goingOf np gd hr_))]) rfl (fun M_158 ⟨h_159, fr_160⟩ => ?_)
        have h_161 : M_158 ce = some (.inr (0, [.ref va])) := (fr_160 _ (ne_k h_2 h_1 (i := 0) (j := 1) rfl rfl (by decide))).trans h_2
        have h_162 : M_158 va = some (.inl (cL, 16, .inr (.inl g))) := (fr_160 _ (ne_k h_3 h_1 (i := 100016) (j := 1) rfl rfl (by decide))).trans h_3
        have h_163 : M_158 pg = some (.inr (3, [.ref dg, .ref gg, .ref tg0, .int np, .int ns])) := (fr_160 _ (ne_k h_4 h_1 (i := 3) (j := 1) rfl rfl (by decide))).trans h_4
        have h_164 : M_158 gg = some (.inl (cI, 60, .inl gd)) := (fr_160 _ (ne_k h_5 h_1 (i := 1060) (j := 1) rfl rfl (by decide))).trans h_5
        have h_165 : M_158 pi = some (.inr (2, [.ref la, .ref pe, .ref tu, .int h2, .int hi])) := (fr_160 _ (ne_k h_6 h_1 (i := 2) (j := 1) rfl rfl (by decide))).trans h_6
        have h_166 : M_158 la = some (.inl (cQ, 100, .inr (.inr (.inr (.inr (lq lo sa)))))) := (fr_160 _ (ne_k h_7 h_1 (i := 10000100) (j := 1) rfl rfl (by decide))).trans h_7
        have h_167 : M_158 pe = some (.inl (cI, 100, .inl pd)) := (fr_160 _ (ne_k h_8 h_1 (i := 1100) (j := 1) rfl rfl (by decide))).trans h_8
        have h_168 : M_158 tu = some (.inl (cI, 100, .inl ud2)) := (fr_160 _ (ne_k h_9 h_1 (i := 1100) (j := 1) rfl rfl (by decide))).trans h_9
        have hp_169 := hp_16.keep (M' := M_158) (fun q e he ht => fr_160 q (ne_p he ht h_1 (j := 1) rfl (by decide)))
        rw [lp_behindDoing] at e_17
        simp only [if_neg c_22, if_neg c_37, if_neg c_53] at e_17
        rw [lp_behindDoing_co_5] at e_18
        simp only [if_neg c_22, if_neg c_37, if_neg c_53] at e_18
        rw [lp_behindDoing_tu] at e_19
        simp only [if_neg c_22, if_neg c_37, if_neg c_53] at e_19
        rw [lp_behindDoing_va] at e_20
        simp only [if_neg c_22, if_neg c_37, if_neg c_53] at e_20
        rw [lp_behindDoing_pi_3] at e_21
        simp only [if_neg c_22, if_neg c_37, if_neg c_53] at e_21
        exact V.iret X hr hlk ⟨(by exact congrArg (fun z => some (Value.int z)) (e_17.trans hze_17)), (by rw [← hze_18, ← e_18]; exact h_159), (by rw [← hze_19, ← e_19]; exact h_168), (by rw [← hze_20, ← e_20]; exact h_162), (by rw [← hze_21, ← e_21]; exact h_165), (fun q n0_ n1_ n2_ n3_ => (fr_160 q n0_).trans ((fr_15 q n2_ n3_ n1_)))⟩ d_Course_behindDoing_35
