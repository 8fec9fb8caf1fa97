theorem wd_265 : (Jvm.Cond.fieldLink "PerformRanges" (10 : Nat) "PerformRanges" "program" "LPerformRanges$Program;") ∈ GW := gw_of (i := 142) (by decide +kernel) (by decide +kernel)
theorem wd_266 : (Jvm.Cond.methodLink "PerformRanges" (28 : Nat) ({ cls := "PerformRanges$Program", name := "addParagraph", desc := "(I)I" } : Jvm.MethodName)) ∈ GW := gw_of (i := 156) (by decide +kernel) (by decide +kernel)
theorem wd_267 : (Jvm.Cond.instanceMethod ({ cls := "PerformRanges$Program", name := "addParagraph", desc := "(I)I" } : Jvm.MethodName)) ∈ GW := gw_of (i := 157) (by decide +kernel) (by decide +kernel)
theorem wd_268 : (Jvm.Cond.selects "PerformRanges$Program" ({ cls := "PerformRanges$Program", name := "addParagraph", desc := "(I)I" } : Jvm.MethodName) ({ cls := "PerformRanges$Program", name := "addParagraph", desc := "(I)I" } : Jvm.MethodName)) ∈ GW := gw_of (i := 158) (by decide +kernel) (by decide +kernel)
theorem wd_269 : (Jvm.Cond.code ({ cls := "PerformRanges$Program", name := "addParagraph", desc := "(I)I" } : Jvm.MethodName) prog_5_method_3_code (2 : Nat) (Option.some Jvm.ClassFile.FieldType.int)) ∈ GW := gw_of (i := 159) (by decide +kernel) (by decide +kernel)
theorem wd_270 : (Jvm.Cond.methodLink "PerformRanges" (64 : Nat) ({ cls := "PerformRanges$Program", name := "tellGoing", desc := "(II)I" } : Jvm.MethodName)) ∈ GW := gw_of (i := 253) (by decide +kernel) (by decide +kernel)
theorem wd_271 : (Jvm.Cond.instanceMethod ({ cls := "PerformRanges$Program", name := "tellGoing", desc := "(II)I" } : Jvm.MethodName)) ∈ GW := gw_of (i := 254) (by decide +kernel) (by decide +kernel)
theorem wd_272 : (Jvm.Cond.selects "PerformRanges$Program" ({ cls := "PerformRanges$Program", name := "tellGoing", desc := "(II)I" } : Jvm.MethodName) ({ cls := "PerformRanges$Program", name := "tellGoing", desc := "(II)I" } : Jvm.MethodName)) ∈ GW := gw_of (i := 255) (by decide +kernel) (by decide +kernel)
theorem wd_273 : (Jvm.Cond.code ({ cls := "PerformRanges$Program", name := "tellGoing", desc := "(II)I" } : Jvm.MethodName) prog_5_method_6_code (4 : Nat) (Option.some Jvm.ClassFile.FieldType.int)) ∈ GW := gw_of (i := 256) (by decide +kernel) (by decide +kernel)
theorem wd_274 : (Jvm.Cond.fieldLink "PerformRanges" (21 : Nat) "PerformRanges" "latest" "LPerformRanges$Course;") ∈ GW := gw_of (i := 143) (by decide +kernel) (by decide +kernel)
theorem wd_275 : (Jvm.Cond.methodLink "PerformRanges" (86 : Nat) ({ cls := "PerformRanges$Course", name := "ranAs", desc := "(I)I" } : Jvm.MethodName)) ∈ GW := gw_of (i := 408) (by decide +kernel) (by decide +kernel)
theorem wd_276 : (Jvm.Cond.instanceMethod ({ cls := "PerformRanges$Course", name := "ranAs", desc := "(I)I" } : Jvm.MethodName)) ∈ GW := gw_of (i := 409) (by decide +kernel) (by decide +kernel)
theorem wd_277 : (Jvm.Cond.selects "PerformRanges$Course" ({ cls := "PerformRanges$Course", name := "ranAs", desc := "(I)I" } : Jvm.MethodName) ({ cls := "PerformRanges$Course", name := "ranAs", desc := "(I)I" } : Jvm.MethodName)) ∈ GW := gw_of (i := 410) (by decide +kernel) (by decide +kernel)
theorem wd_278 : (Jvm.Cond.code ({ cls := "PerformRanges$Course", name := "ranAs", desc := "(I)I" } : Jvm.MethodName) prog_3_method_3_code (2 : Nat) (Option.some Jvm.ClassFile.FieldType.int)) ∈ GW := gw_of (i := 411) (by decide +kernel) (by decide +kernel)
theorem wd_279 : (Jvm.Cond.methodLink "PerformRanges" (32 : Nat) ({ cls := "PerformRanges$Program", name := "isParagraph", desc := "(I)Z" } : Jvm.MethodName)) ∈ GW := gw_of (i := 164) (by decide +kernel) (by decide +kernel)
theorem wd_280 : (Jvm.Cond.methodLink "PerformRanges" (93 : Nat) ({ cls := "PerformRanges$Pile", name := "endingAt", desc := "(I)I" } : Jvm.MethodName)) ∈ GW := gw_of (i := 416) (by decide +kernel) (by decide +kernel)
theorem wd_281 : (Jvm.Cond.instanceMethod ({ cls := "PerformRanges$Pile", name := "endingAt", desc := "(I)I" } : Jvm.MethodName)) ∈ GW := gw_of (i := 417) (by decide +kernel) (by decide +kernel)
theorem wd_282 : (Jvm.Cond.selects "PerformRanges$Pile" ({ cls := "PerformRanges$Pile", name := "endingAt", desc := "(I)I" } : Jvm.MethodName) ({ cls := "PerformRanges$Pile", name := "endingAt", desc := "(I)I" } : Jvm.MethodName)) ∈ GW := gw_of (i := 418) (by decide +kernel) (by decide +kernel)
theorem wd_283 : (Jvm.Cond.code ({ cls := "PerformRanges$Pile", name := "endingAt", desc := "(I)I" } : Jvm.MethodName) prog_4_method_8_code (5 : Nat) (Option.some Jvm.ClassFile.FieldType.int)) ∈ GW := gw_of (i := 419) (by decide +kernel) (by decide +kernel)
theorem wd_284 : (Jvm.Cond.methodLink "PerformRanges" (129 : Nat) ({ cls := "PerformRanges$Program", name := "wholeStatementAt", desc := "(I)LPerformRanges$Statement;" } : Jvm.MethodName)) ∈ GW := gw_of (i := 266) (by decide +kernel) (by decide +kernel)
theorem wd_285 : (Jvm.Cond.constantLong "PerformRanges" (132 : Nat) (4096 : Int64)) ∈ GW := gw_of (i := 275) (by decide +kernel) (by decide +kernel)
theorem wd_286 : (Jvm.Cond.methodLink "PerformRanges" (68 : Nat) ({ cls := "PerformRanges", name := "canBeRun", desc := "(IJ)Z" } : Jvm.MethodName)) ∈ GW := gw_of (i := 262) (by decide +kernel) (by decide +kernel)
theorem wd_287 : (Jvm.Cond.instanceMethod ({ cls := "PerformRanges", name := "canBeRun", desc := "(IJ)Z" } : Jvm.MethodName)) ∈ GW := gw_of (i := 264) (by decide +kernel) (by decide +kernel)
theorem wd_288 : (Jvm.Cond.selects "PerformRanges" ({ cls := "PerformRanges", name := "canBeRun", desc := "(IJ)Z" } : Jvm.MethodName) ({ cls := "PerformRanges", name := "canBeRun", desc := "(IJ)Z" } : Jvm.MethodName)) ∈ GW := gw_of (i := 0) (by decide +kernel) (by decide +kernel)
theorem wd_289 : (Jvm.Cond.initialized "PerformRanges") ∈ GW := gw_of (i := 31) (by decide +kernel) (by decide +kernel)
theorem wd_290 : (Jvm.Cond.code ({ cls := "PerformRanges", name := "canBeRun", desc := "(IJ)Z" } : Jvm.MethodName) prog_1_method_14_code (4 : Nat) (Option.some Jvm.ClassFile.FieldType.boolean)) ∈ GW := gw_of (i := 265) (by decide +kernel) (by decide +kernel)
theorem wd_291 : (Jvm.Cond.methodLink "PerformRanges" (72 : Nat) ({ cls := "PerformRanges$Course", name := "travel", desc := "(IJ)I" } : Jvm.MethodName)) ∈ GW := gw_of (i := 276) (by decide +kernel) (by decide +kernel)
theorem wd_292 : (Jvm.Cond.instanceMethod ({ cls := "PerformRanges$Course", name := "travel", desc := "(IJ)I" } : Jvm.MethodName)) ∈ GW := gw_of (i := 277) (by decide +kernel) (by decide +kernel)
theorem wd_293 : (Jvm.Cond.selects "PerformRanges$Course" ({ cls := "PerformRanges$Course", name := "travel", desc := "(IJ)I" } : Jvm.MethodName) ({ cls := "PerformRanges$Course", name := "travel", desc := "(IJ)I" } : Jvm.MethodName)) ∈ GW := gw_of (i := 278) (by decide +kernel) (by decide +kernel)
theorem wd_294 : (Jvm.Cond.code ({ cls := "PerformRanges$Course", name := "travel", desc := "(IJ)I" } : Jvm.MethodName) prog_3_method_2_code (8 : Nat) (Option.some Jvm.ClassFile.FieldType.int)) ∈ GW := gw_of (i := 279) (by decide +kernel) (by decide +kernel)
theorem wd_295 : (Jvm.Cond.fieldLink "PerformRanges" (25 : Nat) "PerformRanges" "trial" "LPerformRanges$Course;") ∈ GW := gw_of (i := 144) (by decide +kernel) (by decide +kernel)
theorem wd_296 : (Jvm.Cond.methodLink "PerformRanges" (80 : Nat) ({ cls := "PerformRanges$Cells", name := "copyFrom", desc := "(LPerformRanges$Cells;)V" } : Jvm.MethodName)) ∈ GW := gw_of (i := 400) (by decide +kernel) (by decide +kernel)
theorem wd_297 : (Jvm.Cond.instanceMethod ({ cls := "PerformRanges$Cells", name := "copyFrom", desc := "(LPerformRanges$Cells;)V" } : Jvm.MethodName)) ∈ GW := gw_of (i := 401) (by decide +kernel) (by decide +kernel)
theorem wd_298 : (Jvm.Cond.selects "PerformRanges$Cells" ({ cls := "PerformRanges$Cells", name := "copyFrom", desc := "(LPerformRanges$Cells;)V" } : Jvm.MethodName) ({ cls := "PerformRanges$Cells", name := "copyFrom", desc := "(LPerformRanges$Cells;)V" } : Jvm.MethodName)) ∈ GW := gw_of (i := 402) (by decide +kernel) (by decide +kernel)
theorem wd_299 : (Jvm.Cond.code ({ cls := "PerformRanges$Cells", name := "copyFrom", desc := "(LPerformRanges$Cells;)V" } : Jvm.MethodName) prog_2_method_5_code (3 : Nat) (Option.none : Option Jvm.ClassFile.FieldType)) ∈ GW := gw_of (i := 403) (by decide +kernel) (by decide +kernel)
theorem wd_300 : (Jvm.Cond.methodLink "PerformRanges" (53 : Nat) ({ cls := "PerformRanges", name := "isCell", desc := "(I)Z" } : Jvm.MethodName)) ∈ GW := gw_of (i := 231) (by decide +kernel) (by decide +kernel)
theorem wd_301 : (Jvm.Cond.static ({ cls := "PerformRanges", name := "isCell", desc := "(I)Z" } : Jvm.MethodName)) ∈ GW := gw_of (i := 232) (by decide +kernel) (by decide +kernel)
theorem wd_302 : (Jvm.Cond.code ({ cls := "PerformRanges", name := "isCell", desc := "(I)Z" } : Jvm.MethodName) prog_1_method_15_code (1 : Nat) (Option.some Jvm.ClassFile.FieldType.boolean)) ∈ GW := gw_of (i := 233) (by decide +kernel) (by decide +kernel)
theorem wd_303 : (Jvm.Cond.methodLink "PerformRanges" (105 : Nat) ({ cls := "PerformRanges$Cells", name := "value", desc := "(I)J" } : Jvm.MethodName)) ∈ GW := gw_of (i := 498) (by decide +kernel) (by decide +kernel)
theorem wd_304 : (Jvm.Cond.methodLink "PerformRanges" (109 : Nat) ({ cls := "PerformRanges$Cells", name := "become", desc := "(IJ)V" } : Jvm.MethodName)) ∈ GW := gw_of (i := 506) (by decide +kernel) (by decide +kernel)
theorem wd_305 : (Jvm.Cond.methodLink "PerformRanges" (49 : Nat) ({ cls := "PerformRanges$Program", name := "statementAt", desc := "(I)LPerformRanges$Statement;" } : Jvm.MethodName)) ∈ GW := gw_of (i := 227) (by decide +kernel) (by decide +kernel)
theorem wd_306 : (Jvm.Cond.methodLink "PerformRanges" (56 : Nat) ({ cls := "PerformRanges$Statement", name := "addCondition", desc := "(IJZ)I" } : Jvm.MethodName)) ∈ GW := gw_of (i := 234) (by decide +kernel) (by decide +kernel)
theorem wd_307 : (Jvm.Cond.instanceMethod ({ cls := "PerformRanges$Statement", name := "addCondition", desc := "(IJZ)I" } : Jvm.MethodName)) ∈ GW := gw_of (i := 235) (by decide +kernel) (by decide +kernel)
theorem wd_308 : (Jvm.Cond.selects "PerformRanges$Statement" ({ cls := "PerformRanges$Statement", name := "addCondition", desc := "(IJZ)I" } : Jvm.MethodName) ({ cls := "PerformRanges$Statement", name := "addCondition", desc := "(IJZ)I" } : Jvm.MethodName)) ∈ GW := gw_of (i := 236) (by decide +kernel) (by decide +kernel)
theorem wd_309 : (Jvm.Cond.code ({ cls := "PerformRanges$Statement", name := "addCondition", desc := "(IJZ)I" } : Jvm.MethodName) prog_6_method_2_code (5 : Nat) (Option.some Jvm.ClassFile.FieldType.int)) ∈ GW := gw_of (i := 237) (by decide +kernel) (by decide +kernel)
theorem wd_310 : (Jvm.Cond.methodLink "PerformRanges" (60 : Nat) ({ cls := "PerformRanges$Statement", name := "tellLevel", desc := "(IIJJ)I" } : Jvm.MethodName)) ∈ GW := gw_of (i := 242) (by decide +kernel) (by decide +kernel)
theorem wd_311 : (Jvm.Cond.instanceMethod ({ cls := "PerformRanges$Statement", name := "tellLevel", desc := "(IIJJ)I" } : Jvm.MethodName)) ∈ GW := gw_of (i := 243) (by decide +kernel) (by decide +kernel)
theorem wd_312 : (Jvm.Cond.selects "PerformRanges$Statement" ({ cls := "PerformRanges$Statement", name := "tellLevel", desc := "(IIJJ)I" } : Jvm.MethodName) ({ cls := "PerformRanges$Statement", name := "tellLevel", desc := "(IIJJ)I" } : Jvm.MethodName)) ∈ GW := gw_of (i := 244) (by decide +kernel) (by decide +kernel)
theorem wd_313 : (Jvm.Cond.code ({ cls := "PerformRanges$Statement", name := "tellLevel", desc := "(IIJJ)I" } : Jvm.MethodName) prog_6_method_3_code (7 : Nat) (Option.some Jvm.ClassFile.FieldType.int)) ∈ GW := gw_of (i := 245) (by decide +kernel) (by decide +kernel)
theorem d_PR_paragraph_0 : decode prog_1_method_2_code 0 = .ok (.aload_n 0, 1) := by decide +kernel
theorem d_PR_paragraph_1 : decode prog_1_method_2_code 1 = .ok (.getfield 10, 3) := by decide +kernel
theorem d_PR_paragraph_4 : decode prog_1_method_2_code 4 = .ok (.iload_n 1, 1) := by decide +kernel
theorem d_PR_paragraph_5 : decode prog_1_method_2_code 5 = .ok (.invokevirtual 28, 3) := by decide +kernel
theorem d_PR_paragraph_8 : decode prog_1_method_2_code 8 = .ok (.ireturn, 1) := by decide +kernel

set_option maxHeartbeats 4000000 in
set_option maxRecDepth 100000 in
theorem c_PR_paragraph {l : Launch} {H0 : Heap} {D : va_G} {cI cL cQ cB : ClassId} {M : mp} {px pg lt tr dg gg tg0 : Nat} {np : Int32} {ns : Int32} {dd : Nat → Int32} {x : Int32} (hnp : 0 ≤ np.toInt) (gh0 : M px = some (.inr (5, [.ref pg, .ref lt, .ref tr]))) (gh1 : M pg = some (.inr (3, [.ref dg, .ref gg, .ref tg0, .int np, .int ns]))) (gh2 : M dg = some (.inl (cI, 60, .inl dd))) : MC l H0 D cls7 (tysOf cI cL cQ cB) NW ({ cls := "PerformRanges", name := "paragraph", desc := "(I)I" } : Jvm.MethodName) (Cond.code ({ cls := "PerformRanges", name := "paragraph", desc := "(I)I" } : Jvm.MethodName) prog_1_method_2_code 2 (Option.some Jvm.ClassFile.FieldType.int) :: GW) ({ frames := 1, cells := 0, slots := 0, locals := 21 }) [.ref px, .int x] M (fun v M' => v = some (.int (sp_addParagraph np x)) ∧ M' dg = some (.inl (cI, 60, .inl (sp_addParagraph_dg np dd x))) ∧ M' pg = some (.inr (3, [.ref dg, .ref gg, .ref tg0, .int (sp_addParagraph_pg_3 np x), .int ns])) ∧ (∀ q, q ≠ dg → q ≠ pg → M' q = M q)) := by
  refine MC.of (cc := prog_1_method_2_code) (nL := 2) (ret := (Option.some Jvm.ClassFile.FieldType.int)) (lv := [(0, .ref px), (1, .int x)]) (by decide) rfl (Nat.le_of_ble_eq_true rfl) rfl ?_
  intro p e s m below meth c X hr hlk hnm hK
  refine V.rd (pc' := 1) (fun hl => lv_aload_n X.1 X.2.1 d_PR_paragraph_0 rfl (lv_at hl 0 rfl)) ?_
  refine V.get (pc' := 4) X hK gh0 uw_PR rfl 0 (by decide) (mcs wd_265) rfl d_PR_paragraph_1 rfl ?_
  refine V.rd (pc' := 5) (fun hl => lv_iload_n X.1 X.2.1 d_PR_paragraph_4 rfl (lv_at hl 1 rfl)) ?_
  refine V.callV (pc' := 8) X hK (c_addParagraph  (pg := pg) (dg := dg) (gg := gg) (tg0 := tg0) (np := np) (ns := ns) (dd := dd) (x := x) (by first | omega | with_reducible assumption | (have z0_ : (0 : Int32).toInt = 0 := rfl; have z1_ : (1 : Int32).toInt = 1 := rfl; omega))  gh1 gh2  ) gh1 rfl (cwG (n := 1) X (mcs wd_266) (mcs wd_267) (mcs wd_268) (mcs wd_7) wd_269 (by decide +kernel) (by decide) (by decide)) rfl rfl (Nat.le_of_ble_eq_true rfl) d_PR_paragraph_5 ⟨by decide, by decide⟩ rfl (st1 := [.int (sp_addParagraph np x)]) rfl (fun M_1 ⟨h_2, h_3, fr_4⟩ => ?_)
  have h_5 : M_1 px = some (.inr (5, [.ref pg, .ref lt, .ref tr])) := (fr_4 _ (ne_k gh0 gh2 (i := 5) (j := 1060) rfl rfl (by decide)) (ne_k gh0 gh1 (i := 5) (j := 3) rfl rfl (by decide))).trans gh0
  exact V.iret X hr hlk ⟨rfl, h_2, h_3, (fun q n0_ n1_ => (fr_4 q n0_ n1_))⟩ d_PR_paragraph_8

theorem d_PR_goTo_0 : decode prog_1_method_6_code 0 = .ok (.iload_n 2, 1) := by decide +kernel
theorem d_PR_goTo_1 : decode prog_1_method_6_code 1 = .ok (.ifCond .lt 9, 3) := by decide +kernel
theorem d_PR_goTo_4 : decode prog_1_method_6_code 4 = .ok (.iload_n 2, 1) := by decide +kernel
theorem d_PR_goTo_5 : decode prog_1_method_6_code 5 = .ok (.bipush 60, 2) := by decide +kernel
theorem d_PR_goTo_7 : decode prog_1_method_6_code 7 = .ok (.if_icmp .le 5, 3) := by decide +kernel
theorem d_PR_goTo_10 : decode prog_1_method_6_code 10 = .ok (.iconst (-1), 1) := by decide +kernel
theorem d_PR_goTo_11 : decode prog_1_method_6_code 11 = .ok (.ireturn, 1) := by decide +kernel
theorem d_PR_goTo_12 : decode prog_1_method_6_code 12 = .ok (.aload_n 0, 1) := by decide +kernel
theorem d_PR_goTo_13 : decode prog_1_method_6_code 13 = .ok (.getfield 10, 3) := by decide +kernel
theorem d_PR_goTo_16 : decode prog_1_method_6_code 16 = .ok (.iload_n 1, 1) := by decide +kernel
theorem d_PR_goTo_17 : decode prog_1_method_6_code 17 = .ok (.iload_n 2, 1) := by decide +kernel
theorem d_PR_goTo_18 : decode prog_1_method_6_code 18 = .ok (.invokevirtual 64, 3) := by decide +kernel
theorem d_PR_goTo_21 : decode prog_1_method_6_code 21 = .ok (.ireturn, 1) := by decide +kernel

def sp_PR_goTo (np : Int32) (gd : Nat → Int32) (x : Int32) (y : Int32) : Int32 := if y < 0 then (-1) else if y ≤ 60 then sp_tellGoing np gd x else (-1)
def sp_PR_goTo_gg (np : Int32) (gd : Nat → Int32) (x : Int32) (y : Int32) : Nat → Int32 := if y < 0 then gd else if y ≤ 60 then sp_tellGoing_gg np gd x y else gd
set_option maxHeartbeats 4000000 in
set_option maxRecDepth 100000 in
theorem c_PR_goTo {l : Launch} {H0 : Heap} {D : va_G} {cI cL cQ cB : ClassId} {M : mp} {px pg lt tr dg gg tg0 : Nat} {np : Int32} {ns : Int32} {gd : Nat → Int32} {x : Int32} {y : Int32} (gh0 : M px = some (.inr (5, [.ref pg, .ref lt, .ref tr]))) (gh1 : M pg = some (.inr (3, [.ref dg, .ref gg, .ref tg0, .int np, .int ns]))) (gh2 : M gg = some (.inl (cI, 60, .inl gd))) : MC l H0 D cls7 (tysOf cI cL cQ cB) NW ({ cls := "PerformRanges", name := "goTo", desc := "(II)I" } : Jvm.MethodName) (Cond.code ({ cls := "PerformRanges", name := "goTo", desc := "(II)I" } : Jvm.MethodName) prog_1_method_6_code 3 (Option.some Jvm.ClassFile.FieldType.int) :: GW) ({ frames := 2, cells := 0, slots := 0, locals := 44 }) [.ref px, .int x, .int y] M (fun v M' => v = some (.int (sp_PR_goTo np gd x y)) ∧ M' gg = some (.inl (cI, 60, .inl (sp_PR_goTo_gg np gd x y))) ∧ (∀ q, q ≠ gg → M' q = M q)) := by
  refine MC.of (cc := prog_1_method_6_code) (nL := 3) (ret := (Option.some Jvm.ClassFile.FieldType.int)) (lv := [(0, .ref px), (1, .int x), (2, .int y)]) (by decide) rfl (Nat.le_of_ble_eq_true rfl) rfl ?_
  intro p e s m below meth c X hr hlk hnm hK
  refine V.rd (pc' := 1) (fun hl => lv_iload_n X.1 X.2.1 d_PR_goTo_0 rfl (lv_at hl 2 rfl)) ?_
  refine V.br (pc' := 4) (tgt := 10) (P := y < 0) (lv_if_lt X.1 X.2.1 d_PR_goTo_1 (by decide)) (fun c_1 => ?_) (fun c_1 => ?_)
  · have i_2 := Int32.lt_iff_toInt_lt.mp c_1
    rw [show (0 : Int32).toInt = 0 from rfl] at i_2
    refine V.go (pc' := 11) (lv_iconst (v := (-1)) X.1 X.2.1 d_PR_goTo_10 (by decide)) ?_
    exact V.iret X hr hlk ⟨(by simp only [sp_PR_goTo, if_pos c_1]), (by simp only [sp_PR_goTo_gg, if_pos c_1]; exact gh2), (fun q n0_ => rfl)⟩ d_PR_goTo_11
  · have i_3 := mt Int32.lt_iff_toInt_lt.mpr c_1
    rw [show (0 : Int32).toInt = 0 from rfl] at i_3
    refine V.rd (pc' := 5) (fun hl => lv_iload_n X.1 X.2.1 d_PR_goTo_4 rfl (lv_at hl 2 rfl)) ?_
    refine V.go (pc' := 7) (lv_bipush (v := 60) X.1 X.2.1 d_PR_goTo_5 (by decide)) ?_
    refine V.br (pc' := 10) (tgt := 12) (P := y ≤ 60) (lv_icmp_le X.1 X.2.1 d_PR_goTo_7 (by decide)) (fun c_4 => ?_) (fun c_4 => ?_)
    · have i_5 := Int32.le_iff_toInt_le.mp c_4
      rw [show (60 : Int32).toInt = 60 from rfl] at i_5
      refine V.rd (pc' := 13) (fun hl => lv_aload_n X.1 X.2.1 d_PR_goTo_12 rfl (lv_at hl 0 rfl)) ?_
      refine V.get (pc' := 16) X hK gh0 uw_PR rfl 0 (by decide) (mcs wd_265) rfl d_PR_goTo_13 rfl ?_
      refine V.rd (pc' := 17) (fun hl => lv_iload_n X.1 X.2.1 d_PR_goTo_16 rfl (lv_at hl 1 rfl)) ?_
      refine V.rd (pc' := 18) (fun hl => lv_iload_n X.1 X.2.1 d_PR_goTo_17 rfl (lv_at hl 2 rfl)) ?_
      refine V.callV (pc' := 21) X hK (c_tellGoing  (pg := pg) (dg := dg) (gg := gg) (tg0 := tg0) (np := np) (ns := ns) (gd := gd) (x := x) (y := y)   gh1 gh2  ) gh1 rfl (cwG (n := 2) X (mcs wd_270) (mcs wd_271) (mcs wd_272) (mcs wd_7) wd_273 (by decide +kernel) (by decide) (by decide)) rfl rfl (Nat.le_of_ble_eq_true rfl) d_PR_goTo_18 ⟨by decide, by decide⟩ rfl (st1 := [.int (sp_tellGoing np gd x)]) rfl (fun M_6 ⟨h_7, fr_8⟩ => ?_)
      have h_9 : M_6 px = some (.inr (5, [.ref pg, .ref lt, .ref tr])) := (fr_8 _ (ne_k gh0 gh2 (i := 5) (j := 1060) rfl rfl (by decide))).trans gh0
      have h_10 : M_6 pg = some (.inr (3, [.ref dg, .ref gg, .ref tg0, .int np, .int ns])) := (fr_8 _ (ne_k gh1 gh2 (i := 3) (j := 1060) rfl rfl (by decide))).trans gh1
      exact V.iret X hr hlk ⟨(by simp only [sp_PR_goTo, if_neg c_1, if_pos c_4]), (by simp only [sp_PR_goTo_gg, if_neg c_1, if_pos c_4]; exact h_7), (fun q n0_ => (fr_8 q n0_))⟩ d_PR_goTo_21
    · have i_11 := mt Int32.le_iff_toInt_le.mpr c_4
      rw [show (60 : Int32).toInt = 60 from rfl] at i_11
      refine V.go (pc' := 11) (lv_iconst (v := (-1)) X.1 X.2.1 d_PR_goTo_10 (by decide)) ?_
      exact V.iret X hr hlk ⟨(by simp only [sp_PR_goTo, if_neg c_1, if_neg c_4]), (by simp only [sp_PR_goTo_gg, if_neg c_1, if_neg c_4]; exact gh2), (fun q n0_ => rfl)⟩ d_PR_goTo_11

theorem d_PR_order_0 : decode prog_1_method_9_code 0 = .ok (.aload_n 0, 1) := by decide +kernel
theorem d_PR_order_1 : decode prog_1_method_9_code 1 = .ok (.getfield 21, 3) := by decide +kernel
theorem d_PR_order_4 : decode prog_1_method_9_code 4 = .ok (.iload_n 1, 1) := by decide +kernel
theorem d_PR_order_5 : decode prog_1_method_9_code 5 = .ok (.invokevirtual 86, 3) := by decide +kernel
theorem d_PR_order_8 : decode prog_1_method_9_code 8 = .ok (.ireturn, 1) := by decide +kernel

set_option maxHeartbeats 4000000 in
set_option maxRecDepth 100000 in
theorem c_PR_order {l : Launch} {H0 : Heap} {D : va_G} {cI cL cQ cB : ClassId} {M : mp} {px pg lt tr ce pi ra : Nat} {ln : Int32} {en : Int32} {rd : Nat → Int32} {x : Int32} (gh0 : M px = some (.inr (5, [.ref pg, .ref lt, .ref tr]))) (gh1 : M lt = some (.inr (1, [.ref pg, .ref ce, .ref pi, .ref ra, .int ln, .int en]))) (gh2 : M ra = some (.inl (cI, 4096, .inl rd))) : MC l H0 D cls7 (tysOf cI cL cQ cB) NW ({ cls := "PerformRanges", name := "order", desc := "(I)I" } : Jvm.MethodName) (Cond.code ({ cls := "PerformRanges", name := "order", desc := "(I)I" } : Jvm.MethodName) prog_1_method_9_code 2 (Option.some Jvm.ClassFile.FieldType.int) :: GW) ({ frames := 1, cells := 0, slots := 0, locals := 21 }) [.ref px, .int x] M (fun v M' => v = some (.int (sp_ranAs ln rd x)) ∧ M' = M) := by
  refine MC.of (cc := prog_1_method_9_code) (nL := 2) (ret := (Option.some Jvm.ClassFile.FieldType.int)) (lv := [(0, .ref px), (1, .int x)]) (by decide) rfl (Nat.le_of_ble_eq_true rfl) rfl ?_
  intro p e s m below meth c X hr hlk hnm hK
  refine V.rd (pc' := 1) (fun hl => lv_aload_n X.1 X.2.1 d_PR_order_0 rfl (lv_at hl 0 rfl)) ?_
  refine V.get (pc' := 4) X hK gh0 uw_PR rfl 1 (by decide) (mcs wd_274) rfl d_PR_order_1 rfl ?_
  refine V.rd (pc' := 5) (fun hl => lv_iload_n X.1 X.2.1 d_PR_order_4 rfl (lv_at hl 1 rfl)) ?_
  refine V.callV0 (pc' := 8) X hK (c_ranAs  (co := lt) (pg := pg) (ce := ce) (pi := pi) (ra := ra) (ln := ln) (en := en) (rd := rd) (x := x)   gh1 gh2  ) gh1 rfl (cwG (n := 1) X (mcs wd_275) (mcs wd_276) (mcs wd_277) (mcs wd_92) wd_278 (by decide +kernel) (by decide) (by decide)) rfl rfl (Nat.le_of_ble_eq_true rfl) d_PR_order_5 ⟨by decide, by decide⟩ rfl (st1 := [.int (sp_ranAs ln rd x)]) rfl ?_
  exact V.iret X hr hlk ⟨rfl, rfl⟩ d_PR_order_8

theorem d_PR_count_0 : decode prog_1_method_13_code 0 = .ok (.iload_n 1, 1) := by decide +kernel
theorem d_PR_count_1 : decode prog_1_method_13_code 1 = .ok (.tableswitch 81 0 4 #[35, 43, 54, 65, 73], 35) := by decide +kernel
theorem d_PR_count_36 : decode prog_1_method_13_code 36 = .ok (.aload_n 0, 1) := by decide +kernel
theorem d_PR_count_37 : decode prog_1_method_13_code 37 = .ok (.getfield 21, 3) := by decide +kernel
theorem d_PR_count_40 : decode prog_1_method_13_code 40 = .ok (.getfield 113, 3) := by decide +kernel
theorem d_PR_count_43 : decode prog_1_method_13_code 43 = .ok (.ireturn, 1) := by decide +kernel
theorem d_PR_count_44 : decode prog_1_method_13_code 44 = .ok (.aload_n 0, 1) := by decide +kernel
theorem d_PR_count_45 : decode prog_1_method_13_code 45 = .ok (.getfield 21, 3) := by decide +kernel
theorem d_PR_count_48 : decode prog_1_method_13_code 48 = .ok (.getfield 89, 3) := by decide +kernel
theorem d_PR_count_51 : decode prog_1_method_13_code 51 = .ok (.getfield 117, 3) := by decide +kernel
theorem d_PR_count_54 : decode prog_1_method_13_code 54 = .ok (.ireturn, 1) := by decide +kernel
theorem d_PR_count_55 : decode prog_1_method_13_code 55 = .ok (.aload_n 0, 1) := by decide +kernel
theorem d_PR_count_56 : decode prog_1_method_13_code 56 = .ok (.getfield 21, 3) := by decide +kernel
theorem d_PR_count_59 : decode prog_1_method_13_code 59 = .ok (.getfield 89, 3) := by decide +kernel
theorem d_PR_count_62 : decode prog_1_method_13_code 62 = .ok (.getfield 120, 3) := by decide +kernel
theorem d_PR_count_65 : decode prog_1_method_13_code 65 = .ok (.ireturn, 1) := by decide +kernel
theorem d_PR_count_66 : decode prog_1_method_13_code 66 = .ok (.aload_n 0, 1) := by decide +kernel
theorem d_PR_count_67 : decode prog_1_method_13_code 67 = .ok (.getfield 10, 3) := by decide +kernel
theorem d_PR_count_70 : decode prog_1_method_13_code 70 = .ok (.getfield 123, 3) := by decide +kernel
theorem d_PR_count_73 : decode prog_1_method_13_code 73 = .ok (.ireturn, 1) := by decide +kernel
theorem d_PR_count_74 : decode prog_1_method_13_code 74 = .ok (.aload_n 0, 1) := by decide +kernel
theorem d_PR_count_75 : decode prog_1_method_13_code 75 = .ok (.getfield 10, 3) := by decide +kernel
theorem d_PR_count_78 : decode prog_1_method_13_code 78 = .ok (.getfield 126, 3) := by decide +kernel
theorem d_PR_count_81 : decode prog_1_method_13_code 81 = .ok (.ireturn, 1) := by decide +kernel
theorem d_PR_count_82 : decode prog_1_method_13_code 82 = .ok (.iconst (-1), 1) := by decide +kernel
theorem d_PR_count_83 : decode prog_1_method_13_code 83 = .ok (.ireturn, 1) := by decide +kernel

def sp_PR_count (en : Int32) (np : Int32) (ns : Int32) (hh : Int32) (hi : Int32) (x : Int32) : Int32 := if x = 0 then en else if x = 1 then hh else if x = 2 then hi else if x = 3 then np else if x = 4 then ns else (-1)
set_option maxHeartbeats 4000000 in
set_option maxRecDepth 100000 in
theorem c_PR_count {l : Launch} {H0 : Heap} {D : va_G} {cI cL cQ cB : ClassId} {M : mp} {px pg lt tr dg gg tg0 ce pi ra la pe tu : Nat} {ln : Int32} {en : Int32} {np : Int32} {ns : Int32} {hh : Int32} {hi : Int32} {x : Int32} (gh0 : M px = some (.inr (5, [.ref pg, .ref lt, .ref tr]))) (gh1 : M lt = some (.inr (1, [.ref pg, .ref ce, .ref pi, .ref ra, .int ln, .int en]))) (gh2 : M pg = some (.inr (3, [.ref dg, .ref gg, .ref tg0, .int np, .int ns]))) (gh3 : M pi = some (.inr (2, [.ref la, .ref pe, .ref tu, .int hh, .int hi]))) : MC l H0 D cls7 (tysOf cI cL cQ cB) NW ({ cls := "PerformRanges", name := "count", desc := "(I)I" } : Jvm.MethodName) (Cond.code ({ cls := "PerformRanges", name := "count", desc := "(I)I" } : Jvm.MethodName) prog_1_method_13_code 2 (Option.some Jvm.ClassFile.FieldType.int) :: GW) ({ frames := 0, cells := 0, slots := 0, locals := 0 }) [.ref px, .int x] M (fun v M' => v = some (.int (sp_PR_count en np ns hh hi x)) ∧ M' = M) := by
  refine MC.of (cc := prog_1_method_13_code) (nL := 2) (ret := (Option.some Jvm.ClassFile.FieldType.int)) (lv := [(0, .ref px), (1, .int x)]) (by decide) rfl (Nat.le_of_ble_eq_true rfl) rfl ?_
  intro p e s m below meth c X hr hlk hnm hK
  refine V.rd (pc' := 1) (fun hl => lv_iload_n X.1 X.2.1 d_PR_count_0 rfl (lv_at hl 1 rfl)) ?_
  refine V.dec (P := x = 0) (fun c_1 => ?_) (fun c_1 => ?_)
  · refine V.go (pc' := 36) (lv_tableIn X.1 X.2.1 d_PR_count_1 (by rw [c_1]; decide) (by rw [c_1]; decide) (off := 35) (by rw [c_1]; rfl) (by decide)) ?_
    refine V.rd (pc' := 37) (fun hl => lv_aload_n X.1 X.2.1 d_PR_count_36 rfl (lv_at hl 0 rfl)) ?_
    refine V.get (pc' := 40) X hK gh0 uw_PR rfl 1 (by decide) (mcs wd_274) rfl d_PR_count_37 rfl ?_
    refine V.getN (pc' := 43) X hK gh1 uw_Course rfl 5 (by decide) (List.mem_of_getElem? (i := 10) rfl) rfl d_PR_count_40 rfl ?_
    exact V.iret X hr hlk ⟨(by simp only [sp_PR_count, if_pos c_1]), rfl⟩ d_PR_count_43
  · refine V.dec (P := x = 1) (fun c_2 => ?_) (fun c_2 => ?_)
    · refine V.go (pc' := 44) (lv_tableIn X.1 X.2.1 d_PR_count_1 (by rw [c_2]; decide) (by rw [c_2]; decide) (off := 43) (by rw [c_2]; rfl) (by decide)) ?_
      refine V.rd (pc' := 45) (fun hl => lv_aload_n X.1 X.2.1 d_PR_count_44 rfl (lv_at hl 0 rfl)) ?_
      refine V.get (pc' := 48) X hK gh0 uw_PR rfl 1 (by decide) (mcs wd_274) rfl d_PR_count_45 rfl ?_
      refine V.getN (pc' := 51) X hK gh1 uw_Course rfl 2 (by decide) (List.mem_of_getElem? (i := 9) rfl) rfl d_PR_count_48 rfl ?_
      refine V.getN (pc' := 54) X hK gh3 uw_Pile rfl 3 (by decide) (List.mem_of_getElem? (i := 6) rfl) rfl d_PR_count_51 rfl ?_
      exact V.iret X hr hlk ⟨(by simp only [sp_PR_count, if_neg c_1, if_pos c_2]), rfl⟩ d_PR_count_54
    · refine V.dec (P := x = 2) (fun c_3 => ?_) (fun c_3 => ?_)
      · refine V.go (pc' := 55) (lv_tableIn X.1 X.2.1 d_PR_count_1 (by rw [c_3]; decide) (by rw [c_3]; decide) (off := 54) (by rw [c_3]; rfl) (by decide)) ?_
        refine V.rd (pc' := 56) (fun hl => lv_aload_n X.1 X.2.1 d_PR_count_55 rfl (lv_at hl 0 rfl)) ?_
        refine V.get (pc' := 59) X hK gh0 uw_PR rfl 1 (by decide) (mcs wd_274) rfl d_PR_count_56 rfl ?_
        refine V.getN (pc' := 62) X hK gh1 uw_Course rfl 2 (by decide) (List.mem_of_getElem? (i := 9) rfl) rfl d_PR_count_59 rfl ?_
        refine V.getN (pc' := 65) X hK gh3 uw_Pile rfl 4 (by decide) (List.mem_of_getElem? (i := 7) rfl) rfl d_PR_count_62 rfl ?_
        exact V.iret X hr hlk ⟨(by simp only [sp_PR_count, if_neg c_1, if_neg c_2, if_pos c_3]), rfl⟩ d_PR_count_65
      · refine V.dec (P := x = 3) (fun c_4 => ?_) (fun c_4 => ?_)
        · refine V.go (pc' := 66) (lv_tableIn X.1 X.2.1 d_PR_count_1 (by rw [c_4]; decide) (by rw [c_4]; decide) (off := 65) (by rw [c_4]; rfl) (by decide)) ?_
          refine V.rd (pc' := 67) (fun hl => lv_aload_n X.1 X.2.1 d_PR_count_66 rfl (lv_at hl 0 rfl)) ?_
          refine V.get (pc' := 70) X hK gh0 uw_PR rfl 0 (by decide) (mcs wd_265) rfl d_PR_count_67 rfl ?_
          refine V.getN (pc' := 73) X hK gh2 uw_Program rfl 3 (by decide) (List.mem_of_getElem? (i := 2) rfl) rfl d_PR_count_70 rfl ?_
          exact V.iret X hr hlk ⟨(by simp only [sp_PR_count, if_neg c_1, if_neg c_2, if_neg c_3, if_pos c_4]), rfl⟩ d_PR_count_73
        · refine V.dec (P := x = 4) (fun c_5 => ?_) (fun c_5 => ?_)
          · refine V.go (pc' := 74) (lv_tableIn X.1 X.2.1 d_PR_count_1 (by rw [c_5]; decide) (by rw [c_5]; decide) (off := 73) (by rw [c_5]; rfl) (by decide)) ?_
            refine V.rd (pc' := 75) (fun hl => lv_aload_n X.1 X.2.1 d_PR_count_74 rfl (lv_at hl 0 rfl)) ?_
            refine V.get (pc' := 78) X hK gh0 uw_PR rfl 0 (by decide) (mcs wd_265) rfl d_PR_count_75 rfl ?_
            refine V.getN (pc' := 81) X hK gh2 uw_Program rfl 4 (by decide) (List.mem_of_getElem? (i := 3) rfl) rfl d_PR_count_78 rfl ?_
            exact V.iret X hr hlk ⟨(by simp only [sp_PR_count, if_neg c_1, if_neg c_2, if_neg c_3, if_neg c_4, if_pos c_5]), rfl⟩ d_PR_count_81
          · refine V.go (pc' := 82) (lv_tableOut X.1 X.2.1 d_PR_count_1 (by have t0 := lv_neT (a := 0) c_1 rfl; have t1 := lv_neT (a := 1) c_2 rfl; have t2 := lv_neT (a := 2) c_3 rfl; have t3 := lv_neT (a := 3) c_4 rfl; have t4 := lv_neT (a := 4) c_5 rfl; omega) (by decide)) ?_
            refine V.go (pc' := 83) (lv_iconst (v := (-1)) X.1 X.2.1 d_PR_count_82 (by decide)) ?_
            exact V.iret X hr hlk ⟨(by simp only [sp_PR_count, if_neg c_1, if_neg c_2, if_neg c_3, if_neg c_4, if_neg c_5]), rfl⟩ d_PR_count_83

theorem d_PR_active_0 : decode prog_1_method_10_code 0 = .ok (.aload_n 0, 1) := by decide +kernel
theorem d_PR_active_1 : decode prog_1_method_10_code 1 = .ok (.getfield 10, 3) := by decide +kernel
theorem d_PR_active_4 : decode prog_1_method_10_code 4 = .ok (.iload_n 1, 1) := by decide +kernel
theorem d_PR_active_5 : decode prog_1_method_10_code 5 = .ok (.invokevirtual 32, 3) := by decide +kernel
theorem d_PR_active_8 : decode prog_1_method_10_code 8 = .ok (.ifCond .ne 5, 3) := by decide +kernel
theorem d_PR_active_11 : decode prog_1_method_10_code 11 = .ok (.iconst (-1), 1) := by decide +kernel
theorem d_PR_active_12 : decode prog_1_method_10_code 12 = .ok (.ireturn, 1) := by decide +kernel
theorem d_PR_active_13 : decode prog_1_method_10_code 13 = .ok (.aload_n 0, 1) := by decide +kernel
theorem d_PR_active_14 : decode prog_1_method_10_code 14 = .ok (.getfield 21, 3) := by decide +kernel
theorem d_PR_active_17 : decode prog_1_method_10_code 17 = .ok (.getfield 89, 3) := by decide +kernel
theorem d_PR_active_20 : decode prog_1_method_10_code 20 = .ok (.iload_n 1, 1) := by decide +kernel
theorem d_PR_active_21 : decode prog_1_method_10_code 21 = .ok (.invokevirtual 93, 3) := by decide +kernel
theorem d_PR_active_24 : decode prog_1_method_10_code 24 = .ok (.ireturn, 1) := by decide +kernel

def sp_PR_active (np : Int32) (hh : Int32) (lo : Nat → Option Nat) (x : Int32) (σ : Nat → Stm) : Int32 := if (sp_isParagraph np x) = 0 then (-1) else lp_endingAt hh lo x σ 101 0 0
set_option maxHeartbeats 4000000 in
set_option maxRecDepth 100000 in
theorem c_PR_active {l : Launch} {H0 : Heap} {D : va_G} {cI cL cQ cB : ClassId} {M : mp} {px pg lt tr dg gg tg0 ce pi ra la pe tu : Nat} {sa u1 u2 u3 u4 u5 : Nat → Nat} {σ : Nat → Stm} {ln : Int32} {en : Int32} {np : Int32} {ns : Int32} {hh : Int32} {hi : Int32} {lo : Nat → Option Nat} {x : Int32} (gh0 : M px = some (.inr (5, [.ref pg, .ref lt, .ref tr]))) (gh1 : M lt = some (.inr (1, [.ref pg, .ref ce, .ref pi, .ref ra, .int ln, .int en]))) (gh2 : M pg = some (.inr (3, [.ref dg, .ref gg, .ref tg0, .int np, .int ns]))) (gh3 : M pi = some (.inr (2, [.ref la, .ref pe, .ref tu, .int hh, .int hi]))) (gh4 : M la = some (.inl (cQ, 100, .inr (.inr (.inr (.inr (lq lo sa))))))) (hp : SP cI cL M ns sa u1 u2 u3 u4 u5 σ) (hσ : ∀ i : Nat, (i : Int) < ns.toInt → (st_l (σ i)).toInt ≤ 7) (hlo : ∀ k j : Nat, lo k = some j → (j : Int) < ns.toInt) : MC l H0 D cls7 (tysOf cI cL cQ cB) NW ({ cls := "PerformRanges", name := "active", desc := "(I)I" } : Jvm.MethodName) (Cond.code ({ cls := "PerformRanges", name := "active", desc := "(I)I" } : Jvm.MethodName) prog_1_method_10_code 2 (Option.some Jvm.ClassFile.FieldType.int) :: GW) ({ frames := 1, cells := 0, slots := 0, locals := 24 }) [.ref px, .int x] M (fun v M' => v = some (.int (sp_PR_active np hh lo x σ)) ∧ M' = M) := by
  refine MC.of (cc := prog_1_method_10_code) (nL := 2) (ret := (Option.some Jvm.ClassFile.FieldType.int)) (lv := [(0, .ref px), (1, .int x)]) (by decide) rfl (Nat.le_of_ble_eq_true rfl) rfl ?_
  intro p e s m below meth c X hr hlk hnm hK
  refine V.rd (pc' := 1) (fun hl => lv_aload_n X.1 X.2.1 d_PR_active_0 rfl (lv_at hl 0 rfl)) ?_
  refine V.get (pc' := 4) X hK gh0 uw_PR rfl 0 (by decide) (mcs wd_265) rfl d_PR_active_1 rfl ?_
  refine V.rd (pc' := 5) (fun hl => lv_iload_n X.1 X.2.1 d_PR_active_4 rfl (lv_at hl 1 rfl)) ?_
  refine V.callV0 (pc' := 8) X hK (c_isParagraph  (pg := pg) (dg := dg) (gg := gg) (tg0 := tg0) (np := np) (ns := ns) (x := x)   gh2  ) gh2 rfl (cwG (n := 1) X (mcs wd_279) (mcs wd_5) (mcs wd_6) (mcs wd_7) wd_8 (by decide +kernel) (by decide) (by decide)) rfl rfl (Nat.le_of_ble_eq_true rfl) d_PR_active_5 ⟨by decide, by decide⟩ rfl (st1 := [.int (sp_isParagraph np x)]) rfl ?_
  refine V.bn (pc' := 11) (tgt := 13) (P := (sp_isParagraph np x) = 0) (lv_if_ne X.1 X.2.1 d_PR_active_8 (by decide)) (fun c_2 => ?_) (fun c_2 => ?_)
  · have i_3 := congrArg Int32.toInt c_2
    rw [show (0 : Int32).toInt = 0 from rfl] at i_3
    refine V.go (pc' := 12) (lv_iconst (v := (-1)) X.1 X.2.1 d_PR_active_11 (by decide)) ?_
    exact V.iret X hr hlk ⟨(by simp only [sp_PR_active, if_pos c_2]), rfl⟩ d_PR_active_12
  · have i_4 := isPar_ne c_2
    refine V.rd (pc' := 14) (fun hl => lv_aload_n X.1 X.2.1 d_PR_active_13 rfl (lv_at hl 0 rfl)) ?_
    refine V.get (pc' := 17) X hK gh0 uw_PR rfl 1 (by decide) (mcs wd_274) rfl d_PR_active_14 rfl ?_
    refine V.getN (pc' := 20) X hK gh1 uw_Course rfl 2 (by decide) (List.mem_of_getElem? (i := 9) rfl) rfl d_PR_active_17 rfl ?_
    refine V.rd (pc' := 21) (fun hl => lv_iload_n X.1 X.2.1 d_PR_active_20 rfl (lv_at hl 1 rfl)) ?_
    refine V.callV0 (pc' := 24) X hK (c_endingAt  (pi := pi) (la := la) (pe := pe) (tu := tu) (hh := hh) (hi := hi) (ns := ns) (lo := lo) (x := x)   gh3 gh4 hp hσ hlo) gh3 rfl (cwG (n := 1) X (mcs wd_280) (mcs wd_281) (mcs wd_282) (mcs wd_81) wd_283 (by decide +kernel) (by decide) (by decide)) rfl rfl (Nat.le_of_ble_eq_true rfl) d_PR_active_21 ⟨by decide, by decide⟩ rfl (st1 := [.int (lp_endingAt hh lo x σ 101 0 0)]) rfl ?_
    exact V.iret X hr hlk ⟨(by simp only [sp_PR_active, if_neg c_2]), rfl⟩ d_PR_active_24

theorem d_PR_canBeRun_0 : decode prog_1_method_14_code 0 = .ok (.aload_n 0, 1) := by decide +kernel
theorem d_PR_canBeRun_1 : decode prog_1_method_14_code 1 = .ok (.getfield 10, 3) := by decide +kernel
theorem d_PR_canBeRun_4 : decode prog_1_method_14_code 4 = .ok (.iload_n 1, 1) := by decide +kernel
theorem d_PR_canBeRun_5 : decode prog_1_method_14_code 5 = .ok (.invokevirtual 129, 3) := by decide +kernel
theorem d_PR_canBeRun_8 : decode prog_1_method_14_code 8 = .ok (.ifnull 21, 3) := by decide +kernel
theorem d_PR_canBeRun_11 : decode prog_1_method_14_code 11 = .ok (.lload_n 2, 1) := by decide +kernel
theorem d_PR_canBeRun_12 : decode prog_1_method_14_code 12 = .ok (.lconst 0, 1) := by decide +kernel
theorem d_PR_canBeRun_13 : decode prog_1_method_14_code 13 = .ok (.lcmp, 1) := by decide +kernel
theorem d_PR_canBeRun_14 : decode prog_1_method_14_code 14 = .ok (.ifCond .lt 15, 3) := by decide +kernel
theorem d_PR_canBeRun_17 : decode prog_1_method_14_code 17 = .ok (.lload_n 2, 1) := by decide +kernel
theorem d_PR_canBeRun_18 : decode prog_1_method_14_code 18 = .ok (.ldc2_w 132, 3) := by decide +kernel
theorem d_PR_canBeRun_21 : decode prog_1_method_14_code 21 = .ok (.lcmp, 1) := by decide +kernel
theorem d_PR_canBeRun_22 : decode prog_1_method_14_code 22 = .ok (.ifCond .gt 7, 3) := by decide +kernel
theorem d_PR_canBeRun_25 : decode prog_1_method_14_code 25 = .ok (.iconst 1, 1) := by decide +kernel
theorem d_PR_canBeRun_26 : decode prog_1_method_14_code 26 = .ok (.goto 4, 3) := by decide +kernel
theorem d_PR_canBeRun_29 : decode prog_1_method_14_code 29 = .ok (.iconst 0, 1) := by decide +kernel
theorem d_PR_canBeRun_30 : decode prog_1_method_14_code 30 = .ok (.ireturn, 1) := by decide +kernel

def sp_canBeRun (ns : Int32) (x : Int32) (steps : Int64) (σ : Nat → Stm) : Int32 := oc (sp_whole ns x σ) 0 (fun i_3 => if (lg_cmp steps 0) < 0 then 0 else if 0 < (lg_cmp steps 4096) then 0 else 1)
set_option maxHeartbeats 4000000 in
set_option maxRecDepth 100000 in
theorem c_canBeRun {l : Launch} {H0 : Heap} {D : va_G} {cI cL cQ cB : ClassId} {M : mp} {px pg lt tr dg gg tg0 : Nat} {sa u1 u2 u3 u4 u5 : Nat → Nat} {σ : Nat → Stm} {np : Int32} {ns : Int32} {x : Int32} {steps : Int64} (gh0 : M px = some (.inr (5, [.ref pg, .ref lt, .ref tr]))) (gh1 : M pg = some (.inr (3, [.ref dg, .ref gg, .ref tg0, .int np, .int ns]))) (gh2 : M tg0 = some (.inl (cQ, 60, .inr (.inr (.inr (.inr (tdOf ns sa))))))) (hp : SP cI cL M ns sa u1 u2 u3 u4 u5 σ) (hσ : ∀ i : Nat, (i : Int) < ns.toInt → (st_l (σ i)).toInt ≤ 7) : MC l H0 D cls7 (tysOf cI cL cQ cB) NW ({ cls := "PerformRanges", name := "canBeRun", desc := "(IJ)Z" } : Jvm.MethodName) (Cond.code ({ cls := "PerformRanges", name := "canBeRun", desc := "(IJ)Z" } : Jvm.MethodName) prog_1_method_14_code 4 (Option.some Jvm.ClassFile.FieldType.boolean) :: GW) ({ frames := 2, cells := 0, slots := 0, locals := 43 }) [.ref px, .int x, .long steps] M (fun v M' => v = some (.int (sp_canBeRun ns x steps σ)) ∧ M' = M) := by
  refine MC.of (cc := prog_1_method_14_code) (nL := 4) (ret := (Option.some Jvm.ClassFile.FieldType.boolean)) (lv := [(0, .ref px), (1, .int x), (2, .long steps)]) (by decide) rfl (Nat.le_of_ble_eq_true rfl) rfl ?_
  intro p e s m below meth c X hr hlk hnm hK
  refine V.rd (pc' := 1) (fun hl => lv_aload_n X.1 X.2.1 d_PR_canBeRun_0 rfl (lv_at hl 0 rfl)) ?_
  refine V.get (pc' := 4) X hK gh0 uw_PR rfl 0 (by decide) (mcs wd_265) rfl d_PR_canBeRun_1 rfl ?_
  refine V.rd (pc' := 5) (fun hl => lv_iload_n X.1 X.2.1 d_PR_canBeRun_4 rfl (lv_at hl 1 rfl)) ?_
  refine V.callV0 (pc' := 8) X hK (c_whole  (pg := pg) (dg := dg) (gg := gg) (tg0 := tg0) (np := np) (ns := ns) (x := x)   gh1 gh2 hp hσ) gh1 rfl (cwG (n := 1) X (mcs wd_284) (mcs wd_104) (mcs wd_105) (mcs wd_7) wd_106 (by decide +kernel) (by decide) (by decide)) rfl rfl (Nat.le_of_ble_eq_true rfl) d_PR_canBeRun_5 ⟨by decide, by decide⟩ rfl (st1 := [va_rf (Option.map sa (sp_whole ns x σ))]) rfl ?_
  refine V.sp (o := sp_whole ns x σ) (fun c_2 => ?_) (fun i_3 c_2 => ?_)
  · refine V.go (pc' := 29) (lv_ifnullN X.1 X.2.1 d_PR_canBeRun_8 (by decide)) ?_
    refine V.go (pc' := 30) (lv_iconst (v := 0) X.1 X.2.1 d_PR_canBeRun_29 (by decide)) ?_
    exact V.zret X hr hlk rfl ⟨(by simp only [sp_canBeRun, c_2, oc_none]), rfl⟩ d_PR_canBeRun_30
  · have hlt_10 : (i_3 : Int) < ns.toInt := whole_lt c_2
    have hs_11 := hσ i_3 hlt_10
    obtain ⟨h_4, h_5, h_6, h_7, h_8, h_9⟩ := hp i_3 hlt_10
    refine V.go (pc' := 11) (lv_ifnull X.1 X.2.1 d_PR_canBeRun_8) ?_
    refine V.rd (pc' := 12) (fun hl => lv_lload_n X.1 X.2.1 d_PR_canBeRun_11 rfl (lv_at hl 2 rfl)) ?_
    refine V.go (pc' := 13) (lv_lconst (v := 0) X.1 X.2.1 d_PR_canBeRun_12 (by decide)) ?_
    refine V.go (pc' := 14) (W.lcmp X.1 X.2.1 d_PR_canBeRun_13) ?_
    refine V.br (pc' := 17) (tgt := 29) (P := (lg_cmp steps 0) < 0) (lv_if_lt X.1 X.2.1 d_PR_canBeRun_14 (by decide)) (fun c_12 => ?_) (fun c_12 => ?_)
    · refine V.go (pc' := 30) (lv_iconst (v := 0) X.1 X.2.1 d_PR_canBeRun_29 (by decide)) ?_
      exact V.zret X hr hlk rfl ⟨(by simp only [sp_canBeRun, c_2, oc_some, if_pos c_12]), rfl⟩ d_PR_canBeRun_30
    · refine V.rd (pc' := 18) (fun hl => lv_lload_n X.1 X.2.1 d_PR_canBeRun_17 rfl (lv_at hl 2 rfl)) ?_
      refine V.go (pc' := 21) (lv_ldc2 (v := 4096) X.1 X.2.1 X.2.2.2.1 (X.2.2.2.2 _ (mcs wd_285)) d_PR_canBeRun_18) ?_
      refine V.go (pc' := 22) (W.lcmp X.1 X.2.1 d_PR_canBeRun_21) ?_
      refine V.br (pc' := 25) (tgt := 29) (P := 0 < (lg_cmp steps 4096)) (lv_if_gt X.1 X.2.1 d_PR_canBeRun_22 (by decide)) (fun c_13 => ?_) (fun c_13 => ?_)
      · refine V.go (pc' := 30) (lv_iconst (v := 0) X.1 X.2.1 d_PR_canBeRun_29 (by decide)) ?_
        exact V.zret X hr hlk rfl ⟨(by simp only [sp_canBeRun, c_2, oc_some, if_neg c_12, if_pos c_13]), rfl⟩ d_PR_canBeRun_30
      · refine V.go (pc' := 26) (lv_iconst (v := 1) X.1 X.2.1 d_PR_canBeRun_25 (by decide)) ?_
        refine V.go (pc' := 30) (lv_goto X.1 X.2.1 d_PR_canBeRun_26 (by decide)) ?_
        exact V.zret X hr hlk rfl ⟨(by simp only [sp_canBeRun, c_2, oc_some, if_neg c_12, if_neg c_13]), rfl⟩ d_PR_canBeRun_30

theorem canBeRun_ne {ns x : Int32} {steps : Int64} {σ : Nat → Stm} (h : ¬ sp_canBeRun ns x steps σ = 0) : 0 ≤ steps.toInt ∧ steps.toInt ≤ 4096 := by
  unfold sp_canBeRun at h
  cases hc : sp_whole ns x σ with
  | none =>
    rw [hc, oc_none] at h
    exact absurd rfl h
  | some i =>
    rw [hc, oc_some] at h
    split at h
    · exact absurd rfl h
    · split at h
      · exact absurd rfl h
      · rename_i h2 h3
        have a1 := mt (lg_cmp_lt _ _).mpr h2
        have a2 := mt (lg_cmp_gt _ _).mpr h3
        have b1 := mt Int64.lt_iff_toInt_lt.mpr a1
        have b2 := mt Int64.lt_iff_toInt_lt.mpr a2
        rw [show (0 : Int64).toInt = 0 from rfl] at b1
        rw [show (4096 : Int64).toInt = 4096 from rfl] at b2
        omega

theorem d_PR_run_0 : decode prog_1_method_7_code 0 = .ok (.aload_n 0, 1) := by decide +kernel
theorem d_PR_run_1 : decode prog_1_method_7_code 1 = .ok (.iload_n 1, 1) := by decide +kernel
theorem d_PR_run_2 : decode prog_1_method_7_code 2 = .ok (.lload_n 2, 1) := by decide +kernel
theorem d_PR_run_3 : decode prog_1_method_7_code 3 = .ok (.invokevirtual 68, 3) := by decide +kernel
theorem d_PR_run_6 : decode prog_1_method_7_code 6 = .ok (.ifCond .ne 5, 3) := by decide +kernel
theorem d_PR_run_9 : decode prog_1_method_7_code 9 = .ok (.iconst (-1), 1) := by decide +kernel
theorem d_PR_run_10 : decode prog_1_method_7_code 10 = .ok (.ireturn, 1) := by decide +kernel
theorem d_PR_run_11 : decode prog_1_method_7_code 11 = .ok (.aload_n 0, 1) := by decide +kernel
theorem d_PR_run_12 : decode prog_1_method_7_code 12 = .ok (.getfield 21, 3) := by decide +kernel
theorem d_PR_run_15 : decode prog_1_method_7_code 15 = .ok (.iload_n 1, 1) := by decide +kernel
theorem d_PR_run_16 : decode prog_1_method_7_code 16 = .ok (.lload_n 2, 1) := by decide +kernel
theorem d_PR_run_17 : decode prog_1_method_7_code 17 = .ok (.invokevirtual 72, 3) := by decide +kernel
theorem d_PR_run_20 : decode prog_1_method_7_code 20 = .ok (.ireturn, 1) := by decide +kernel

def sp_PR_run (en : Int32) (np : Int32) (ns : Int32) (hi : Int32) (dd : Nat → Int32) (gd : Nat → Int32) (f : Nat → Int64) (lo : Nat → Option Nat) (pd : Nat → Int32) (ud : Nat → Int32) (rd : Nat → Int32) (x : Int32) (steps : Int64) (σ : Nat → Stm) : Int32 := if (sp_canBeRun ns x steps σ) = 0 then (-1) else sp_travel en np ns hi dd gd f lo pd ud rd x steps σ
def sp_PR_run_pi_3 (en : Int32) (np : Int32) (ns : Int32) (hh : Int32) (hi : Int32) (dd : Nat → Int32) (gd : Nat → Int32) (f : Nat → Int64) (lo : Nat → Option Nat) (pd : Nat → Int32) (ud : Nat → Int32) (rd : Nat → Int32) (x : Int32) (steps : Int64) (σ : Nat → Stm) : Int32 := if (sp_canBeRun ns x steps σ) = 0 then hh else sp_travel_pi_3 en np ns hi dd gd f lo pd ud rd x steps σ
def sp_PR_run_pi_4 (en : Int32) (np : Int32) (ns : Int32) (hi : Int32) (dd : Nat → Int32) (gd : Nat → Int32) (f : Nat → Int64) (lo : Nat → Option Nat) (pd : Nat → Int32) (ud : Nat → Int32) (rd : Nat → Int32) (x : Int32) (steps : Int64) (σ : Nat → Stm) : Int32 := if (sp_canBeRun ns x steps σ) = 0 then hi else sp_travel_pi_4 en np ns hi dd gd f lo pd ud rd x steps σ
def sp_PR_run_lt_4 (ln : Int32) (en : Int32) (np : Int32) (ns : Int32) (hi : Int32) (dd : Nat → Int32) (gd : Nat → Int32) (f : Nat → Int64) (lo : Nat → Option Nat) (pd : Nat → Int32) (ud : Nat → Int32) (rd : Nat → Int32) (x : Int32) (steps : Int64) (σ : Nat → Stm) : Int32 := if (sp_canBeRun ns x steps σ) = 0 then ln else sp_travel_co_4 ln en np ns hi dd gd f lo pd ud rd x steps σ
def sp_PR_run_lt_5 (en : Int32) (np : Int32) (ns : Int32) (hi : Int32) (dd : Nat → Int32) (gd : Nat → Int32) (f : Nat → Int64) (lo : Nat → Option Nat) (pd : Nat → Int32) (ud : Nat → Int32) (rd : Nat → Int32) (x : Int32) (steps : Int64) (σ : Nat → Stm) : Int32 := if (sp_canBeRun ns x steps σ) = 0 then en else sp_travel_co_5 en np ns hi dd gd f lo pd ud rd x steps σ
def sp_PR_run_la (en : Int32) (np : Int32) (ns : Int32) (hi : Int32) (dd : Nat → Int32) (gd : Nat → Int32) (f : Nat → Int64) (lo : Nat → Option Nat) (pd : Nat → Int32) (ud : Nat → Int32) (rd : Nat → Int32) (x : Int32) (steps : Int64) (σ : Nat → Stm) : Nat → Option Nat := if (sp_canBeRun ns x steps σ) = 0 then lo else sp_travel_la en np ns hi dd gd f lo pd ud rd x steps σ
def sp_PR_run_pe (en : Int32) (np : Int32) (ns : Int32) (hi : Int32) (dd : Nat → Int32) (gd : Nat → Int32) (f : Nat → Int64) (lo : Nat → Option Nat) (pd : Nat → Int32) (ud : Nat → Int32) (rd : Nat → Int32) (x : Int32) (steps : Int64) (σ : Nat → Stm) : Nat → Int32 := if (sp_canBeRun ns x steps σ) = 0 then pd else sp_travel_pe en np ns hi dd gd f lo pd ud rd x steps σ
def sp_PR_run_tu (en : Int32) (np : Int32) (ns : Int32) (hi : Int32) (dd : Nat → Int32) (gd : Nat → Int32) (f : Nat → Int64) (lo : Nat → Option Nat) (pd : Nat → Int32) (ud : Nat → Int32) (rd : Nat → Int32) (x : Int32) (steps : Int64) (σ : Nat → Stm) : Nat → Int32 := if (sp_canBeRun ns x steps σ) = 0 then ud else sp_travel_tu en np ns hi dd gd f lo pd ud rd x steps σ
def sp_PR_run_va (en : Int32) (np : Int32) (ns : Int32) (hi : Int32) (dd : Nat → Int32) (gd : Nat → Int32) (f : Nat → Int64) (lo : Nat → Option Nat) (pd : Nat → Int32) (ud : Nat → Int32) (rd : Nat → Int32) (x : Int32) (steps : Int64) (σ : Nat → Stm) : Nat → Int64 := if (sp_canBeRun ns x steps σ) = 0 then f else sp_travel_va en np ns hi dd gd f lo pd ud rd x steps σ
def sp_PR_run_ra (en : Int32) (np : Int32) (ns : Int32) (hi : Int32) (dd : Nat → Int32) (gd : Nat → Int32) (f : Nat → Int64) (lo : Nat → Option Nat) (pd : Nat → Int32) (ud : Nat → Int32) (rd : Nat → Int32) (x : Int32) (steps : Int64) (σ : Nat → Stm) : Nat → Int32 := if (sp_canBeRun ns x steps σ) = 0 then rd else sp_travel_ra en np ns hi dd gd f lo pd ud rd x steps σ
set_option maxHeartbeats 4000000 in
set_option maxRecDepth 100000 in
theorem c_PR_run {l : Launch} {H0 : Heap} {D : va_G} {cI cL cQ cB : ClassId} {M : mp} {px pg lt tr dg gg tg0 ce pi ra va la pe tu : Nat} {sa u1 u2 u3 u4 u5 : Nat → Nat} {σ : Nat → Stm} {ln : Int32} {en : Int32} {np : Int32} {ns : Int32} {hh : Int32} {hi : Int32} {dd : Nat → Int32} {gd : Nat → Int32} {f : Nat → Int64} {lo : Nat → Option Nat} {pd : Nat → Int32} {ud : Nat → Int32} {rd : Nat → Int32} {x : Int32} {steps : Int64} (ne0 : pe ≠ tu) (ne1 : dg ≠ gg) (gh0 : M px = some (.inr (5, [.ref pg, .ref lt, .ref tr]))) (gh1 : M lt = some (.inr (1, [.ref pg, .ref ce, .ref pi, .ref ra, .int ln, .int en]))) (gh2 : M ce = some (.inr (0, [.ref va]))) (gh3 : M va = some (.inl (cL, 16, .inr (.inl f)))) (gh4 : M pg = some (.inr (3, [.ref dg, .ref gg, .ref tg0, .int np, .int ns]))) (gh5 : M dg = some (.inl (cI, 60, .inl dd))) (gh6 : M gg = some (.inl (cI, 60, .inl gd))) (gh7 : M tg0 = some (.inl (cQ, 60, .inr (.inr (.inr (.inr (tdOf ns sa))))))) (gh8 : M pi = some (.inr (2, [.ref la, .ref pe, .ref tu, .int hh, .int hi]))) (gh9 : M la = some (.inl (cQ, 100, .inr (.inr (.inr (.inr (lq lo sa))))))) (gh10 : M pe = some (.inl (cI, 100, .inl pd))) (gh11 : M tu = some (.inl (cI, 100, .inl ud))) (gh12 : M ra = some (.inl (cI, 4096, .inl rd))) (hp : SP cI cL M ns sa u1 u2 u3 u4 u5 σ) (hσ : ∀ i : Nat, (i : Int) < ns.toInt → (st_l (σ i)).toInt ≤ 7) (hlo : ∀ k j : Nat, lo k = some j → (j : Int) < ns.toInt) : MC l H0 D cls7 (tysOf cI cL cQ cB) NW ({ cls := "PerformRanges", name := "run", desc := "(IJ)I" } : Jvm.MethodName) (Cond.code ({ cls := "PerformRanges", name := "run", desc := "(IJ)I" } : Jvm.MethodName) prog_1_method_7_code 4 (Option.some Jvm.ClassFile.FieldType.int) :: GW) ({ frames := 7, cells := 0, slots := 0, locals := 162 }) [.ref px, .int x, .long steps] M (fun v M' => v = some (.int (sp_PR_run en np ns hi dd gd f lo pd ud rd x steps σ)) ∧ M' pi = some (.inr (2, [.ref la, .ref pe, .ref tu, .int (sp_PR_run_pi_3 en np ns hh hi dd gd f lo pd ud rd x steps σ), .int (sp_PR_run_pi_4 en np ns hi dd gd f lo pd ud rd x steps σ)])) ∧ M' lt = some (.inr (1, [.ref pg, .ref ce, .ref pi, .ref ra, .int (sp_PR_run_lt_4 ln en np ns hi dd gd f lo pd ud rd x steps σ), .int (sp_PR_run_lt_5 en np ns hi dd gd f lo pd ud rd x steps σ)])) ∧ M' la = some (.inl (cQ, 100, .inr (.inr (.inr (.inr (lq (sp_PR_run_la en np ns hi dd gd f lo pd ud rd x steps σ) sa)))))) ∧ M' pe = some (.inl (cI, 100, .inl (sp_PR_run_pe en np ns hi dd gd f lo pd ud rd x steps σ))) ∧ M' tu = some (.inl (cI, 100, .inl (sp_PR_run_tu en np ns hi dd gd f lo pd ud rd x steps σ))) ∧ M' va = some (.inl (cL, 16, .inr (.inl (sp_PR_run_va en np ns hi dd gd f lo pd ud rd x steps σ)))) ∧ M' ra = some (.inl (cI, 4096, .inl (sp_PR_run_ra en np ns hi dd gd f lo pd ud rd x steps σ))) ∧ (∀ q, q ≠ pi → q ≠ lt → q ≠ la → q ≠ pe → q ≠ tu → q ≠ va → q ≠ ra → M' q = M q)) := by
  refine MC.of (cc := prog_1_method_7_code) (nL := 4) (ret := (Option.some Jvm.ClassFile.FieldType.int)) (lv := [(0, .ref px), (1, .int x), (2, .long steps)]) (by decide) rfl (Nat.le_of_ble_eq_true rfl) rfl ?_
  intro p e s m below meth c X hr hlk hnm hK
  refine V.rd (pc' := 1) (fun hl => lv_aload_n X.1 X.2.1 d_PR_run_0 rfl (lv_at hl 0 rfl)) ?_
  refine V.rd (pc' := 2) (fun hl => lv_iload_n X.1 X.2.1 d_PR_run_1 rfl (lv_at hl 1 rfl)) ?_
  refine V.rd (pc' := 3) (fun hl => lv_lload_n X.1 X.2.1 d_PR_run_2 rfl (lv_at hl 2 rfl)) ?_
  refine V.callV0 (pc' := 6) X hK (c_canBeRun  (px := px) (pg := pg) (lt := lt) (tr := tr) (dg := dg) (gg := gg) (tg0 := tg0) (np := np) (ns := ns) (x := x) (steps := steps)   gh0 gh4 gh7 hp hσ) gh0 rfl (cwG (n := 2) X (mcs wd_286) (mcs wd_287) (mcs wd_288) (mcs wd_289) wd_290 (by decide +kernel) (by decide) (by decide)) rfl rfl (Nat.le_of_ble_eq_true rfl) d_PR_run_3 ⟨by decide, by decide⟩ rfl (st1 := [.int (sp_canBeRun ns x steps σ)]) rfl ?_
  refine V.bn (pc' := 9) (tgt := 11) (P := (sp_canBeRun ns x steps σ) = 0) (lv_if_ne X.1 X.2.1 d_PR_run_6 (by decide)) (fun c_2 => ?_) (fun c_2 => ?_)
  · have i_3 := congrArg Int32.toInt c_2
    rw [show (0 : Int32).toInt = 0 from rfl] at i_3
    refine V.go (pc' := 10) (lv_iconst (v := (-1)) X.1 X.2.1 d_PR_run_9 (by decide)) ?_
    exact V.iret X hr hlk ⟨(by simp only [sp_PR_run, if_pos c_2]), (by simp only [sp_PR_run_pi_3, sp_PR_run_pi_4, if_pos c_2]; exact gh8), (by simp only [sp_PR_run_lt_4, sp_PR_run_lt_5, if_pos c_2]; exact gh1), (by simp only [sp_PR_run_la, if_pos c_2]; exact gh9), (by simp only [sp_PR_run_pe, if_pos c_2]; exact gh10), (by simp only [sp_PR_run_tu, if_pos c_2]; exact gh11), (by simp only [sp_PR_run_va, if_pos c_2]; exact gh3), (by simp only [sp_PR_run_ra, if_pos c_2]; exact gh12), (fun q n0_ n1_ n2_ n3_ n4_ n5_ n6_ => rfl)⟩ d_PR_run_10
  · have i_4 := mt Int32.toInt_inj.mp c_2
    rw [show (0 : Int32).toInt = 0 from rfl] at i_4
    have i_5 := canBeRun_ne c_2
    refine V.rd (pc' := 12) (fun hl => lv_aload_n X.1 X.2.1 d_PR_run_11 rfl (lv_at hl 0 rfl)) ?_
    refine V.get (pc' := 15) X hK gh0 uw_PR rfl 1 (by decide) (mcs wd_274) rfl d_PR_run_12 rfl ?_
    refine V.rd (pc' := 16) (fun hl => lv_iload_n X.1 X.2.1 d_PR_run_15 rfl (lv_at hl 1 rfl)) ?_
    refine V.rd (pc' := 17) (fun hl => lv_lload_n X.1 X.2.1 d_PR_run_16 rfl (lv_at hl 2 rfl)) ?_
    refine V.callV (pc' := 20) X hK (c_travel  (co := lt) (pg := pg) (ce := ce) (pi := pi) (ra := ra) (va := va) (dg := dg) (gg := gg) (tg0 := tg0) (la := la) (pe := pe) (tu := tu) (ln := ln) (en := en) (np := np) (ns := ns) (hh := hh) (hi := hi) (dd := dd) (gd := gd) (f := f) (lo := lo) (pd := pd) (ud := ud) (rd := rd) (x := x) (steps := steps) (by first | omega | with_reducible assumption | (have z0_ : (0 : Int32).toInt = 0 := rfl; have z1_ : (1 : Int32).toInt = 1 := rfl; omega)) ne0 ne1 gh1 gh2 gh3 gh4 gh5 gh6 gh7 gh8 gh9 gh10 gh11 gh12 hp hσ hlo) gh1 rfl (cwG (n := 2) X (mcs wd_291) (mcs wd_292) (mcs wd_293) (mcs wd_92) wd_294 (by decide +kernel) (by decide) (by decide)) rfl rfl (Nat.le_of_ble_eq_true rfl) d_PR_run_17 ⟨by decide, by decide⟩ rfl (st1 := [.int (sp_travel en np ns hi dd gd f lo pd ud rd x steps σ)]) rfl (fun M_6 ⟨h_7, h_8, h_9, h_10, h_11, h_12, h_13, fr_14⟩ => ?_)
    have h_15 : M_6 px = some (.inr (5, [.ref pg, .ref lt, .ref tr])) := (fr_14 _ (ne_k gh0 gh8 (i := 5) (j := 2) rfl rfl (by decide)) (ne_k gh0 gh1 (i := 5) (j := 1) rfl rfl (by decide)) (ne_k gh0 gh9 (i := 5) (j := 10000100) rfl rfl (by decide)) (ne_k gh0 gh10 (i := 5) (j := 1100) rfl rfl (by decide)) (ne_k gh0 gh11 (i := 5) (j := 1100) rfl rfl (by decide)) (ne_k gh0 gh3 (i := 5) (j := 100016) rfl rfl (by decide)) (ne_k gh0 gh12 (i := 5) (j := 5096) rfl rfl (by decide))).trans gh0
    have h_16 : M_6 ce = some (.inr (0, [.ref va])) := (fr_14 _ (ne_k gh2 gh8 (i := 0) (j := 2) rfl rfl (by decide)) (ne_k gh2 gh1 (i := 0) (j := 1) rfl rfl (by decide)) (ne_k gh2 gh9 (i := 0) (j := 10000100) rfl rfl (by decide)) (ne_k gh2 gh10 (i := 0) (j := 1100) rfl rfl (by decide)) (ne_k gh2 gh11 (i := 0) (j := 1100) rfl rfl (by decide)) (ne_k gh2 gh3 (i := 0) (j := 100016) rfl rfl (by decide)) (ne_k gh2 gh12 (i := 0) (j := 5096) rfl rfl (by decide))).trans gh2
    have h_17 : M_6 pg = some (.inr (3, [.ref dg, .ref gg, .ref tg0, .int np, .int ns])) := (fr_14 _ (ne_k gh4 gh8 (i := 3) (j := 2) rfl rfl (by decide)) (ne_k gh4 gh1 (i := 3) (j := 1) rfl rfl (by decide)) (ne_k gh4 gh9 (i := 3) (j := 10000100) rfl rfl (by decide)) (ne_k gh4 gh10 (i := 3) (j := 1100) rfl rfl (by decide)) (ne_k gh4 gh11 (i := 3) (j := 1100) rfl rfl (by decide)) (ne_k gh4 gh3 (i := 3) (j := 100016) rfl rfl (by decide)) (ne_k gh4 gh12 (i := 3) (j := 5096) rfl rfl (by decide))).trans gh4
    have h_18 : M_6 dg = some (.inl (cI, 60, .inl dd)) := (fr_14 _ (ne_k gh5 gh8 (i := 1060) (j := 2) rfl rfl (by decide)) (ne_k gh5 gh1 (i := 1060) (j := 1) rfl rfl (by decide)) (ne_k gh5 gh9 (i := 1060) (j := 10000100) rfl rfl (by decide)) (ne_k gh5 gh10 (i := 1060) (j := 1100) rfl rfl (by decide)) (ne_k gh5 gh11 (i := 1060) (j := 1100) rfl rfl (by decide)) (ne_k gh5 gh3 (i := 1060) (j := 100016) rfl rfl (by decide)) (ne_k gh5 gh12 (i := 1060) (j := 5096) rfl rfl (by decide))).trans gh5
    have h_19 : M_6 gg = some (.inl (cI, 60, .inl gd)) := (fr_14 _ (ne_k gh6 gh8 (i := 1060) (j := 2) rfl rfl (by decide)) (ne_k gh6 gh1 (i := 1060) (j := 1) rfl rfl (by decide)) (ne_k gh6 gh9 (i := 1060) (j := 10000100) rfl rfl (by decide)) (ne_k gh6 gh10 (i := 1060) (j := 1100) rfl rfl (by decide)) (ne_k gh6 gh11 (i := 1060) (j := 1100) rfl rfl (by decide)) (ne_k gh6 gh3 (i := 1060) (j := 100016) rfl rfl (by decide)) (ne_k gh6 gh12 (i := 1060) (j := 5096) rfl rfl (by decide))).trans gh6
    have h_20 : M_6 tg0 = some (.inl (cQ, 60, .inr (.inr (.inr (.inr (tdOf ns sa)))))) := (fr_14 _ (ne_k gh7 gh8 (i := 10000060) (j := 2) rfl rfl (by decide)) (ne_k gh7 gh1 (i := 10000060) (j := 1) rfl rfl (by decide)) (ne_k gh7 gh9 (i := 10000060) (j := 10000100) rfl rfl (by decide)) (ne_k gh7 gh10 (i := 10000060) (j := 1100) rfl rfl (by decide)) (ne_k gh7 gh11 (i := 10000060) (j := 1100) rfl rfl (by decide)) (ne_k gh7 gh3 (i := 10000060) (j := 100016) rfl rfl (by decide)) (ne_k gh7 gh12 (i := 10000060) (j := 5096) rfl rfl (by decide))).trans gh7
    have hp_21 := hp.keep (M' := M_6) (fun q e he ht => fr_14 q (ne_p he ht gh8 (j := 2) rfl (by decide)) (ne_p he ht gh1 (j := 1) rfl (by decide)) (ne_p he ht gh9 (j := 10000100) rfl (by decide)) (ne_p he ht gh10 (j := 1100) rfl (by decide)) (ne_p he ht gh11 (j := 1100) rfl (by decide)) (ne_p he ht gh3 (j := 100016) rfl (by decide)) (ne_p he ht gh12 (j := 5096) rfl (by decide)))
    exact V.iret X hr hlk ⟨(by simp only [sp_PR_run, if_neg c_2]), (by simp only [sp_PR_run_pi_3, sp_PR_run_pi_4, if_neg c_2]; exact h_7), (by simp only [sp_PR_run_lt_4, sp_PR_run_lt_5, if_neg c_2]; exact h_8), (by simp only [sp_PR_run_la, if_neg c_2]; exact h_9), (by simp only [sp_PR_run_pe, if_neg c_2]; exact h_10), (by simp only [sp_PR_run_tu, if_neg c_2]; exact h_11), (by simp only [sp_PR_run_va, if_neg c_2]; exact h_12), (by simp only [sp_PR_run_ra, if_neg c_2]; exact h_13), (fun q n0_ n1_ n2_ n3_ n4_ n5_ n6_ => (fr_14 q n0_ n1_ n2_ n3_ n4_ n5_ n6_))⟩ d_PR_run_20

theorem d_PR_plain_0 : decode prog_1_method_8_code 0 = .ok (.aload_n 0, 1) := by decide +kernel
theorem d_PR_plain_1 : decode prog_1_method_8_code 1 = .ok (.iload_n 1, 1) := by decide +kernel
theorem d_PR_plain_2 : decode prog_1_method_8_code 2 = .ok (.lload_n 2, 1) := by decide +kernel
theorem d_PR_plain_3 : decode prog_1_method_8_code 3 = .ok (.invokevirtual 68, 3) := by decide +kernel
theorem d_PR_plain_6 : decode prog_1_method_8_code 6 = .ok (.ifCond .ne 5, 3) := by decide +kernel
theorem d_PR_plain_9 : decode prog_1_method_8_code 9 = .ok (.iconst (-1), 1) := by decide +kernel
theorem d_PR_plain_10 : decode prog_1_method_8_code 10 = .ok (.ireturn, 1) := by decide +kernel
theorem d_PR_plain_11 : decode prog_1_method_8_code 11 = .ok (.aload_n 0, 1) := by decide +kernel
theorem d_PR_plain_12 : decode prog_1_method_8_code 12 = .ok (.getfield 25, 3) := by decide +kernel
theorem d_PR_plain_15 : decode prog_1_method_8_code 15 = .ok (.getfield 76, 3) := by decide +kernel
theorem d_PR_plain_18 : decode prog_1_method_8_code 18 = .ok (.aload_n 0, 1) := by decide +kernel
theorem d_PR_plain_19 : decode prog_1_method_8_code 19 = .ok (.getfield 21, 3) := by decide +kernel
theorem d_PR_plain_22 : decode prog_1_method_8_code 22 = .ok (.getfield 76, 3) := by decide +kernel
theorem d_PR_plain_25 : decode prog_1_method_8_code 25 = .ok (.invokevirtual 80, 3) := by decide +kernel
theorem d_PR_plain_28 : decode prog_1_method_8_code 28 = .ok (.aload_n 0, 1) := by decide +kernel
theorem d_PR_plain_29 : decode prog_1_method_8_code 29 = .ok (.getfield 25, 3) := by decide +kernel
theorem d_PR_plain_32 : decode prog_1_method_8_code 32 = .ok (.iload_n 1, 1) := by decide +kernel
theorem d_PR_plain_33 : decode prog_1_method_8_code 33 = .ok (.lload_n 2, 1) := by decide +kernel
theorem d_PR_plain_34 : decode prog_1_method_8_code 34 = .ok (.invokevirtual 72, 3) := by decide +kernel
theorem d_PR_plain_37 : decode prog_1_method_8_code 37 = .ok (.ireturn, 1) := by decide +kernel

def sp_PR_plain (en2 : Int32) (np : Int32) (ns : Int32) (hi2 : Int32) (dd : Nat → Int32) (gd : Nat → Int32) (f : Nat → Int64) (f2 : Nat → Int64) (lo2 : Nat → Option Nat) (pd2 : Nat → Int32) (ud2 : Nat → Int32) (rd2 : Nat → Int32) (x : Int32) (steps : Int64) (σ : Nat → Stm) : Int32 := if (sp_canBeRun ns x steps σ) = 0 then (-1) else sp_travel0 en2 np ns hi2 dd gd (lp_Cells_copyFrom_va f 17 0 f2) lo2 pd2 ud2 rd2 x steps σ
def sp_PR_plain_va2 (en2 : Int32) (np : Int32) (ns : Int32) (hi2 : Int32) (dd : Nat → Int32) (gd : Nat → Int32) (f : Nat → Int64) (f2 : Nat → Int64) (lo2 : Nat → Option Nat) (pd2 : Nat → Int32) (ud2 : Nat → Int32) (rd2 : Nat → Int32) (x : Int32) (steps : Int64) (σ : Nat → Stm) : Nat → Int64 := if (sp_canBeRun ns x steps σ) = 0 then f2 else sp_travel0_va en2 np ns hi2 dd gd (lp_Cells_copyFrom_va f 17 0 f2) lo2 pd2 ud2 rd2 x steps σ
def sp_PR_plain_pi2_3 (en2 : Int32) (np : Int32) (ns : Int32) (hh2 : Int32) (hi2 : Int32) (dd : Nat → Int32) (gd : Nat → Int32) (f : Nat → Int64) (f2 : Nat → Int64) (lo2 : Nat → Option Nat) (pd2 : Nat → Int32) (ud2 : Nat → Int32) (rd2 : Nat → Int32) (x : Int32) (steps : Int64) (σ : Nat → Stm) : Int32 := if (sp_canBeRun ns x steps σ) = 0 then hh2 else sp_travel0_pi_3 en2 np ns hi2 dd gd (lp_Cells_copyFrom_va f 17 0 f2) lo2 pd2 ud2 rd2 x steps σ
def sp_PR_plain_pi2_4 (en2 : Int32) (np : Int32) (ns : Int32) (hi2 : Int32) (dd : Nat → Int32) (gd : Nat → Int32) (f : Nat → Int64) (f2 : Nat → Int64) (lo2 : Nat → Option Nat) (pd2 : Nat → Int32) (ud2 : Nat → Int32) (rd2 : Nat → Int32) (x : Int32) (steps : Int64) (σ : Nat → Stm) : Int32 := if (sp_canBeRun ns x steps σ) = 0 then hi2 else sp_travel0_pi_4 en2 np ns hi2 dd gd (lp_Cells_copyFrom_va f 17 0 f2) lo2 pd2 ud2 rd2 x steps σ
def sp_PR_plain_tr_4 (ln2 : Int32) (en2 : Int32) (np : Int32) (ns : Int32) (hi2 : Int32) (dd : Nat → Int32) (gd : Nat → Int32) (f : Nat → Int64) (f2 : Nat → Int64) (lo2 : Nat → Option Nat) (pd2 : Nat → Int32) (ud2 : Nat → Int32) (rd2 : Nat → Int32) (x : Int32) (steps : Int64) (σ : Nat → Stm) : Int32 := if (sp_canBeRun ns x steps σ) = 0 then ln2 else sp_travel0_co_4 ln2 en2 np ns hi2 dd gd (lp_Cells_copyFrom_va f 17 0 f2) lo2 pd2 ud2 rd2 x steps σ
def sp_PR_plain_tr_5 (en2 : Int32) (np : Int32) (ns : Int32) (hi2 : Int32) (dd : Nat → Int32) (gd : Nat → Int32) (f : Nat → Int64) (f2 : Nat → Int64) (lo2 : Nat → Option Nat) (pd2 : Nat → Int32) (ud2 : Nat → Int32) (rd2 : Nat → Int32) (x : Int32) (steps : Int64) (σ : Nat → Stm) : Int32 := if (sp_canBeRun ns x steps σ) = 0 then en2 else sp_travel0_co_5 en2 np ns hi2 dd gd (lp_Cells_copyFrom_va f 17 0 f2) lo2 pd2 ud2 rd2 x steps σ
def sp_PR_plain_la2 (en2 : Int32) (np : Int32) (ns : Int32) (hi2 : Int32) (dd : Nat → Int32) (gd : Nat → Int32) (f : Nat → Int64) (f2 : Nat → Int64) (lo2 : Nat → Option Nat) (pd2 : Nat → Int32) (ud2 : Nat → Int32) (rd2 : Nat → Int32) (x : Int32) (steps : Int64) (σ : Nat → Stm) : Nat → Option Nat := if (sp_canBeRun ns x steps σ) = 0 then lo2 else sp_travel0_la en2 np ns hi2 dd gd (lp_Cells_copyFrom_va f 17 0 f2) lo2 pd2 ud2 rd2 x steps σ
def sp_PR_plain_pe2 (en2 : Int32) (np : Int32) (ns : Int32) (hi2 : Int32) (dd : Nat → Int32) (gd : Nat → Int32) (f : Nat → Int64) (f2 : Nat → Int64) (lo2 : Nat → Option Nat) (pd2 : Nat → Int32) (ud2 : Nat → Int32) (rd2 : Nat → Int32) (x : Int32) (steps : Int64) (σ : Nat → Stm) : Nat → Int32 := if (sp_canBeRun ns x steps σ) = 0 then pd2 else sp_travel0_pe en2 np ns hi2 dd gd (lp_Cells_copyFrom_va f 17 0 f2) lo2 pd2 ud2 rd2 x steps σ
def sp_PR_plain_tu2 (en2 : Int32) (np : Int32) (ns : Int32) (hi2 : Int32) (dd : Nat → Int32) (gd : Nat → Int32) (f : Nat → Int64) (f2 : Nat → Int64) (lo2 : Nat → Option Nat) (pd2 : Nat → Int32) (ud2 : Nat → Int32) (rd2 : Nat → Int32) (x : Int32) (steps : Int64) (σ : Nat → Stm) : Nat → Int32 := if (sp_canBeRun ns x steps σ) = 0 then ud2 else sp_travel0_tu en2 np ns hi2 dd gd (lp_Cells_copyFrom_va f 17 0 f2) lo2 pd2 ud2 rd2 x steps σ
def sp_PR_plain_ra2 (en2 : Int32) (np : Int32) (ns : Int32) (hi2 : Int32) (dd : Nat → Int32) (gd : Nat → Int32) (f : Nat → Int64) (f2 : Nat → Int64) (lo2 : Nat → Option Nat) (pd2 : Nat → Int32) (ud2 : Nat → Int32) (rd2 : Nat → Int32) (x : Int32) (steps : Int64) (σ : Nat → Stm) : Nat → Int32 := if (sp_canBeRun ns x steps σ) = 0 then rd2 else sp_travel0_ra en2 np ns hi2 dd gd (lp_Cells_copyFrom_va f 17 0 f2) lo2 pd2 ud2 rd2 x steps σ
set_option maxHeartbeats 4000000 in
set_option maxRecDepth 100000 in
theorem c_PR_plain {l : Launch} {H0 : Heap} {D : va_G} {cI cL cQ cB : ClassId} {M : mp} {px pg lt tr dg gg tg0 ce pi ra va ce2 pi2 ra2 va2 la2 pe2 tu2 : Nat} {sa u1 u2 u3 u4 u5 : Nat → Nat} {σ : Nat → Stm} {ln : Int32} {en : Int32} {ln2 : Int32} {en2 : Int32} {np : Int32} {ns : Int32} {hh2 : Int32} {hi2 : Int32} {dd : Nat → Int32} {gd : Nat → Int32} {f : Nat → Int64} {f2 : Nat → Int64} {lo2 : Nat → Option Nat} {pd2 : Nat → Int32} {ud2 : Nat → Int32} {rd2 : Nat → Int32} {x : Int32} {steps : Int64} (ne0 : pe2 ≠ tu2) (ne1 : dg ≠ gg) (ne2 : lt ≠ tr) (ne3 : ce ≠ ce2) (ne4 : va ≠ va2) (gh0 : M px = some (.inr (5, [.ref pg, .ref lt, .ref tr]))) (gh1 : M lt = some (.inr (1, [.ref pg, .ref ce, .ref pi, .ref ra, .int ln, .int en]))) (gh2 : M tr = some (.inr (1, [.ref pg, .ref ce2, .ref pi2, .ref ra2, .int ln2, .int en2]))) (gh3 : M ce = some (.inr (0, [.ref va]))) (gh4 : M va = some (.inl (cL, 16, .inr (.inl f)))) (gh5 : M ce2 = some (.inr (0, [.ref va2]))) (gh6 : M va2 = some (.inl (cL, 16, .inr (.inl f2)))) (gh7 : M pg = some (.inr (3, [.ref dg, .ref gg, .ref tg0, .int np, .int ns]))) (gh8 : M dg = some (.inl (cI, 60, .inl dd))) (gh9 : M gg = some (.inl (cI, 60, .inl gd))) (gh10 : M tg0 = some (.inl (cQ, 60, .inr (.inr (.inr (.inr (tdOf ns sa))))))) (gh11 : M pi2 = some (.inr (2, [.ref la2, .ref pe2, .ref tu2, .int hh2, .int hi2]))) (gh12 : M la2 = some (.inl (cQ, 100, .inr (.inr (.inr (.inr (lq lo2 sa))))))) (gh13 : M pe2 = some (.inl (cI, 100, .inl pd2))) (gh14 : M tu2 = some (.inl (cI, 100, .inl ud2))) (gh15 : M ra2 = some (.inl (cI, 0, .inl rd2))) (hp : SP cI cL M ns sa u1 u2 u3 u4 u5 σ) (hσ : ∀ i : Nat, (i : Int) < ns.toInt → (st_l (σ i)).toInt ≤ 7) (hlo2 : ∀ k j : Nat, lo2 k = some j → (j : Int) < ns.toInt) : MC l H0 D cls7 (tysOf cI cL cQ cB) NW ({ cls := "PerformRanges", name := "plain", desc := "(IJ)I" } : Jvm.MethodName) (Cond.code ({ cls := "PerformRanges", name := "plain", desc := "(IJ)I" } : Jvm.MethodName) prog_1_method_8_code 4 (Option.some Jvm.ClassFile.FieldType.int) :: GW) ({ frames := 7, cells := 0, slots := 0, locals := 162 }) [.ref px, .int x, .long steps] M (fun v M' => v = some (.int (sp_PR_plain en2 np ns hi2 dd gd f f2 lo2 pd2 ud2 rd2 x steps σ)) ∧ M' va2 = some (.inl (cL, 16, .inr (.inl (sp_PR_plain_va2 en2 np ns hi2 dd gd f f2 lo2 pd2 ud2 rd2 x steps σ)))) ∧ M' pi2 = some (.inr (2, [.ref la2, .ref pe2, .ref tu2, .int (sp_PR_plain_pi2_3 en2 np ns hh2 hi2 dd gd f f2 lo2 pd2 ud2 rd2 x steps σ), .int (sp_PR_plain_pi2_4 en2 np ns hi2 dd gd f f2 lo2 pd2 ud2 rd2 x steps σ)])) ∧ M' tr = some (.inr (1, [.ref pg, .ref ce2, .ref pi2, .ref ra2, .int (sp_PR_plain_tr_4 ln2 en2 np ns hi2 dd gd f f2 lo2 pd2 ud2 rd2 x steps σ), .int (sp_PR_plain_tr_5 en2 np ns hi2 dd gd f f2 lo2 pd2 ud2 rd2 x steps σ)])) ∧ M' la2 = some (.inl (cQ, 100, .inr (.inr (.inr (.inr (lq (sp_PR_plain_la2 en2 np ns hi2 dd gd f f2 lo2 pd2 ud2 rd2 x steps σ) sa)))))) ∧ M' pe2 = some (.inl (cI, 100, .inl (sp_PR_plain_pe2 en2 np ns hi2 dd gd f f2 lo2 pd2 ud2 rd2 x steps σ))) ∧ M' tu2 = some (.inl (cI, 100, .inl (sp_PR_plain_tu2 en2 np ns hi2 dd gd f f2 lo2 pd2 ud2 rd2 x steps σ))) ∧ M' ra2 = some (.inl (cI, 0, .inl (sp_PR_plain_ra2 en2 np ns hi2 dd gd f f2 lo2 pd2 ud2 rd2 x steps σ))) ∧ (∀ q, q ≠ va2 → q ≠ pi2 → q ≠ tr → q ≠ la2 → q ≠ pe2 → q ≠ tu2 → q ≠ ra2 → M' q = M q)) := by
  refine MC.of (cc := prog_1_method_8_code) (nL := 4) (ret := (Option.some Jvm.ClassFile.FieldType.int)) (lv := [(0, .ref px), (1, .int x), (2, .long steps)]) (by decide) rfl (Nat.le_of_ble_eq_true rfl) rfl ?_
  intro p e s m below meth c X hr hlk hnm hK
  refine V.rd (pc' := 1) (fun hl => lv_aload_n X.1 X.2.1 d_PR_plain_0 rfl (lv_at hl 0 rfl)) ?_
  refine V.rd (pc' := 2) (fun hl => lv_iload_n X.1 X.2.1 d_PR_plain_1 rfl (lv_at hl 1 rfl)) ?_
  refine V.rd (pc' := 3) (fun hl => lv_lload_n X.1 X.2.1 d_PR_plain_2 rfl (lv_at hl 2 rfl)) ?_
  refine V.callV0 (pc' := 6) X hK (c_canBeRun  (px := px) (pg := pg) (lt := lt) (tr := tr) (dg := dg) (gg := gg) (tg0 := tg0) (np := np) (ns := ns) (x := x) (steps := steps)   gh0 gh7 gh10 hp hσ) gh0 rfl (cwG (n := 2) X (mcs wd_286) (mcs wd_287) (mcs wd_288) (mcs wd_289) wd_290 (by decide +kernel) (by decide) (by decide)) rfl rfl (Nat.le_of_ble_eq_true rfl) d_PR_plain_3 ⟨by decide, by decide⟩ rfl (st1 := [.int (sp_canBeRun ns x steps σ)]) rfl ?_
  refine V.bn (pc' := 9) (tgt := 11) (P := (sp_canBeRun ns x steps σ) = 0) (lv_if_ne X.1 X.2.1 d_PR_plain_6 (by decide)) (fun c_2 => ?_) (fun c_2 => ?_)
  · have i_3 := congrArg Int32.toInt c_2
    rw [show (0 : Int32).toInt = 0 from rfl] at i_3
    refine V.go (pc' := 10) (lv_iconst (v := (-1)) X.1 X.2.1 d_PR_plain_9 (by decide)) ?_
    exact V.iret X hr hlk ⟨(by simp only [sp_PR_plain, if_pos c_2]), (by simp only [sp_PR_plain_va2, if_pos c_2]; exact gh6), (by simp only [sp_PR_plain_pi2_3, sp_PR_plain_pi2_4, if_pos c_2]; exact gh11), (by simp only [sp_PR_plain_tr_4, sp_PR_plain_tr_5, if_pos c_2]; exact gh2), (by simp only [sp_PR_plain_la2, if_pos c_2]; exact gh12), (by simp only [sp_PR_plain_pe2, if_pos c_2]; exact gh13), (by simp only [sp_PR_plain_tu2, if_pos c_2]; exact gh14), (by simp only [sp_PR_plain_ra2, if_pos c_2]; exact gh15), (fun q n0_ n1_ n2_ n3_ n4_ n5_ n6_ => rfl)⟩ d_PR_plain_10
  · have i_4 := mt Int32.toInt_inj.mp c_2
    rw [show (0 : Int32).toInt = 0 from rfl] at i_4
    have i_5 := canBeRun_ne c_2
    refine V.rd (pc' := 12) (fun hl => lv_aload_n X.1 X.2.1 d_PR_plain_11 rfl (lv_at hl 0 rfl)) ?_
    refine V.get (pc' := 15) X hK gh0 uw_PR rfl 2 (by decide) (mcs wd_295) rfl d_PR_plain_12 rfl ?_
    refine V.getN (pc' := 18) X hK gh2 uw_Course rfl 1 (by decide) (List.mem_of_getElem? (i := 8) rfl) rfl d_PR_plain_15 rfl ?_
    refine V.rd (pc' := 19) (fun hl => lv_aload_n X.1 X.2.1 d_PR_plain_18 rfl (lv_at hl 0 rfl)) ?_
    refine V.get (pc' := 22) X hK gh0 uw_PR rfl 1 (by decide) (mcs wd_274) rfl d_PR_plain_19 rfl ?_
    refine V.getN (pc' := 25) X hK gh1 uw_Course rfl 1 (by decide) (List.mem_of_getElem? (i := 8) rfl) rfl d_PR_plain_22 rfl ?_
    refine V.callV (pc' := 28) X hK (c_Cells_copyFrom  (ce := ce2) (va := va2) (ce2 := ce) (va2 := va) (f := f2) (g2 := f)  (Ne.symm ne3) (Ne.symm ne4) gh5 gh6 gh3 gh4  ) gh5 rfl (cwG (n := 1) X (mcs wd_296) (mcs wd_297) (mcs wd_298) (mcs wd_24) wd_299 (by decide +kernel) (by decide) (by decide)) rfl rfl (Nat.le_of_ble_eq_true rfl) d_PR_plain_25 ⟨by decide, by decide⟩ rfl (st1 := []) rfl (fun M_6 ⟨h_7, fr_8⟩ => ?_)
    have h_9 : M_6 px = some (.inr (5, [.ref pg, .ref lt, .ref tr])) := (fr_8 _ (ne_k gh0 gh6 (i := 5) (j := 100016) rfl rfl (by decide))).trans gh0
    have h_10 : M_6 lt = some (.inr (1, [.ref pg, .ref ce, .ref pi, .ref ra, .int ln, .int en])) := (fr_8 _ (ne_k gh1 gh6 (i := 1) (j := 100016) rfl rfl (by decide))).trans gh1
    have h_11 : M_6 tr = some (.inr (1, [.ref pg, .ref ce2, .ref pi2, .ref ra2, .int ln2, .int en2])) := (fr_8 _ (ne_k gh2 gh6 (i := 1) (j := 100016) rfl rfl (by decide))).trans gh2
    have h_12 : M_6 ce = some (.inr (0, [.ref va])) := (fr_8 _ (ne_k gh3 gh6 (i := 0) (j := 100016) rfl rfl (by decide))).trans gh3
    have h_13 : M_6 va = some (.inl (cL, 16, .inr (.inl f))) := (fr_8 _ ne4).trans gh4
    have h_14 : M_6 ce2 = some (.inr (0, [.ref va2])) := (fr_8 _ (ne_k gh5 gh6 (i := 0) (j := 100016) rfl rfl (by decide))).trans gh5
    have h_15 : M_6 pg = some (.inr (3, [.ref dg, .ref gg, .ref tg0, .int np, .int ns])) := (fr_8 _ (ne_k gh7 gh6 (i := 3) (j := 100016) rfl rfl (by decide))).trans gh7
    have h_16 : M_6 dg = some (.inl (cI, 60, .inl dd)) := (fr_8 _ (ne_k gh8 gh6 (i := 1060) (j := 100016) rfl rfl (by decide))).trans gh8
    have h_17 : M_6 gg = some (.inl (cI, 60, .inl gd)) := (fr_8 _ (ne_k gh9 gh6 (i := 1060) (j := 100016) rfl rfl (by decide))).trans gh9
    have h_18 : M_6 tg0 = some (.inl (cQ, 60, .inr (.inr (.inr (.inr (tdOf ns sa)))))) := (fr_8 _ (ne_k gh10 gh6 (i := 10000060) (j := 100016) rfl rfl (by decide))).trans gh10
    have h_19 : M_6 pi2 = some (.inr (2, [.ref la2, .ref pe2, .ref tu2, .int hh2, .int hi2])) := (fr_8 _ (ne_k gh11 gh6 (i := 2) (j := 100016) rfl rfl (by decide))).trans gh11
    have h_20 : M_6 la2 = some (.inl (cQ, 100, .inr (.inr (.inr (.inr (lq lo2 sa)))))) := (fr_8 _ (ne_k gh12 gh6 (i := 10000100) (j := 100016) rfl rfl (by decide))).trans gh12
    have h_21 : M_6 pe2 = some (.inl (cI, 100, .inl pd2)) := (fr_8 _ (ne_k gh13 gh6 (i := 1100) (j := 100016) rfl rfl (by decide))).trans gh13
    have h_22 : M_6 tu2 = some (.inl (cI, 100, .inl ud2)) := (fr_8 _ (ne_k gh14 gh6 (i := 1100) (j := 100016) rfl rfl (by decide))).trans gh14
    have h_23 : M_6 ra2 = some (.inl (cI, 0, .inl rd2)) := (fr_8 _ (ne_k gh15 gh6 (i := 1000) (j := 100016) rfl rfl (by decide))).trans gh15
    have hp_24 := hp.keep (M' := M_6) (fun q e he ht => fr_8 q (ne_p he ht gh6 (j := 100016) rfl (by decide)))
    refine V.rd (pc' := 29) (fun hl => lv_aload_n X.1 X.2.1 d_PR_plain_28 rfl (lv_at hl 0 rfl)) ?_
    refine V.get (pc' := 32) X hK h_9 uw_PR rfl 2 (by decide) (mcs wd_295) rfl d_PR_plain_29 rfl ?_
    refine V.rd (pc' := 33) (fun hl => lv_iload_n X.1 X.2.1 d_PR_plain_32 rfl (lv_at hl 1 rfl)) ?_
    refine V.rd (pc' := 34) (fun hl => lv_lload_n X.1 X.2.1 d_PR_plain_33 rfl (lv_at hl 2 rfl)) ?_
    refine V.callV (pc' := 37) X hK (c_travel0  (co := tr) (pg := pg) (ce := ce2) (pi := pi2) (ra := ra2) (va := va2) (dg := dg) (gg := gg) (tg0 := tg0) (la := la2) (pe := pe2) (tu := tu2) (ln := ln2) (en := en2) (np := np) (ns := ns) (hh := hh2) (hi := hi2) (dd := dd) (gd := gd) (f := lp_Cells_copyFrom_va f 17 0 f2) (lo := lo2) (pd := pd2) (ud := ud2) (rd := rd2) (x := x) (steps := steps) (by first | omega | with_reducible assumption | (have z0_ : (0 : Int32).toInt = 0 := rfl; have z1_ : (1 : Int32).toInt = 1 := rfl; omega)) ne0 ne1 h_11 h_14 h_7 h_15 h_16 h_17 h_18 h_19 h_20 h_21 h_22 h_23 hp_24 hσ hlo2) h_11 rfl (cwG (n := 2) X (mcs wd_291) (mcs wd_292) (mcs wd_293) (mcs wd_92) wd_294 (by decide +kernel) (by decide) (by decide)) rfl rfl (Nat.le_of_ble_eq_true rfl) d_PR_plain_34 ⟨by decide, by decide⟩ rfl (st1 := [.int (sp_travel0 en2 np ns hi2 dd gd (lp_Cells_copyFrom_va f 17 0 f2) lo2 pd2 ud2 rd2 x steps σ)]) rfl (fun M_25 ⟨h_26, h_27, h_28, h_29, h_30, h_31, h_32, fr_33⟩ => ?_)
    have h_34 : M_25 px = some (.inr (5, [.ref pg, .ref lt, .ref tr])) := (fr_33 _ (ne_k h_9 h_19 (i := 5) (j := 2) rfl rfl (by decide)) (ne_k h_9 h_11 (i := 5) (j := 1) rfl rfl (by decide)) (ne_k h_9 h_20 (i := 5) (j := 10000100) rfl rfl (by decide)) (ne_k h_9 h_21 (i := 5) (j := 1100) rfl rfl (by decide)) (ne_k h_9 h_22 (i := 5) (j := 1100) rfl rfl (by decide)) (ne_k h_9 h_7 (i := 5) (j := 100016) rfl rfl (by decide)) (ne_k h_9 h_23 (i := 5) (j := 1000) rfl rfl (by decide))).trans h_9
    have h_35 : M_25 lt = some (.inr (1, [.ref pg, .ref ce, .ref pi, .ref ra, .int ln, .int en])) := (fr_33 _ (ne_k h_10 h_19 (i := 1) (j := 2) rfl rfl (by decide)) ne2 (ne_k h_10 h_20 (i := 1) (j := 10000100) rfl rfl (by decide)) (ne_k h_10 h_21 (i := 1) (j := 1100) rfl rfl (by decide)) (ne_k h_10 h_22 (i := 1) (j := 1100) rfl rfl (by decide)) (ne_k h_10 h_7 (i := 1) (j := 100016) rfl rfl (by decide)) (ne_k h_10 h_23 (i := 1) (j := 1000) rfl rfl (by decide))).trans h_10
    have h_36 : M_25 ce = some (.inr (0, [.ref va])) := (fr_33 _ (ne_k h_12 h_19 (i := 0) (j := 2) rfl rfl (by decide)) (ne_k h_12 h_11 (i := 0) (j := 1) rfl rfl (by decide)) (ne_k h_12 h_20 (i := 0) (j := 10000100) rfl rfl (by decide)) (ne_k h_12 h_21 (i := 0) (j := 1100) rfl rfl (by decide)) (ne_k h_12 h_22 (i := 0) (j := 1100) rfl rfl (by decide)) (ne_k h_12 h_7 (i := 0) (j := 100016) rfl rfl (by decide)) (ne_k h_12 h_23 (i := 0) (j := 1000) rfl rfl (by decide))).trans h_12
    have h_37 : M_25 va = some (.inl (cL, 16, .inr (.inl f))) := (fr_33 _ (ne_k h_13 h_19 (i := 100016) (j := 2) rfl rfl (by decide)) (ne_k h_13 h_11 (i := 100016) (j := 1) rfl rfl (by decide)) (ne_k h_13 h_20 (i := 100016) (j := 10000100) rfl rfl (by decide)) (ne_k h_13 h_21 (i := 100016) (j := 1100) rfl rfl (by decide)) (ne_k h_13 h_22 (i := 100016) (j := 1100) rfl rfl (by decide)) ne4 (ne_k h_13 h_23 (i := 100016) (j := 1000) rfl rfl (by decide))).trans h_13
    have h_38 : M_25 ce2 = some (.inr (0, [.ref va2])) := (fr_33 _ (ne_k h_14 h_19 (i := 0) (j := 2) rfl rfl (by decide)) (ne_k h_14 h_11 (i := 0) (j := 1) rfl rfl (by decide)) (ne_k h_14 h_20 (i := 0) (j := 10000100) rfl rfl (by decide)) (ne_k h_14 h_21 (i := 0) (j := 1100) rfl rfl (by decide)) (ne_k h_14 h_22 (i := 0) (j := 1100) rfl rfl (by decide)) (ne_k h_14 h_7 (i := 0) (j := 100016) rfl rfl (by decide)) (ne_k h_14 h_23 (i := 0) (j := 1000) rfl rfl (by decide))).trans h_14
    have h_39 : M_25 pg = some (.inr (3, [.ref dg, .ref gg, .ref tg0, .int np, .int ns])) := (fr_33 _ (ne_k h_15 h_19 (i := 3) (j := 2) rfl rfl (by decide)) (ne_k h_15 h_11 (i := 3) (j := 1) rfl rfl (by decide)) (ne_k h_15 h_20 (i := 3) (j := 10000100) rfl rfl (by decide)) (ne_k h_15 h_21 (i := 3) (j := 1100) rfl rfl (by decide)) (ne_k h_15 h_22 (i := 3) (j := 1100) rfl rfl (by decide)) (ne_k h_15 h_7 (i := 3) (j := 100016) rfl rfl (by decide)) (ne_k h_15 h_23 (i := 3) (j := 1000) rfl rfl (by decide))).trans h_15
    have h_40 : M_25 dg = some (.inl (cI, 60, .inl dd)) := (fr_33 _ (ne_k h_16 h_19 (i := 1060) (j := 2) rfl rfl (by decide)) (ne_k h_16 h_11 (i := 1060) (j := 1) rfl rfl (by decide)) (ne_k h_16 h_20 (i := 1060) (j := 10000100) rfl rfl (by decide)) (ne_k h_16 h_21 (i := 1060) (j := 1100) rfl rfl (by decide)) (ne_k h_16 h_22 (i := 1060) (j := 1100) rfl rfl (by decide)) (ne_k h_16 h_7 (i := 1060) (j := 100016) rfl rfl (by decide)) (ne_k h_16 h_23 (i := 1060) (j := 1000) rfl rfl (by decide))).trans h_16
    have h_41 : M_25 gg = some (.inl (cI, 60, .inl gd)) := (fr_33 _ (ne_k h_17 h_19 (i := 1060) (j := 2) rfl rfl (by decide)) (ne_k h_17 h_11 (i := 1060) (j := 1) rfl rfl (by decide)) (ne_k h_17 h_20 (i := 1060) (j := 10000100) rfl rfl (by decide)) (ne_k h_17 h_21 (i := 1060) (j := 1100) rfl rfl (by decide)) (ne_k h_17 h_22 (i := 1060) (j := 1100) rfl rfl (by decide)) (ne_k h_17 h_7 (i := 1060) (j := 100016) rfl rfl (by decide)) (ne_k h_17 h_23 (i := 1060) (j := 1000) rfl rfl (by decide))).trans h_17
    have h_42 : M_25 tg0 = some (.inl (cQ, 60, .inr (.inr (.inr (.inr (tdOf ns sa)))))) := (fr_33 _ (ne_k h_18 h_19 (i := 10000060) (j := 2) rfl rfl (by decide)) (ne_k h_18 h_11 (i := 10000060) (j := 1) rfl rfl (by decide)) (ne_k h_18 h_20 (i := 10000060) (j := 10000100) rfl rfl (by decide)) (ne_k h_18 h_21 (i := 10000060) (j := 1100) rfl rfl (by decide)) (ne_k h_18 h_22 (i := 10000060) (j := 1100) rfl rfl (by decide)) (ne_k h_18 h_7 (i := 10000060) (j := 100016) rfl rfl (by decide)) (ne_k h_18 h_23 (i := 10000060) (j := 1000) rfl rfl (by decide))).trans h_18
    have hp_43 := hp_24.keep (M' := M_25) (fun q e he ht => fr_33 q (ne_p he ht h_19 (j := 2) rfl (by decide)) (ne_p he ht h_11 (j := 1) rfl (by decide)) (ne_p he ht h_20 (j := 10000100) rfl (by decide)) (ne_p he ht h_21 (j := 1100) rfl (by decide)) (ne_p he ht h_22 (j := 1100) rfl (by decide)) (ne_p he ht h_7 (j := 100016) rfl (by decide)) (ne_p he ht h_23 (j := 1000) rfl (by decide)))
    exact V.iret X hr hlk ⟨(by simp only [sp_PR_plain, if_neg c_2]), (by simp only [sp_PR_plain_va2, if_neg c_2]; exact h_31), (by simp only [sp_PR_plain_pi2_3, sp_PR_plain_pi2_4, if_neg c_2]; exact h_26), (by simp only [sp_PR_plain_tr_4, sp_PR_plain_tr_5, if_neg c_2]; exact h_27), (by simp only [sp_PR_plain_la2, if_neg c_2]; exact h_28), (by simp only [sp_PR_plain_pe2, if_neg c_2]; exact h_29), (by simp only [sp_PR_plain_tu2, if_neg c_2]; exact h_30), (by simp only [sp_PR_plain_ra2, if_neg c_2]; exact h_32), (fun q n0_ n1_ n2_ n3_ n4_ n5_ n6_ => (fr_33 q n1_ n2_ n3_ n4_ n5_ n0_ n6_).trans ((fr_8 q n0_)))⟩ d_PR_plain_37

theorem d_PR_get_0 : decode prog_1_method_11_code 0 = .ok (.iload_n 1, 1) := by decide +kernel
theorem d_PR_get_1 : decode prog_1_method_11_code 1 = .ok (.invokestatic 53, 3) := by decide +kernel
theorem d_PR_get_4 : decode prog_1_method_11_code 4 = .ok (.ifCond .ne 13, 3) := by decide +kernel
theorem d_PR_get_7 : decode prog_1_method_11_code 7 = .ok (.new 98, 3) := by decide +kernel
theorem d_PR_get_10 : decode prog_1_method_11_code 10 = .ok (.dup, 1) := by decide +kernel
theorem d_PR_get_11 : decode prog_1_method_11_code 11 = .ok (.ldc 100, 2) := by decide +kernel
theorem d_PR_get_13 : decode prog_1_method_11_code 13 = .ok (.invokespecial 102, 3) := by decide +kernel
theorem d_PR_get_16 : decode prog_1_method_11_code 16 = .ok (.athrow, 1) := by decide +kernel
theorem d_PR_get_17 : decode prog_1_method_11_code 17 = .ok (.aload_n 0, 1) := by decide +kernel
theorem d_PR_get_18 : decode prog_1_method_11_code 18 = .ok (.getfield 21, 3) := by decide +kernel
theorem d_PR_get_21 : decode prog_1_method_11_code 21 = .ok (.getfield 76, 3) := by decide +kernel
theorem d_PR_get_24 : decode prog_1_method_11_code 24 = .ok (.iload_n 1, 1) := by decide +kernel
theorem d_PR_get_25 : decode prog_1_method_11_code 25 = .ok (.invokevirtual 105, 3) := by decide +kernel
theorem d_PR_get_28 : decode prog_1_method_11_code 28 = .ok (.lreturn, 1) := by decide +kernel

set_option maxHeartbeats 4000000 in
set_option maxRecDepth 100000 in
theorem c_PR_get {l : Launch} {H0 : Heap} {D : va_G} {cI cL cQ cB : ClassId} {M : mp} {px pg lt tr ce pi ra va : Nat} {ln : Int32} {en : Int32} {f : Nat → Int64} {x : Int32} (hcx : ¬ (sp_isCell x) = 0) (gh0 : M px = some (.inr (5, [.ref pg, .ref lt, .ref tr]))) (gh1 : M lt = some (.inr (1, [.ref pg, .ref ce, .ref pi, .ref ra, .int ln, .int en]))) (gh2 : M ce = some (.inr (0, [.ref va]))) (gh3 : M va = some (.inl (cL, 16, .inr (.inl f)))) : MC l H0 D cls7 (tysOf cI cL cQ cB) NW ({ cls := "PerformRanges", name := "get", desc := "(I)J" } : Jvm.MethodName) (Cond.code ({ cls := "PerformRanges", name := "get", desc := "(I)J" } : Jvm.MethodName) prog_1_method_11_code 2 (Option.some Jvm.ClassFile.FieldType.long) :: GW) ({ frames := 1, cells := 0, slots := 0, locals := 21 }) [.ref px, .int x] M (fun v M' => v = some (.long (sp_Cells_value f x)) ∧ M' = M) := by
  refine MC.of (cc := prog_1_method_11_code) (nL := 2) (ret := (Option.some Jvm.ClassFile.FieldType.long)) (lv := [(0, .ref px), (1, .int x)]) (by decide) rfl (Nat.le_of_ble_eq_true rfl) rfl ?_
  intro p e s m below meth c X hr hlk hnm hK
  refine V.rd (pc' := 1) (fun hl => lv_iload_n X.1 X.2.1 d_PR_get_0 rfl (lv_at hl 1 rfl)) ?_
  refine V.callS0 (pc' := 4) X hK (c_isCell  (x := x)     ) (csG (n := 1) X (mcs wd_300) (mcs wd_301) (mcs wd_289) wd_302 (by decide +kernel) (by decide) (by decide)) rfl rfl (Nat.le_of_ble_eq_true rfl) d_PR_get_1 ⟨by decide, by decide⟩ rfl (st1 := [.int (sp_isCell x)]) rfl ?_
  refine V.bnF (pc' := 7) (tgt := 17) (lv_if_ne X.1 X.2.1 d_PR_get_4 (by decide)) hcx ?_
  refine V.rd (pc' := 18) (fun hl => lv_aload_n X.1 X.2.1 d_PR_get_17 rfl (lv_at hl 0 rfl)) ?_
  refine V.get (pc' := 21) X hK gh0 uw_PR rfl 1 (by decide) (mcs wd_274) rfl d_PR_get_18 rfl ?_
  refine V.getN (pc' := 24) X hK gh1 uw_Course rfl 1 (by decide) (List.mem_of_getElem? (i := 8) rfl) rfl d_PR_get_21 rfl ?_
  refine V.rd (pc' := 25) (fun hl => lv_iload_n X.1 X.2.1 d_PR_get_24 rfl (lv_at hl 1 rfl)) ?_
  refine V.callV0 (pc' := 28) X hK (c_Cells_value  (ce := ce) (va := va) (f := f) (x := x)   gh2 gh3  ) gh2 rfl (cwG (n := 1) X (mcs wd_303) (mcs wd_22) (mcs wd_23) (mcs wd_24) wd_25 (by decide +kernel) (by decide) (by decide)) rfl rfl (Nat.le_of_ble_eq_true rfl) d_PR_get_25 ⟨by decide, by decide⟩ rfl (st1 := [.long (sp_Cells_value f x)]) rfl ?_
  exact V.lret X hr hlk ⟨rfl, rfl⟩ d_PR_get_28

theorem d_PR_put_0 : decode prog_1_method_12_code 0 = .ok (.iload_n 1, 1) := by decide +kernel
theorem d_PR_put_1 : decode prog_1_method_12_code 1 = .ok (.invokestatic 53, 3) := by decide +kernel
theorem d_PR_put_4 : decode prog_1_method_12_code 4 = .ok (.ifCond .ne 13, 3) := by decide +kernel
theorem d_PR_put_7 : decode prog_1_method_12_code 7 = .ok (.new 98, 3) := by decide +kernel
theorem d_PR_put_10 : decode prog_1_method_12_code 10 = .ok (.dup, 1) := by decide +kernel
theorem d_PR_put_11 : decode prog_1_method_12_code 11 = .ok (.ldc 100, 2) := by decide +kernel
theorem d_PR_put_13 : decode prog_1_method_12_code 13 = .ok (.invokespecial 102, 3) := by decide +kernel
theorem d_PR_put_16 : decode prog_1_method_12_code 16 = .ok (.athrow, 1) := by decide +kernel
theorem d_PR_put_17 : decode prog_1_method_12_code 17 = .ok (.aload_n 0, 1) := by decide +kernel
theorem d_PR_put_18 : decode prog_1_method_12_code 18 = .ok (.getfield 21, 3) := by decide +kernel
theorem d_PR_put_21 : decode prog_1_method_12_code 21 = .ok (.getfield 76, 3) := by decide +kernel
theorem d_PR_put_24 : decode prog_1_method_12_code 24 = .ok (.iload_n 1, 1) := by decide +kernel
theorem d_PR_put_25 : decode prog_1_method_12_code 25 = .ok (.invokevirtual 105, 3) := by decide +kernel
theorem d_PR_put_28 : decode prog_1_method_12_code 28 = .ok (.lstore 4, 2) := by decide +kernel
theorem d_PR_put_30 : decode prog_1_method_12_code 30 = .ok (.aload_n 0, 1) := by decide +kernel
theorem d_PR_put_31 : decode prog_1_method_12_code 31 = .ok (.getfield 21, 3) := by decide +kernel
theorem d_PR_put_34 : decode prog_1_method_12_code 34 = .ok (.getfield 76, 3) := by decide +kernel
theorem d_PR_put_37 : decode prog_1_method_12_code 37 = .ok (.iload_n 1, 1) := by decide +kernel
theorem d_PR_put_38 : decode prog_1_method_12_code 38 = .ok (.lload_n 2, 1) := by decide +kernel
theorem d_PR_put_39 : decode prog_1_method_12_code 39 = .ok (.invokevirtual 109, 3) := by decide +kernel
theorem d_PR_put_42 : decode prog_1_method_12_code 42 = .ok (.lload 4, 2) := by decide +kernel
theorem d_PR_put_44 : decode prog_1_method_12_code 44 = .ok (.lreturn, 1) := by decide +kernel

set_option maxHeartbeats 4000000 in
set_option maxRecDepth 100000 in
theorem c_PR_put {l : Launch} {H0 : Heap} {D : va_G} {cI cL cQ cB : ClassId} {M : mp} {px pg lt tr ce pi ra va : Nat} {ln : Int32} {en : Int32} {f : Nat → Int64} {x : Int32} {y : Int64} (hcx : ¬ (sp_isCell x) = 0) (gh0 : M px = some (.inr (5, [.ref pg, .ref lt, .ref tr]))) (gh1 : M lt = some (.inr (1, [.ref pg, .ref ce, .ref pi, .ref ra, .int ln, .int en]))) (gh2 : M ce = some (.inr (0, [.ref va]))) (gh3 : M va = some (.inl (cL, 16, .inr (.inl f)))) : MC l H0 D cls7 (tysOf cI cL cQ cB) NW ({ cls := "PerformRanges", name := "put", desc := "(IJ)J" } : Jvm.MethodName) (Cond.code ({ cls := "PerformRanges", name := "put", desc := "(IJ)J" } : Jvm.MethodName) prog_1_method_12_code 6 (Option.some Jvm.ClassFile.FieldType.long) :: GW) ({ frames := 1, cells := 0, slots := 0, locals := 23 }) [.ref px, .int x, .long y] M (fun v M' => v = some (.long (sp_Cells_value f x)) ∧ M' va = some (.inl (cL, 16, .inr (.inl (sp_Cells_become_va f x y)))) ∧ (∀ q, q ≠ va → M' q = M q)) := by
  refine MC.of (cc := prog_1_method_12_code) (nL := 6) (ret := (Option.some Jvm.ClassFile.FieldType.long)) (lv := [(0, .ref px), (1, .int x), (2, .long y)]) (by decide) rfl (Nat.le_of_ble_eq_true rfl) rfl ?_
  intro p e s m below meth c X hr hlk hnm hK
  refine V.rd (pc' := 1) (fun hl => lv_iload_n X.1 X.2.1 d_PR_put_0 rfl (lv_at hl 1 rfl)) ?_
  refine V.callS0 (pc' := 4) X hK (c_isCell  (x := x)     ) (csG (n := 1) X (mcs wd_300) (mcs wd_301) (mcs wd_289) wd_302 (by decide +kernel) (by decide) (by decide)) rfl rfl (Nat.le_of_ble_eq_true rfl) d_PR_put_1 ⟨by decide, by decide⟩ rfl (st1 := [.int (sp_isCell x)]) rfl ?_
  refine V.bnF (pc' := 7) (tgt := 17) (lv_if_ne X.1 X.2.1 d_PR_put_4 (by decide)) hcx ?_
  refine V.rd (pc' := 18) (fun hl => lv_aload_n X.1 X.2.1 d_PR_put_17 rfl (lv_at hl 0 rfl)) ?_
  refine V.get (pc' := 21) X hK gh0 uw_PR rfl 1 (by decide) (mcs wd_274) rfl d_PR_put_18 rfl ?_
  refine V.getN (pc' := 24) X hK gh1 uw_Course rfl 1 (by decide) (List.mem_of_getElem? (i := 8) rfl) rfl d_PR_put_21 rfl ?_
  refine V.rd (pc' := 25) (fun hl => lv_iload_n X.1 X.2.1 d_PR_put_24 rfl (lv_at hl 1 rfl)) ?_
  refine V.callV0 (pc' := 28) X hK (c_Cells_value  (ce := ce) (va := va) (f := f) (x := x)   gh2 gh3  ) gh2 rfl (cwG (n := 1) X (mcs wd_303) (mcs wd_22) (mcs wd_23) (mcs wd_24) wd_25 (by decide +kernel) (by decide) (by decide)) rfl rfl (Nat.le_of_ble_eq_true rfl) d_PR_put_25 ⟨by decide, by decide⟩ rfl (st1 := [.long (sp_Cells_value f x)]) rfl ?_
  refine V.wr (pc' := 30) (lv' := [(4, .long (sp_Cells_value f x)), (0, .ref px), (1, .int x), (2, .long y)]) (fun hl => lv_lstore X.1 X.2.1 d_PR_put_28 hl (by decide) rfl) ?_
  refine V.rd (pc' := 31) (fun hl => lv_aload_n X.1 X.2.1 d_PR_put_30 rfl (lv_at hl 1 rfl)) ?_
  refine V.get (pc' := 34) X hK gh0 uw_PR rfl 1 (by decide) (mcs wd_274) rfl d_PR_put_31 rfl ?_
  refine V.getN (pc' := 37) X hK gh1 uw_Course rfl 1 (by decide) (List.mem_of_getElem? (i := 8) rfl) rfl d_PR_put_34 rfl ?_
  refine V.rd (pc' := 38) (fun hl => lv_iload_n X.1 X.2.1 d_PR_put_37 rfl (lv_at hl 2 rfl)) ?_
  refine V.rd (pc' := 39) (fun hl => lv_lload_n X.1 X.2.1 d_PR_put_38 rfl (lv_at hl 3 rfl)) ?_
  refine V.callV (pc' := 42) X hK (c_Cells_become  (ce := ce) (va := va) (f := f) (x := x) (y := y)   gh2 gh3  ) gh2 rfl (cwG (n := 2) X (mcs wd_304) (mcs wd_40) (mcs wd_41) (mcs wd_24) wd_42 (by decide +kernel) (by decide) (by decide)) rfl rfl (Nat.le_of_ble_eq_true rfl) d_PR_put_39 ⟨by decide, by decide⟩ rfl (st1 := []) rfl (fun M_3 ⟨h_4, fr_5⟩ => ?_)
  have h_6 : M_3 px = some (.inr (5, [.ref pg, .ref lt, .ref tr])) := (fr_5 _ (ne_k gh0 gh3 (i := 5) (j := 100016) rfl rfl (by decide))).trans gh0
  have h_7 : M_3 lt = some (.inr (1, [.ref pg, .ref ce, .ref pi, .ref ra, .int ln, .int en])) := (fr_5 _ (ne_k gh1 gh3 (i := 1) (j := 100016) rfl rfl (by decide))).trans gh1
  have h_8 : M_3 ce = some (.inr (0, [.ref va])) := (fr_5 _ (ne_k gh2 gh3 (i := 0) (j := 100016) rfl rfl (by decide))).trans gh2
  refine V.rd (pc' := 44) (fun hl => lv_lload X.1 X.2.1 d_PR_put_42 (lv_at hl 0 rfl)) ?_
  exact V.lret X hr hlk ⟨rfl, h_4, (fun q n0_ => (fr_5 q n0_))⟩ d_PR_put_44

theorem d_PR_until_0 : decode prog_1_method_4_code 0 = .ok (.aload_n 0, 1) := by decide +kernel
theorem d_PR_until_1 : decode prog_1_method_4_code 1 = .ok (.getfield 10, 3) := by decide +kernel
theorem d_PR_until_4 : decode prog_1_method_4_code 4 = .ok (.iload_n 1, 1) := by decide +kernel
theorem d_PR_until_5 : decode prog_1_method_4_code 5 = .ok (.invokevirtual 49, 3) := by decide +kernel
theorem d_PR_until_8 : decode prog_1_method_4_code 8 = .ok (.astore 6, 2) := by decide +kernel
theorem d_PR_until_10 : decode prog_1_method_4_code 10 = .ok (.aload 6, 2) := by decide +kernel
theorem d_PR_until_12 : decode prog_1_method_4_code 12 = .ok (.ifnull 10, 3) := by decide +kernel
theorem d_PR_until_15 : decode prog_1_method_4_code 15 = .ok (.iload_n 2, 1) := by decide +kernel
theorem d_PR_until_16 : decode prog_1_method_4_code 16 = .ok (.invokestatic 53, 3) := by decide +kernel
theorem d_PR_until_19 : decode prog_1_method_4_code 19 = .ok (.ifCond .ne 5, 3) := by decide +kernel
theorem d_PR_until_22 : decode prog_1_method_4_code 22 = .ok (.iconst (-1), 1) := by decide +kernel
theorem d_PR_until_23 : decode prog_1_method_4_code 23 = .ok (.ireturn, 1) := by decide +kernel
theorem d_PR_until_24 : decode prog_1_method_4_code 24 = .ok (.aload 6, 2) := by decide +kernel
theorem d_PR_until_26 : decode prog_1_method_4_code 26 = .ok (.iload_n 2, 1) := by decide +kernel
theorem d_PR_until_27 : decode prog_1_method_4_code 27 = .ok (.lload_n 3, 1) := by decide +kernel
theorem d_PR_until_28 : decode prog_1_method_4_code 28 = .ok (.iload 5, 2) := by decide +kernel
theorem d_PR_until_30 : decode prog_1_method_4_code 30 = .ok (.invokevirtual 56, 3) := by decide +kernel
theorem d_PR_until_33 : decode prog_1_method_4_code 33 = .ok (.ireturn, 1) := by decide +kernel

set_option maxHeartbeats 4000000 in
set_option maxRecDepth 100000 in
theorem c_PR_untilN {l : Launch} {H0 : Heap} {D : va_G} {cI cL cQ cB : ClassId} {M : mp} {px pg lt tr dg gg tg0 : Nat} {sa : Nat → Nat} {np : Int32} {ns : Int32} {x : Int32} {cx : Int32} {y : Int64} {b : Int32} (hst : sp_stAt ns x = none) (gh0 : M px = some (.inr (5, [.ref pg, .ref lt, .ref tr]))) (gh1 : M pg = some (.inr (3, [.ref dg, .ref gg, .ref tg0, .int np, .int ns]))) (gh2 : M tg0 = some (.inl (cQ, 60, .inr (.inr (.inr (.inr (tdOf ns sa))))))) : MC l H0 D cls7 (tysOf cI cL cQ cB) NW ({ cls := "PerformRanges", name := "until", desc := "(IIJZ)I" } : Jvm.MethodName) (Cond.code ({ cls := "PerformRanges", name := "until", desc := "(IIJZ)I" } : Jvm.MethodName) prog_1_method_4_code 7 (Option.some Jvm.ClassFile.FieldType.int) :: GW) ({ frames := 1, cells := 0, slots := 0, locals := 24 }) [.ref px, .int x, .int cx, .long y, .int b] M (fun v M' => v = some (.int (-1)) ∧ M' = M) := by
  refine MC.of (cc := prog_1_method_4_code) (nL := 7) (ret := (Option.some Jvm.ClassFile.FieldType.int)) (lv := [(0, .ref px), (1, .int x), (2, .int cx), (3, .long y), (5, .int b)]) (by decide) rfl (Nat.le_of_ble_eq_true rfl) rfl ?_
  intro p e s m below meth c X hr hlk hnm hK
  refine V.rd (pc' := 1) (fun hl => lv_aload_n X.1 X.2.1 d_PR_until_0 rfl (lv_at hl 0 rfl)) ?_
  refine V.get (pc' := 4) X hK gh0 uw_PR rfl 0 (by decide) (mcs wd_265) rfl d_PR_until_1 rfl ?_
  refine V.rd (pc' := 5) (fun hl => lv_iload_n X.1 X.2.1 d_PR_until_4 rfl (lv_at hl 1 rfl)) ?_
  refine V.callV0 (pc' := 8) X hK (c_stAt  (pg := pg) (dg := dg) (gg := gg) (tg0 := tg0) (np := np) (ns := ns) (x := x)   gh1 gh2  ) gh1 rfl (cwG (n := 1) X (mcs wd_305) (mcs wd_71) (mcs wd_72) (mcs wd_7) wd_73 (by decide +kernel) (by decide) (by decide)) rfl rfl (Nat.le_of_ble_eq_true rfl) d_PR_until_5 ⟨by decide, by decide⟩ rfl (st1 := [va_rf (Option.map sa (sp_stAt ns x))]) rfl ?_
  refine V.spN hst ?_
  refine V.wr (pc' := 10) (lv' := [(6, .null), (0, .ref px), (1, .int x), (2, .int cx), (3, .long y), (5, .int b)]) (fun hl => lv_astoreN X.1 X.2.1 d_PR_until_8 hl (by decide) rfl) ?_
  refine V.rd (pc' := 12) (fun hl => lv_aloadN X.1 X.2.1 d_PR_until_10 (lv_at hl 0 rfl)) ?_
  refine V.go (pc' := 22) (lv_ifnullN X.1 X.2.1 d_PR_until_12 (by decide)) ?_
  refine V.go (pc' := 23) (lv_iconst (v := (-1)) X.1 X.2.1 d_PR_until_22 (by decide)) ?_
  exact V.iret X hr hlk ⟨rfl, rfl⟩ d_PR_until_23

def sp_PR_until (sk : Int32) (sc : Int32) (cx : Int32) : Int32 := if (sp_isCell cx) = 0 then (-1) else sp_addCondition sk sc
def sp_PR_until_sai0_4 (sk : Int32) (saf : Int32) (sc : Int32) (cx : Int32) (b : Int32) : Int32 := if (sp_isCell cx) = 0 then saf else sp_addCondition_sm_4 sk saf sc b
def sp_PR_until_sai0_5 (sk : Int32) (sc : Int32) (cx : Int32) : Int32 := if (sp_isCell cx) = 0 then sc else sp_addCondition_sm_5 sk sc
def sp_PR_until_acc (sk : Int32) (sc : Int32) (kc : Nat → Int32) (cx : Int32) : Nat → Int32 := if (sp_isCell cx) = 0 then kc else sp_addCondition_acc sk sc kc cx
def sp_PR_until_acv (sk : Int32) (sc : Int32) (kv : Nat → Int64) (cx : Int32) (y : Int64) : Nat → Int64 := if (sp_isCell cx) = 0 then kv else sp_addCondition_acv sk sc kv y
set_option maxHeartbeats 4000000 in
set_option maxRecDepth 100000 in
theorem c_PR_until {l : Launch} {H0 : Heap} {D : va_G} {cI cL cQ cB : ClassId} {M : mp} {px pg lt tr dg gg tg0 acc acv alc afv als : Nat} {sa : Nat → Nat} {np : Int32} {ns : Int32} {sf : Int32} {sto : Int32} {sk : Int32} {sn : Int32} {saf : Int32} {sc : Int32} {sl : Int32} {kc : Nat → Int32} {kv : Nat → Int64} {i0 : Nat} {x : Int32} {cx : Int32} {y : Int64} {b : Int32} (hst : sp_stAt ns x = some i0) (hb : b = 0 ∨ b = 1) (hsc : 0 ≤ sc.toInt) (gh0 : M px = some (.inr (5, [.ref pg, .ref lt, .ref tr]))) (gh1 : M pg = some (.inr (3, [.ref dg, .ref gg, .ref tg0, .int np, .int ns]))) (gh2 : M tg0 = some (.inl (cQ, 60, .inr (.inr (.inr (.inr (tdOf ns sa))))))) (gh3 : M (sa i0) = some (.inr (4, [.int sf, .int sto, .int sk, .int sn, .int saf, .int sc, .int sl, .ref acc, .ref acv, .ref alc, .ref afv, .ref als]))) (gh4 : M acc = some (.inl (cI, 7, .inl kc))) (gh5 : M acv = some (.inl (cL, 7, .inr (.inl kv)))) : MC l H0 D cls7 (tysOf cI cL cQ cB) NW ({ cls := "PerformRanges", name := "until", desc := "(IIJZ)I" } : Jvm.MethodName) (Cond.code ({ cls := "PerformRanges", name := "until", desc := "(IIJZ)I" } : Jvm.MethodName) prog_1_method_4_code 7 (Option.some Jvm.ClassFile.FieldType.int) :: GW) ({ frames := 1, cells := 0, slots := 0, locals := 24 }) [.ref px, .int x, .int cx, .long y, .int b] M (fun v M' => v = some (.int (sp_PR_until sk sc cx)) ∧ M' (sa i0) = some (.inr (4, [.int sf, .int sto, .int sk, .int sn, .int (sp_PR_until_sai0_4 sk saf sc cx b), .int (sp_PR_until_sai0_5 sk sc cx), .int sl, .ref acc, .ref acv, .ref alc, .ref afv, .ref als])) ∧ M' acc = some (.inl (cI, 7, .inl (sp_PR_until_acc sk sc kc cx))) ∧ M' acv = some (.inl (cL, 7, .inr (.inl (sp_PR_until_acv sk sc kv cx y)))) ∧ (∀ q, q ≠ (sa i0) → q ≠ acc → q ≠ acv → M' q = M q)) := by
  refine MC.of (cc := prog_1_method_4_code) (nL := 7) (ret := (Option.some Jvm.ClassFile.FieldType.int)) (lv := [(0, .ref px), (1, .int x), (2, .int cx), (3, .long y), (5, .int b)]) (by decide) rfl (Nat.le_of_ble_eq_true rfl) rfl ?_
  intro p e s m below meth c X hr hlk hnm hK
  refine V.rd (pc' := 1) (fun hl => lv_aload_n X.1 X.2.1 d_PR_until_0 rfl (lv_at hl 0 rfl)) ?_
  refine V.get (pc' := 4) X hK gh0 uw_PR rfl 0 (by decide) (mcs wd_265) rfl d_PR_until_1 rfl ?_
  refine V.rd (pc' := 5) (fun hl => lv_iload_n X.1 X.2.1 d_PR_until_4 rfl (lv_at hl 1 rfl)) ?_
  refine V.callV0 (pc' := 8) X hK (c_stAt  (pg := pg) (dg := dg) (gg := gg) (tg0 := tg0) (np := np) (ns := ns) (x := x)   gh1 gh2  ) gh1 rfl (cwG (n := 1) X (mcs wd_305) (mcs wd_71) (mcs wd_72) (mcs wd_7) wd_73 (by decide +kernel) (by decide) (by decide)) rfl rfl (Nat.le_of_ble_eq_true rfl) d_PR_until_5 ⟨by decide, by decide⟩ rfl (st1 := [va_rf (Option.map sa (sp_stAt ns x))]) rfl ?_
  refine V.spS hst ?_
  refine V.wr (pc' := 10) (lv' := [(6, .ref (sa i0)), (0, .ref px), (1, .int x), (2, .int cx), (3, .long y), (5, .int b)]) (fun hl => lv_astore X.1 X.2.1 d_PR_until_8 hl (by decide) rfl) ?_
  refine V.rd (pc' := 12) (fun hl => lv_aload X.1 X.2.1 d_PR_until_10 (lv_at hl 0 rfl)) ?_
  refine V.go (pc' := 15) (lv_ifnull X.1 X.2.1 d_PR_until_12) ?_
  refine V.rd (pc' := 16) (fun hl => lv_iload_n X.1 X.2.1 d_PR_until_15 rfl (lv_at hl 3 rfl)) ?_
  refine V.callS0 (pc' := 19) X hK (c_isCell  (x := cx)     ) (csG (n := 1) X (mcs wd_300) (mcs wd_301) (mcs wd_289) wd_302 (by decide +kernel) (by decide) (by decide)) rfl rfl (Nat.le_of_ble_eq_true rfl) d_PR_until_16 ⟨by decide, by decide⟩ rfl (st1 := [.int (sp_isCell cx)]) rfl ?_
  refine V.bn (pc' := 22) (tgt := 24) (P := (sp_isCell cx) = 0) (lv_if_ne X.1 X.2.1 d_PR_until_19 (by decide)) (fun c_3 => ?_) (fun c_3 => ?_)
  · have i_4 := congrArg Int32.toInt c_3
    rw [show (0 : Int32).toInt = 0 from rfl] at i_4
    refine V.go (pc' := 23) (lv_iconst (v := (-1)) X.1 X.2.1 d_PR_until_22 (by decide)) ?_
    exact V.iret X hr hlk ⟨(by simp only [sp_PR_until, hst, oc_some, if_pos c_3]), (by simp only [sp_PR_until_sai0_4, sp_PR_until_sai0_5, hst, oc_some, if_pos c_3]; exact gh3), (by simp only [sp_PR_until_acc, hst, oc_some, if_pos c_3]; exact gh4), (by simp only [sp_PR_until_acv, hst, oc_some, if_pos c_3]; exact gh5), (fun q n0_ n1_ n2_ => rfl)⟩ d_PR_until_23
  · have i_5 := mt Int32.toInt_inj.mp c_3
    rw [show (0 : Int32).toInt = 0 from rfl] at i_5
    refine V.rd (pc' := 26) (fun hl => lv_aload X.1 X.2.1 d_PR_until_24 (lv_at hl 0 rfl)) ?_
    refine V.rd (pc' := 27) (fun hl => lv_iload_n X.1 X.2.1 d_PR_until_26 rfl (lv_at hl 3 rfl)) ?_
    refine V.rd (pc' := 28) (fun hl => lv_lload_n X.1 X.2.1 d_PR_until_27 rfl (lv_at hl 4 rfl)) ?_
    refine V.rd (pc' := 30) (fun hl => lv_iload X.1 X.2.1 d_PR_until_28 (lv_at hl 5 rfl)) ?_
    refine V.callV (pc' := 33) X hK (c_addCondition  (sm := sa i0) (acc := acc) (acv := acv) (alc := alc) (afv := afv) (als := als) (sf := sf) (sto := sto) (sk := sk) (sn := sn) (saf := saf) (sc := sc) (sl := sl) (kc := kc) (kv := kv) (x := cx) (y := y) (b := b) (by first | omega | with_reducible assumption | (have z0_ : (0 : Int32).toInt = 0 := rfl; have z1_ : (1 : Int32).toInt = 1 := rfl; omega)) (by first | omega | with_reducible assumption | (have z0_ : (0 : Int32).toInt = 0 := rfl; have z1_ : (1 : Int32).toInt = 1 := rfl; omega))  gh3 gh4 gh5  ) gh3 rfl (cwG (n := 3) X (mcs wd_306) (mcs wd_307) (mcs wd_308) (mcs wd_46) wd_309 (by decide +kernel) (by decide) (by decide)) rfl rfl (Nat.le_of_ble_eq_true rfl) d_PR_until_30 ⟨by decide, by decide⟩ rfl (st1 := [.int (sp_addCondition sk sc)]) rfl (fun M_6 ⟨h_7, h_8, h_9, fr_10⟩ => ?_)
    have h_11 : M_6 px = some (.inr (5, [.ref pg, .ref lt, .ref tr])) := (fr_10 _ (ne_k gh0 gh3 (i := 5) (j := 4) rfl rfl (by decide)) (ne_k gh0 gh4 (i := 5) (j := 1007) rfl rfl (by decide)) (ne_k gh0 gh5 (i := 5) (j := 100007) rfl rfl (by decide))).trans gh0
    have h_12 : M_6 pg = some (.inr (3, [.ref dg, .ref gg, .ref tg0, .int np, .int ns])) := (fr_10 _ (ne_k gh1 gh3 (i := 3) (j := 4) rfl rfl (by decide)) (ne_k gh1 gh4 (i := 3) (j := 1007) rfl rfl (by decide)) (ne_k gh1 gh5 (i := 3) (j := 100007) rfl rfl (by decide))).trans gh1
    have h_13 : M_6 tg0 = some (.inl (cQ, 60, .inr (.inr (.inr (.inr (tdOf ns sa)))))) := (fr_10 _ (ne_k gh2 gh3 (i := 10000060) (j := 4) rfl rfl (by decide)) (ne_k gh2 gh4 (i := 10000060) (j := 1007) rfl rfl (by decide)) (ne_k gh2 gh5 (i := 10000060) (j := 100007) rfl rfl (by decide))).trans gh2
    exact V.iret X hr hlk ⟨(by simp only [sp_PR_until, hst, oc_some, if_neg c_3]), (by simp only [sp_PR_until_sai0_4, sp_PR_until_sai0_5, hst, oc_some, if_neg c_3]; exact h_7), (by simp only [sp_PR_until_acc, hst, oc_some, if_neg c_3]; exact h_8), (by simp only [sp_PR_until_acv, hst, oc_some, if_neg c_3]; exact h_9), (fun q n0_ n1_ n2_ => (fr_10 q n0_ n1_ n2_))⟩ d_PR_until_33

theorem d_PR_vary_0 : decode prog_1_method_5_code 0 = .ok (.aload_n 0, 1) := by decide +kernel
theorem d_PR_vary_1 : decode prog_1_method_5_code 1 = .ok (.getfield 10, 3) := by decide +kernel
theorem d_PR_vary_4 : decode prog_1_method_5_code 4 = .ok (.iload_n 1, 1) := by decide +kernel
theorem d_PR_vary_5 : decode prog_1_method_5_code 5 = .ok (.invokevirtual 49, 3) := by decide +kernel
theorem d_PR_vary_8 : decode prog_1_method_5_code 8 = .ok (.astore 8, 2) := by decide +kernel
theorem d_PR_vary_10 : decode prog_1_method_5_code 10 = .ok (.aload 8, 2) := by decide +kernel
theorem d_PR_vary_12 : decode prog_1_method_5_code 12 = .ok (.ifnull 10, 3) := by decide +kernel
theorem d_PR_vary_15 : decode prog_1_method_5_code 15 = .ok (.iload_n 3, 1) := by decide +kernel
theorem d_PR_vary_16 : decode prog_1_method_5_code 16 = .ok (.invokestatic 53, 3) := by decide +kernel
theorem d_PR_vary_19 : decode prog_1_method_5_code 19 = .ok (.ifCond .ne 5, 3) := by decide +kernel
theorem d_PR_vary_22 : decode prog_1_method_5_code 22 = .ok (.iconst (-1), 1) := by decide +kernel
theorem d_PR_vary_23 : decode prog_1_method_5_code 23 = .ok (.ireturn, 1) := by decide +kernel
theorem d_PR_vary_24 : decode prog_1_method_5_code 24 = .ok (.aload 8, 2) := by decide +kernel
theorem d_PR_vary_26 : decode prog_1_method_5_code 26 = .ok (.iload_n 2, 1) := by decide +kernel
theorem d_PR_vary_27 : decode prog_1_method_5_code 27 = .ok (.iload_n 3, 1) := by decide +kernel
theorem d_PR_vary_28 : decode prog_1_method_5_code 28 = .ok (.lload 4, 2) := by decide +kernel
theorem d_PR_vary_30 : decode prog_1_method_5_code 30 = .ok (.lload 6, 2) := by decide +kernel
theorem d_PR_vary_32 : decode prog_1_method_5_code 32 = .ok (.invokevirtual 60, 3) := by decide +kernel
theorem d_PR_vary_35 : decode prog_1_method_5_code 35 = .ok (.ireturn, 1) := by decide +kernel

set_option maxHeartbeats 4000000 in
set_option maxRecDepth 100000 in
theorem c_PR_varyN {l : Launch} {H0 : Heap} {D : va_G} {cI cL cQ cB : ClassId} {M : mp} {px pg lt tr dg gg tg0 : Nat} {sa : Nat → Nat} {np : Int32} {ns : Int32} {x : Int32} {lv_ : Int32} {cx : Int32} {y : Int64} {y2 : Int64} (hst : sp_stAt ns x = none) (gh0 : M px = some (.inr (5, [.ref pg, .ref lt, .ref tr]))) (gh1 : M pg = some (.inr (3, [.ref dg, .ref gg, .ref tg0, .int np, .int ns]))) (gh2 : M tg0 = some (.inl (cQ, 60, .inr (.inr (.inr (.inr (tdOf ns sa))))))) : MC l H0 D cls7 (tysOf cI cL cQ cB) NW ({ cls := "PerformRanges", name := "vary", desc := "(IIIJJ)I" } : Jvm.MethodName) (Cond.code ({ cls := "PerformRanges", name := "vary", desc := "(IIIJJ)I" } : Jvm.MethodName) prog_1_method_5_code 9 (Option.some Jvm.ClassFile.FieldType.int) :: GW) ({ frames := 2, cells := 0, slots := 0, locals := 47 }) [.ref px, .int x, .int lv_, .int cx, .long y, .long y2] M (fun v M' => v = some (.int (-1)) ∧ M' = M) := by
  refine MC.of (cc := prog_1_method_5_code) (nL := 9) (ret := (Option.some Jvm.ClassFile.FieldType.int)) (lv := [(0, .ref px), (1, .int x), (2, .int lv_), (3, .int cx), (4, .long y), (6, .long y2)]) (by decide) rfl (Nat.le_of_ble_eq_true rfl) rfl ?_
  intro p e s m below meth c X hr hlk hnm hK
  refine V.rd (pc' := 1) (fun hl => lv_aload_n X.1 X.2.1 d_PR_vary_0 rfl (lv_at hl 0 rfl)) ?_
  refine V.get (pc' := 4) X hK gh0 uw_PR rfl 0 (by decide) (mcs wd_265) rfl d_PR_vary_1 rfl ?_
  refine V.rd (pc' := 5) (fun hl => lv_iload_n X.1 X.2.1 d_PR_vary_4 rfl (lv_at hl 1 rfl)) ?_
  refine V.callV0 (pc' := 8) X hK (c_stAt  (pg := pg) (dg := dg) (gg := gg) (tg0 := tg0) (np := np) (ns := ns) (x := x)   gh1 gh2  ) gh1 rfl (cwG (n := 1) X (mcs wd_305) (mcs wd_71) (mcs wd_72) (mcs wd_7) wd_73 (by decide +kernel) (by decide) (by decide)) rfl rfl (Nat.le_of_ble_eq_true rfl) d_PR_vary_5 ⟨by decide, by decide⟩ rfl (st1 := [va_rf (Option.map sa (sp_stAt ns x))]) rfl ?_
  refine V.spN hst ?_
  refine V.wr (pc' := 10) (lv' := [(8, .null), (0, .ref px), (1, .int x), (2, .int lv_), (3, .int cx), (4, .long y), (6, .long y2)]) (fun hl => lv_astoreN X.1 X.2.1 d_PR_vary_8 hl (by decide) rfl) ?_
  refine V.rd (pc' := 12) (fun hl => lv_aloadN X.1 X.2.1 d_PR_vary_10 (lv_at hl 0 rfl)) ?_
  refine V.go (pc' := 22) (lv_ifnullN X.1 X.2.1 d_PR_vary_12 (by decide)) ?_
  refine V.go (pc' := 23) (lv_iconst (v := (-1)) X.1 X.2.1 d_PR_vary_22 (by decide)) ?_
  exact V.iret X hr hlk ⟨rfl, rfl⟩ d_PR_vary_23

def sp_PR_vary (sk : Int32) (sl : Int32) (lv_ : Int32) (cx : Int32) : Int32 := if (sp_isCell cx) = 0 then (-1) else sp_tellLevel sk sl lv_
def sp_PR_vary_alc (sk : Int32) (sl : Int32) (lc : Nat → Int32) (lv_ : Int32) (cx : Int32) : Nat → Int32 := if (sp_isCell cx) = 0 then lc else sp_tellLevel_alc sk sl lc lv_ cx
def sp_PR_vary_afv (sk : Int32) (sl : Int32) (fv : Nat → Int64) (lv_ : Int32) (cx : Int32) (y : Int64) : Nat → Int64 := if (sp_isCell cx) = 0 then fv else sp_tellLevel_afv sk sl fv lv_ y
def sp_PR_vary_als (sk : Int32) (sl : Int32) (lz : Nat → Int64) (lv_ : Int32) (cx : Int32) (y2 : Int64) : Nat → Int64 := if (sp_isCell cx) = 0 then lz else sp_tellLevel_als sk sl lz lv_ y2
def sp_PR_vary_sai0_6 (sk : Int32) (sl : Int32) (lv_ : Int32) (cx : Int32) : Int32 := if (sp_isCell cx) = 0 then sl else sp_tellLevel_sm_6 sk sl lv_
set_option maxHeartbeats 4000000 in
set_option maxRecDepth 100000 in
theorem c_PR_vary {l : Launch} {H0 : Heap} {D : va_G} {cI cL cQ cB : ClassId} {M : mp} {px pg lt tr dg gg tg0 acc acv alc afv als : Nat} {sa : Nat → Nat} {np : Int32} {ns : Int32} {sf : Int32} {sto : Int32} {sk : Int32} {sn : Int32} {saf : Int32} {sc : Int32} {sl : Int32} {lc : Nat → Int32} {fv : Nat → Int64} {lz : Nat → Int64} {i0 : Nat} {x : Int32} {lv_ : Int32} {cx : Int32} {y : Int64} {y2 : Int64} (hst : sp_stAt ns x = some i0) (hsl : sl.toInt ≤ 7) (ne0 : afv ≠ als) (gh0 : M px = some (.inr (5, [.ref pg, .ref lt, .ref tr]))) (gh1 : M pg = some (.inr (3, [.ref dg, .ref gg, .ref tg0, .int np, .int ns]))) (gh2 : M tg0 = some (.inl (cQ, 60, .inr (.inr (.inr (.inr (tdOf ns sa))))))) (gh3 : M (sa i0) = some (.inr (4, [.int sf, .int sto, .int sk, .int sn, .int saf, .int sc, .int sl, .ref acc, .ref acv, .ref alc, .ref afv, .ref als]))) (gh4 : M alc = some (.inl (cI, 7, .inl lc))) (gh5 : M afv = some (.inl (cL, 7, .inr (.inl fv)))) (gh6 : M als = some (.inl (cL, 7, .inr (.inl lz)))) : MC l H0 D cls7 (tysOf cI cL cQ cB) NW ({ cls := "PerformRanges", name := "vary", desc := "(IIIJJ)I" } : Jvm.MethodName) (Cond.code ({ cls := "PerformRanges", name := "vary", desc := "(IIIJJ)I" } : Jvm.MethodName) prog_1_method_5_code 9 (Option.some Jvm.ClassFile.FieldType.int) :: GW) ({ frames := 2, cells := 0, slots := 0, locals := 47 }) [.ref px, .int x, .int lv_, .int cx, .long y, .long y2] M (fun v M' => v = some (.int (sp_PR_vary sk sl lv_ cx)) ∧ M' alc = some (.inl (cI, 7, .inl (sp_PR_vary_alc sk sl lc lv_ cx))) ∧ M' afv = some (.inl (cL, 7, .inr (.inl (sp_PR_vary_afv sk sl fv lv_ cx y)))) ∧ M' als = some (.inl (cL, 7, .inr (.inl (sp_PR_vary_als sk sl lz lv_ cx y2)))) ∧ M' (sa i0) = some (.inr (4, [.int sf, .int sto, .int sk, .int sn, .int saf, .int sc, .int (sp_PR_vary_sai0_6 sk sl lv_ cx), .ref acc, .ref acv, .ref alc, .ref afv, .ref als])) ∧ (∀ q, q ≠ alc → q ≠ afv → q ≠ als → q ≠ (sa i0) → M' q = M q)) := by
  refine MC.of (cc := prog_1_method_5_code) (nL := 9) (ret := (Option.some Jvm.ClassFile.FieldType.int)) (lv := [(0, .ref px), (1, .int x), (2, .int lv_), (3, .int cx), (4, .long y), (6, .long y2)]) (by decide) rfl (Nat.le_of_ble_eq_true rfl) rfl ?_
  intro p e s m below meth c X hr hlk hnm hK
  refine V.rd (pc' := 1) (fun hl => lv_aload_n X.1 X.2.1 d_PR_vary_0 rfl (lv_at hl 0 rfl)) ?_
  refine V.get (pc' := 4) X hK gh0 uw_PR rfl 0 (by decide) (mcs wd_265) rfl d_PR_vary_1 rfl ?_
  refine V.rd (pc' := 5) (fun hl => lv_iload_n X.1 X.2.1 d_PR_vary_4 rfl (lv_at hl 1 rfl)) ?_
  refine V.callV0 (pc' := 8) X hK (c_stAt  (pg := pg) (dg := dg) (gg := gg) (tg0 := tg0) (np := np) (ns := ns) (x := x)   gh1 gh2  ) gh1 rfl (cwG (n := 1) X (mcs wd_305) (mcs wd_71) (mcs wd_72) (mcs wd_7) wd_73 (by decide +kernel) (by decide) (by decide)) rfl rfl (Nat.le_of_ble_eq_true rfl) d_PR_vary_5 ⟨by decide, by decide⟩ rfl (st1 := [va_rf (Option.map sa (sp_stAt ns x))]) rfl ?_
  refine V.spS hst ?_
  refine V.wr (pc' := 10) (lv' := [(8, .ref (sa i0)), (0, .ref px), (1, .int x), (2, .int lv_), (3, .int cx), (4, .long y), (6, .long y2)]) (fun hl => lv_astore X.1 X.2.1 d_PR_vary_8 hl (by decide) rfl) ?_
  refine V.rd (pc' := 12) (fun hl => lv_aload X.1 X.2.1 d_PR_vary_10 (lv_at hl 0 rfl)) ?_
  refine V.go (pc' := 15) (lv_ifnull X.1 X.2.1 d_PR_vary_12) ?_
  refine V.rd (pc' := 16) (fun hl => lv_iload_n X.1 X.2.1 d_PR_vary_15 rfl (lv_at hl 4 rfl)) ?_
  refine V.callS0 (pc' := 19) X hK (c_isCell  (x := cx)     ) (csG (n := 1) X (mcs wd_300) (mcs wd_301) (mcs wd_289) wd_302 (by decide +kernel) (by decide) (by decide)) rfl rfl (Nat.le_of_ble_eq_true rfl) d_PR_vary_16 ⟨by decide, by decide⟩ rfl (st1 := [.int (sp_isCell cx)]) rfl ?_
  refine V.bn (pc' := 22) (tgt := 24) (P := (sp_isCell cx) = 0) (lv_if_ne X.1 X.2.1 d_PR_vary_19 (by decide)) (fun c_3 => ?_) (fun c_3 => ?_)
  · have i_4 := congrArg Int32.toInt c_3
    rw [show (0 : Int32).toInt = 0 from rfl] at i_4
    refine V.go (pc' := 23) (lv_iconst (v := (-1)) X.1 X.2.1 d_PR_vary_22 (by decide)) ?_
    exact V.iret X hr hlk ⟨(by simp only [sp_PR_vary, hst, oc_some, if_pos c_3]), (by simp only [sp_PR_vary_alc, hst, oc_some, if_pos c_3]; exact gh4), (by simp only [sp_PR_vary_afv, hst, oc_some, if_pos c_3]; exact gh5), (by simp only [sp_PR_vary_als, hst, oc_some, if_pos c_3]; exact gh6), (by simp only [sp_PR_vary_sai0_6, hst, oc_some, if_pos c_3]; exact gh3), (fun q n0_ n1_ n2_ n3_ => rfl)⟩ d_PR_vary_23
  · have i_5 := mt Int32.toInt_inj.mp c_3
    rw [show (0 : Int32).toInt = 0 from rfl] at i_5
    refine V.rd (pc' := 26) (fun hl => lv_aload X.1 X.2.1 d_PR_vary_24 (lv_at hl 0 rfl)) ?_
    refine V.rd (pc' := 27) (fun hl => lv_iload_n X.1 X.2.1 d_PR_vary_26 rfl (lv_at hl 3 rfl)) ?_
    refine V.rd (pc' := 28) (fun hl => lv_iload_n X.1 X.2.1 d_PR_vary_27 rfl (lv_at hl 4 rfl)) ?_
    refine V.rd (pc' := 30) (fun hl => lv_lload X.1 X.2.1 d_PR_vary_28 (lv_at hl 5 rfl)) ?_
    refine V.rd (pc' := 32) (fun hl => lv_lload X.1 X.2.1 d_PR_vary_30 (lv_at hl 6 rfl)) ?_
    refine V.callV (pc' := 35) X hK (c_tellLevel  (sm := sa i0) (acc := acc) (acv := acv) (alc := alc) (afv := afv) (als := als) (sf := sf) (sto := sto) (sk := sk) (sn := sn) (saf := saf) (sc := sc) (sl := sl) (lc := lc) (fv := fv) (lz := lz) (x := lv_) (cx := cx) (y := y) (y2 := y2) (by first | omega | with_reducible assumption | (have z0_ : (0 : Int32).toInt = 0 := rfl; have z1_ : (1 : Int32).toInt = 1 := rfl; omega)) ne0 gh3 gh4 gh5 gh6  ) gh3 rfl (cwG (n := 4) X (mcs wd_310) (mcs wd_311) (mcs wd_312) (mcs wd_46) wd_313 (by decide +kernel) (by decide) (by decide)) rfl rfl (Nat.le_of_ble_eq_true rfl) d_PR_vary_32 ⟨by decide, by decide⟩ rfl (st1 := [.int (sp_tellLevel sk sl lv_)]) rfl (fun M_6 ⟨h_7, h_8, h_9, h_10, fr_11⟩ => ?_)
    have h_12 : M_6 px = some (.inr (5, [.ref pg, .ref lt, .ref tr])) := (fr_11 _ (ne_k gh0 gh4 (i := 5) (j := 1007) rfl rfl (by decide)) (ne_k gh0 gh5 (i := 5) (j := 100007) rfl rfl (by decide)) (ne_k gh0 gh6 (i := 5) (j := 100007) rfl rfl (by decide)) (ne_k gh0 gh3 (i := 5) (j := 4) rfl rfl (by decide))).trans gh0
    have h_13 : M_6 pg = some (.inr (3, [.ref dg, .ref gg, .ref tg0, .int np, .int ns])) := (fr_11 _ (ne_k gh1 gh4 (i := 3) (j := 1007) rfl rfl (by decide)) (ne_k gh1 gh5 (i := 3) (j := 100007) rfl rfl (by decide)) (ne_k gh1 gh6 (i := 3) (j := 100007) rfl rfl (by decide)) (ne_k gh1 gh3 (i := 3) (j := 4) rfl rfl (by decide))).trans gh1
    have h_14 : M_6 tg0 = some (.inl (cQ, 60, .inr (.inr (.inr (.inr (tdOf ns sa)))))) := (fr_11 _ (ne_k gh2 gh4 (i := 10000060) (j := 1007) rfl rfl (by decide)) (ne_k gh2 gh5 (i := 10000060) (j := 100007) rfl rfl (by decide)) (ne_k gh2 gh6 (i := 10000060) (j := 100007) rfl rfl (by decide)) (ne_k gh2 gh3 (i := 10000060) (j := 4) rfl rfl (by decide))).trans gh2
    exact V.iret X hr hlk ⟨(by simp only [sp_PR_vary, hst, oc_some, if_neg c_3]), (by simp only [sp_PR_vary_alc, hst, oc_some, if_neg c_3]; exact h_7), (by simp only [sp_PR_vary_afv, hst, oc_some, if_neg c_3]; exact h_8), (by simp only [sp_PR_vary_als, hst, oc_some, if_neg c_3]; exact h_9), (by simp only [sp_PR_vary_sai0_6, hst, oc_some, if_neg c_3]; exact h_10), (fun q n0_ n1_ n2_ n3_ => (fr_11 q n0_ n1_ n2_ n3_))⟩ d_PR_vary_35
