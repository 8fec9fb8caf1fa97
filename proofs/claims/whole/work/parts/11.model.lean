theorem wd_167 : (Jvm.Cond.fieldLink "PerformRangesModel" (82 : Nat) "PerformRangesModel" "code" "I") ∈ GW := gw_of (i := 513) (by decide +kernel) (by decide +kernel)
theorem wd_168 : (Jvm.Cond.fieldLink "PerformRangesModel" (85 : Nat) "PerformRangesModel" "paragraphs" "I") ∈ GW := gw_of (i := 516) (by decide +kernel) (by decide +kernel)
theorem wd_169 : (Jvm.Cond.fieldLink "PerformRangesModel" (88 : Nat) "PerformRangesModel" "statements" "I") ∈ GW := gw_of (i := 517) (by decide +kernel) (by decide +kernel)
theorem wd_170 : (Jvm.Cond.fieldLink "PerformRangesModel" (16 : Nat) "PerformRangesModel" "does" "[I") ∈ GW := gw_of (i := 518) (by decide +kernel) (by decide +kernel)
theorem wd_171 : (Jvm.Cond.methodLink "PerformRangesModel" (91 : Nat) ({ cls := "PerformRangesModel", name := "isParagraph", desc := "(I)Z" } : Jvm.MethodName)) ∈ GW := gw_of (i := 626) (by decide +kernel) (by decide +kernel)
theorem wd_172 : (Jvm.Cond.instanceMethod ({ cls := "PerformRangesModel", name := "isParagraph", desc := "(I)Z" } : Jvm.MethodName)) ∈ GW := gw_of (i := 628) (by decide +kernel) (by decide +kernel)
theorem wd_173 : (Jvm.Cond.selects "PerformRangesModel" ({ cls := "PerformRangesModel", name := "isParagraph", desc := "(I)Z" } : Jvm.MethodName) ({ cls := "PerformRangesModel", name := "isParagraph", desc := "(I)Z" } : Jvm.MethodName)) ∈ GW := gw_of (i := 15) (by decide +kernel) (by decide +kernel)
theorem wd_174 : (Jvm.Cond.initialized "PerformRangesModel") ∈ GW := gw_of (i := 36) (by decide +kernel) (by decide +kernel)
theorem wd_175 : (Jvm.Cond.code ({ cls := "PerformRangesModel", name := "isParagraph", desc := "(I)Z" } : Jvm.MethodName) prog_8_method_3_code (2 : Nat) (Option.some Jvm.ClassFile.FieldType.boolean)) ∈ GW := gw_of (i := 629) (by decide +kernel) (by decide +kernel)
theorem wd_176 : (Jvm.Cond.fieldLink "PerformRangesModel" (23 : Nat) "PerformRangesModel" "froms" "[I") ∈ GW := gw_of (i := 520) (by decide +kernel) (by decide +kernel)
theorem wd_177 : (Jvm.Cond.fieldLink "PerformRangesModel" (26 : Nat) "PerformRangesModel" "tos" "[I") ∈ GW := gw_of (i := 521) (by decide +kernel) (by decide +kernel)
theorem wd_178 : (Jvm.Cond.fieldLink "PerformRangesModel" (29 : Nat) "PerformRangesModel" "kinds" "[I") ∈ GW := gw_of (i := 522) (by decide +kernel) (by decide +kernel)
theorem wd_179 : (Jvm.Cond.fieldLink "PerformRangesModel" (32 : Nat) "PerformRangesModel" "times" "[I") ∈ GW := gw_of (i := 523) (by decide +kernel) (by decide +kernel)
theorem wd_180 : (Jvm.Cond.methodLink "PerformRangesModel" (95 : Nat) ({ cls := "PerformRangesModel", name := "isStatement", desc := "(I)Z" } : Jvm.MethodName)) ∈ GW := gw_of (i := 634) (by decide +kernel) (by decide +kernel)
theorem wd_181 : (Jvm.Cond.instanceMethod ({ cls := "PerformRangesModel", name := "isStatement", desc := "(I)Z" } : Jvm.MethodName)) ∈ GW := gw_of (i := 636) (by decide +kernel) (by decide +kernel)
theorem wd_182 : (Jvm.Cond.selects "PerformRangesModel" ({ cls := "PerformRangesModel", name := "isStatement", desc := "(I)Z" } : Jvm.MethodName) ({ cls := "PerformRangesModel", name := "isStatement", desc := "(I)Z" } : Jvm.MethodName)) ∈ GW := gw_of (i := 16) (by decide +kernel) (by decide +kernel)
theorem wd_183 : (Jvm.Cond.code ({ cls := "PerformRangesModel", name := "isStatement", desc := "(I)Z" } : Jvm.MethodName) prog_8_method_4_code (2 : Nat) (Option.some Jvm.ClassFile.FieldType.boolean)) ∈ GW := gw_of (i := 637) (by decide +kernel) (by decide +kernel)
theorem wd_184 : (Jvm.Cond.methodLink "PerformRangesModel" (98 : Nat) ({ cls := "PerformRangesModel", name := "isCell", desc := "(I)Z" } : Jvm.MethodName)) ∈ GW := gw_of (i := 638) (by decide +kernel) (by decide +kernel)
theorem wd_185 : (Jvm.Cond.static ({ cls := "PerformRangesModel", name := "isCell", desc := "(I)Z" } : Jvm.MethodName)) ∈ GW := gw_of (i := 639) (by decide +kernel) (by decide +kernel)
theorem wd_186 : (Jvm.Cond.code ({ cls := "PerformRangesModel", name := "isCell", desc := "(I)Z" } : Jvm.MethodName) prog_8_method_5_code (1 : Nat) (Option.some Jvm.ClassFile.FieldType.boolean)) ∈ GW := gw_of (i := 640) (by decide +kernel) (by decide +kernel)
theorem wd_187 : (Jvm.Cond.fieldLink "PerformRangesModel" (35 : Nat) "PerformRangesModel" "conditions" "[I") ∈ GW := gw_of (i := 524) (by decide +kernel) (by decide +kernel)
theorem wd_188 : (Jvm.Cond.fieldLink "PerformRangesModel" (41 : Nat) "PerformRangesModel" "asksFirst" "[Z") ∈ GW := gw_of (i := 526) (by decide +kernel) (by decide +kernel)
theorem wd_189 : (Jvm.Cond.fieldLink "PerformRangesModel" (45 : Nat) "PerformRangesModel" "conditionCells" "[I") ∈ GW := gw_of (i := 527) (by decide +kernel) (by decide +kernel)
theorem wd_190 : (Jvm.Cond.fieldLink "PerformRangesModel" (51 : Nat) "PerformRangesModel" "least" "[J") ∈ GW := gw_of (i := 529) (by decide +kernel) (by decide +kernel)
theorem wd_191 : (Jvm.Cond.fieldLink "PerformRangesModel" (38 : Nat) "PerformRangesModel" "levels" "[I") ∈ GW := gw_of (i := 525) (by decide +kernel) (by decide +kernel)
theorem wd_192 : (Jvm.Cond.fieldLink "PerformRangesModel" (48 : Nat) "PerformRangesModel" "varied" "[I") ∈ GW := gw_of (i := 528) (by decide +kernel) (by decide +kernel)
theorem wd_193 : (Jvm.Cond.fieldLink "PerformRangesModel" (54 : Nat) "PerformRangesModel" "first" "[J") ∈ GW := gw_of (i := 530) (by decide +kernel) (by decide +kernel)
theorem wd_194 : (Jvm.Cond.fieldLink "PerformRangesModel" (57 : Nat) "PerformRangesModel" "step" "[J") ∈ GW := gw_of (i := 531) (by decide +kernel) (by decide +kernel)
theorem wd_195 : (Jvm.Cond.fieldLink "PerformRangesModel" (20 : Nat) "PerformRangesModel" "gos" "[I") ∈ GW := gw_of (i := 519) (by decide +kernel) (by decide +kernel)
theorem wd_196 : (Jvm.Cond.fieldLink "PerformRangesModel" (7 : Nat) "PerformRangesModel" "cells" "[J") ∈ GW := gw_of (i := 514) (by decide +kernel) (by decide +kernel)
theorem d_Model_thrown_0 : decode prog_8_method_2_code 0 = .ok (.aload_n 0, 1) := by decide +kernel
theorem d_Model_thrown_1 : decode prog_8_method_2_code 1 = .ok (.getfield 82, 3) := by decide +kernel
theorem d_Model_thrown_4 : decode prog_8_method_2_code 4 = .ok (.ireturn, 1) := by decide +kernel

set_option maxHeartbeats 4000000 in
set_option maxRecDepth 100000 in
theorem c_M_thrown {l : Launch} {H0 : Heap} {D : va_G} {cI cL cQ cB : ClassId} {M : mp} {mo : Nat} {ad : Nat → Nat} (hinj : ∀ i j : Nat, i < 33 → j < 33 → ad i = ad j → i = j) {xcode : Int32} {np : Int32} {ns : Int32} {xsize : Int32} {xmost : Int32} {xend : Int32} {xran : Int32} {yend : Int32} {ysize : Int32} {ymost : Int32} {yran : Int32} (gh0 : M mo = some (.inr (6, [.int xcode, .ref (ad 1), .ref (ad 2), .int np, .int ns, .ref (ad 5), .ref (ad 6), .ref (ad 7), .ref (ad 8), .ref (ad 9), .ref (ad 10), .ref (ad 11), .ref (ad 12), .ref (ad 13), .ref (ad 14), .ref (ad 15), .ref (ad 16), .ref (ad 17), .ref (ad 18), .ref (ad 19), .ref (ad 20), .ref (ad 21), .int xsize, .int xmost, .int xend, .int xran, .ref (ad 26), .int yend, .int ysize, .int ymost, .int yran, .ref (ad 31), .ref (ad 32)]))) : MC l H0 D cls7 (tysOf cI cL cQ cB) NW ({ cls := "PerformRangesModel", name := "thrown", desc := "()I" } : Jvm.MethodName) (Cond.code ({ cls := "PerformRangesModel", name := "thrown", desc := "()I" } : Jvm.MethodName) prog_8_method_2_code 1 (Option.some Jvm.ClassFile.FieldType.int) :: GW) ({ frames := 0, cells := 0, slots := 0, locals := 0 }) [.ref mo] M (fun v M' => v = some (.int xcode) ∧ M' = M) := by
  refine MC.of (cc := prog_8_method_2_code) (nL := 1) (ret := (Option.some Jvm.ClassFile.FieldType.int)) (lv := [(0, .ref mo)]) (by decide) rfl (Nat.le_of_ble_eq_true rfl) rfl ?_
  intro p e s m below meth c X hr hlk hnm hK
  refine V.rd (pc' := 1) (fun hl => lv_aload_n X.1 X.2.1 d_Model_thrown_0 rfl (lv_at hl 0 rfl)) ?_
  refine V.get (pc' := 4) X hK gh0 uw_Model rfl 0 (by decide) (mcs wd_167) rfl d_Model_thrown_1 rfl ?_
  exact V.iret X hr hlk ⟨rfl, rfl⟩ d_Model_thrown_4

theorem d_Model_isParagraph_0 : decode prog_8_method_3_code 0 = .ok (.iload_n 1, 1) := by decide +kernel
theorem d_Model_isParagraph_1 : decode prog_8_method_3_code 1 = .ok (.ifCond .le 15, 3) := by decide +kernel
theorem d_Model_isParagraph_4 : decode prog_8_method_3_code 4 = .ok (.iload_n 1, 1) := by decide +kernel
theorem d_Model_isParagraph_5 : decode prog_8_method_3_code 5 = .ok (.aload_n 0, 1) := by decide +kernel
theorem d_Model_isParagraph_6 : decode prog_8_method_3_code 6 = .ok (.getfield 85, 3) := by decide +kernel
theorem d_Model_isParagraph_9 : decode prog_8_method_3_code 9 = .ok (.if_icmp .gt 7, 3) := by decide +kernel
theorem d_Model_isParagraph_12 : decode prog_8_method_3_code 12 = .ok (.iconst 1, 1) := by decide +kernel
theorem d_Model_isParagraph_13 : decode prog_8_method_3_code 13 = .ok (.goto 4, 3) := by decide +kernel
theorem d_Model_isParagraph_16 : decode prog_8_method_3_code 16 = .ok (.iconst 0, 1) := by decide +kernel
theorem d_Model_isParagraph_17 : decode prog_8_method_3_code 17 = .ok (.ireturn, 1) := by decide +kernel

def sp_M_isParagraph (np : Int32) (x : Int32) : Int32 := if x ≤ 0 then 0 else if np < x then 0 else 1
set_option maxHeartbeats 4000000 in
set_option maxRecDepth 100000 in
theorem c_M_isParagraph {l : Launch} {H0 : Heap} {D : va_G} {cI cL cQ cB : ClassId} {M : mp} {mo : Nat} {ad : Nat → Nat} (hinj : ∀ i j : Nat, i < 33 → j < 33 → ad i = ad j → i = j) {xcode : Int32} {np : Int32} {ns : Int32} {xsize : Int32} {xmost : Int32} {xend : Int32} {xran : Int32} {yend : Int32} {ysize : Int32} {ymost : Int32} {yran : Int32} {x : Int32} (gh0 : M mo = some (.inr (6, [.int xcode, .ref (ad 1), .ref (ad 2), .int np, .int ns, .ref (ad 5), .ref (ad 6), .ref (ad 7), .ref (ad 8), .ref (ad 9), .ref (ad 10), .ref (ad 11), .ref (ad 12), .ref (ad 13), .ref (ad 14), .ref (ad 15), .ref (ad 16), .ref (ad 17), .ref (ad 18), .ref (ad 19), .ref (ad 20), .ref (ad 21), .int xsize, .int xmost, .int xend, .int xran, .ref (ad 26), .int yend, .int ysize, .int ymost, .int yran, .ref (ad 31), .ref (ad 32)]))) : MC l H0 D cls7 (tysOf cI cL cQ cB) NW ({ cls := "PerformRangesModel", name := "isParagraph", desc := "(I)Z" } : Jvm.MethodName) (Cond.code ({ cls := "PerformRangesModel", name := "isParagraph", desc := "(I)Z" } : Jvm.MethodName) prog_8_method_3_code 2 (Option.some Jvm.ClassFile.FieldType.boolean) :: GW) ({ frames := 0, cells := 0, slots := 0, locals := 0 }) [.ref mo, .int x] M (fun v M' => v = some (.int (sp_M_isParagraph np x)) ∧ M' = M) := by
  refine MC.of (cc := prog_8_method_3_code) (nL := 2) (ret := (Option.some Jvm.ClassFile.FieldType.boolean)) (lv := [(0, .ref mo), (1, .int x)]) (by decide) rfl (Nat.le_of_ble_eq_true rfl) rfl ?_
  intro p e s m below meth c X hr hlk hnm hK
  refine V.rd (pc' := 1) (fun hl => lv_iload_n X.1 X.2.1 d_Model_isParagraph_0 rfl (lv_at hl 1 rfl)) ?_
  refine V.br (pc' := 4) (tgt := 16) (P := x ≤ 0) (lv_if_le X.1 X.2.1 d_Model_isParagraph_1 (by decide)) (fun c_1 => ?_) (fun c_1 => ?_)
  · have i_2 := Int32.le_iff_toInt_le.mp c_1
    rw [show (0 : Int32).toInt = 0 from rfl] at i_2
    refine V.go (pc' := 17) (lv_iconst (v := 0) X.1 X.2.1 d_Model_isParagraph_16 (by decide)) ?_
    exact V.zret X hr hlk rfl ⟨(by simp only [sp_M_isParagraph, if_pos c_1]), rfl⟩ d_Model_isParagraph_17
  · have i_3 := mt Int32.le_iff_toInt_le.mpr c_1
    rw [show (0 : Int32).toInt = 0 from rfl] at i_3
    refine V.rd (pc' := 5) (fun hl => lv_iload_n X.1 X.2.1 d_Model_isParagraph_4 rfl (lv_at hl 1 rfl)) ?_
    refine V.rd (pc' := 6) (fun hl => lv_aload_n X.1 X.2.1 d_Model_isParagraph_5 rfl (lv_at hl 0 rfl)) ?_
    refine V.get (pc' := 9) X hK gh0 uw_Model rfl 3 (by decide) (mcs wd_168) rfl d_Model_isParagraph_6 rfl ?_
    refine V.br (pc' := 12) (tgt := 16) (P := np < x) (lv_icmp_gt X.1 X.2.1 d_Model_isParagraph_9 (by decide)) (fun c_4 => ?_) (fun c_4 => ?_)
    · have i_5 := Int32.lt_iff_toInt_lt.mp c_4
      refine V.go (pc' := 17) (lv_iconst (v := 0) X.1 X.2.1 d_Model_isParagraph_16 (by decide)) ?_
      exact V.zret X hr hlk rfl ⟨(by simp only [sp_M_isParagraph, if_neg c_1, if_pos c_4]), rfl⟩ d_Model_isParagraph_17
    · have i_6 := mt Int32.lt_iff_toInt_lt.mpr c_4
      refine V.go (pc' := 13) (lv_iconst (v := 1) X.1 X.2.1 d_Model_isParagraph_12 (by decide)) ?_
      refine V.go (pc' := 17) (lv_goto X.1 X.2.1 d_Model_isParagraph_13 (by decide)) ?_
      exact V.zret X hr hlk rfl ⟨(by simp only [sp_M_isParagraph, if_neg c_1, if_neg c_4]), rfl⟩ d_Model_isParagraph_17

theorem M_isPar_ne {np x : Int32} (h : ¬ sp_M_isParagraph np x = 0) : 1 ≤ x.toInt ∧ x.toInt ≤ np.toInt := by
  unfold sp_M_isParagraph at h
  have k0 : (0 : Int32).toInt = 0 := rfl
  by_cases h1 : x ≤ 0
  · rw [if_pos h1] at h
    exact absurd rfl h
  · rw [if_neg h1] at h
    by_cases h2 : np < x
    · rw [if_pos h2] at h
      exact absurd rfl h
    · have a1 := mt Int32.le_iff_toInt_le.mpr h1
      have a2 := mt Int32.lt_iff_toInt_lt.mpr h2
      refine ⟨?_, ?_⟩ <;> omega

theorem d_Model_isStatement_0 : decode prog_8_method_4_code 0 = .ok (.iload_n 1, 1) := by decide +kernel
theorem d_Model_isStatement_1 : decode prog_8_method_4_code 1 = .ok (.ifCond .le 15, 3) := by decide +kernel
theorem d_Model_isStatement_4 : decode prog_8_method_4_code 4 = .ok (.iload_n 1, 1) := by decide +kernel
theorem d_Model_isStatement_5 : decode prog_8_method_4_code 5 = .ok (.aload_n 0, 1) := by decide +kernel
theorem d_Model_isStatement_6 : decode prog_8_method_4_code 6 = .ok (.getfield 88, 3) := by decide +kernel
theorem d_Model_isStatement_9 : decode prog_8_method_4_code 9 = .ok (.if_icmp .gt 7, 3) := by decide +kernel
theorem d_Model_isStatement_12 : decode prog_8_method_4_code 12 = .ok (.iconst 1, 1) := by decide +kernel
theorem d_Model_isStatement_13 : decode prog_8_method_4_code 13 = .ok (.goto 4, 3) := by decide +kernel
theorem d_Model_isStatement_16 : decode prog_8_method_4_code 16 = .ok (.iconst 0, 1) := by decide +kernel
theorem d_Model_isStatement_17 : decode prog_8_method_4_code 17 = .ok (.ireturn, 1) := by decide +kernel

def sp_M_isStatement (ns : Int32) (x : Int32) : Int32 := if x ≤ 0 then 0 else if ns < x then 0 else 1
set_option maxHeartbeats 4000000 in
set_option maxRecDepth 100000 in
theorem c_M_isStatement {l : Launch} {H0 : Heap} {D : va_G} {cI cL cQ cB : ClassId} {M : mp} {mo : Nat} {ad : Nat → Nat} (hinj : ∀ i j : Nat, i < 33 → j < 33 → ad i = ad j → i = j) {xcode : Int32} {np : Int32} {ns : Int32} {xsize : Int32} {xmost : Int32} {xend : Int32} {xran : Int32} {yend : Int32} {ysize : Int32} {ymost : Int32} {yran : Int32} {x : Int32} (gh0 : M mo = some (.inr (6, [.int xcode, .ref (ad 1), .ref (ad 2), .int np, .int ns, .ref (ad 5), .ref (ad 6), .ref (ad 7), .ref (ad 8), .ref (ad 9), .ref (ad 10), .ref (ad 11), .ref (ad 12), .ref (ad 13), .ref (ad 14), .ref (ad 15), .ref (ad 16), .ref (ad 17), .ref (ad 18), .ref (ad 19), .ref (ad 20), .ref (ad 21), .int xsize, .int xmost, .int xend, .int xran, .ref (ad 26), .int yend, .int ysize, .int ymost, .int yran, .ref (ad 31), .ref (ad 32)]))) : MC l H0 D cls7 (tysOf cI cL cQ cB) NW ({ cls := "PerformRangesModel", name := "isStatement", desc := "(I)Z" } : Jvm.MethodName) (Cond.code ({ cls := "PerformRangesModel", name := "isStatement", desc := "(I)Z" } : Jvm.MethodName) prog_8_method_4_code 2 (Option.some Jvm.ClassFile.FieldType.boolean) :: GW) ({ frames := 0, cells := 0, slots := 0, locals := 0 }) [.ref mo, .int x] M (fun v M' => v = some (.int (sp_M_isStatement ns x)) ∧ M' = M) := by
  refine MC.of (cc := prog_8_method_4_code) (nL := 2) (ret := (Option.some Jvm.ClassFile.FieldType.boolean)) (lv := [(0, .ref mo), (1, .int x)]) (by decide) rfl (Nat.le_of_ble_eq_true rfl) rfl ?_
  intro p e s m below meth c X hr hlk hnm hK
  refine V.rd (pc' := 1) (fun hl => lv_iload_n X.1 X.2.1 d_Model_isStatement_0 rfl (lv_at hl 1 rfl)) ?_
  refine V.br (pc' := 4) (tgt := 16) (P := x ≤ 0) (lv_if_le X.1 X.2.1 d_Model_isStatement_1 (by decide)) (fun c_1 => ?_) (fun c_1 => ?_)
  · have i_2 := Int32.le_iff_toInt_le.mp c_1
    rw [show (0 : Int32).toInt = 0 from rfl] at i_2
    refine V.go (pc' := 17) (lv_iconst (v := 0) X.1 X.2.1 d_Model_isStatement_16 (by decide)) ?_
    exact V.zret X hr hlk rfl ⟨(by simp only [sp_M_isStatement, if_pos c_1]), rfl⟩ d_Model_isStatement_17
  · have i_3 := mt Int32.le_iff_toInt_le.mpr c_1
    rw [show (0 : Int32).toInt = 0 from rfl] at i_3
    refine V.rd (pc' := 5) (fun hl => lv_iload_n X.1 X.2.1 d_Model_isStatement_4 rfl (lv_at hl 1 rfl)) ?_
    refine V.rd (pc' := 6) (fun hl => lv_aload_n X.1 X.2.1 d_Model_isStatement_5 rfl (lv_at hl 0 rfl)) ?_
    refine V.get (pc' := 9) X hK gh0 uw_Model rfl 4 (by decide) (mcs wd_169) rfl d_Model_isStatement_6 rfl ?_
    refine V.br (pc' := 12) (tgt := 16) (P := ns < x) (lv_icmp_gt X.1 X.2.1 d_Model_isStatement_9 (by decide)) (fun c_4 => ?_) (fun c_4 => ?_)
    · have i_5 := Int32.lt_iff_toInt_lt.mp c_4
      refine V.go (pc' := 17) (lv_iconst (v := 0) X.1 X.2.1 d_Model_isStatement_16 (by decide)) ?_
      exact V.zret X hr hlk rfl ⟨(by simp only [sp_M_isStatement, if_neg c_1, if_pos c_4]), rfl⟩ d_Model_isStatement_17
    · have i_6 := mt Int32.lt_iff_toInt_lt.mpr c_4
      refine V.go (pc' := 13) (lv_iconst (v := 1) X.1 X.2.1 d_Model_isStatement_12 (by decide)) ?_
      refine V.go (pc' := 17) (lv_goto X.1 X.2.1 d_Model_isStatement_13 (by decide)) ?_
      exact V.zret X hr hlk rfl ⟨(by simp only [sp_M_isStatement, if_neg c_1, if_neg c_4]), rfl⟩ d_Model_isStatement_17

theorem M_isSta_ne {ns x : Int32} (h : ¬ sp_M_isStatement ns x = 0) : 1 ≤ x.toInt ∧ x.toInt ≤ ns.toInt := by
  unfold sp_M_isStatement at h
  have k0 : (0 : Int32).toInt = 0 := rfl
  by_cases h1 : x ≤ 0
  · rw [if_pos h1] at h
    exact absurd rfl h
  · rw [if_neg h1] at h
    by_cases h2 : ns < x
    · rw [if_pos h2] at h
      exact absurd rfl h
    · have a1 := mt Int32.le_iff_toInt_le.mpr h1
      have a2 := mt Int32.lt_iff_toInt_lt.mpr h2
      refine ⟨?_, ?_⟩ <;> omega

theorem d_Model_isCell_0 : decode prog_8_method_5_code 0 = .ok (.iload_n 0, 1) := by decide +kernel
theorem d_Model_isCell_1 : decode prog_8_method_5_code 1 = .ok (.ifCond .lt 13, 3) := by decide +kernel
theorem d_Model_isCell_4 : decode prog_8_method_5_code 4 = .ok (.iload_n 0, 1) := by decide +kernel
theorem d_Model_isCell_5 : decode prog_8_method_5_code 5 = .ok (.bipush 16, 2) := by decide +kernel
theorem d_Model_isCell_7 : decode prog_8_method_5_code 7 = .ok (.if_icmp .ge 7, 3) := by decide +kernel
theorem d_Model_isCell_10 : decode prog_8_method_5_code 10 = .ok (.iconst 1, 1) := by decide +kernel
theorem d_Model_isCell_11 : decode prog_8_method_5_code 11 = .ok (.goto 4, 3) := by decide +kernel
theorem d_Model_isCell_14 : decode prog_8_method_5_code 14 = .ok (.iconst 0, 1) := by decide +kernel
theorem d_Model_isCell_15 : decode prog_8_method_5_code 15 = .ok (.ireturn, 1) := by decide +kernel

def sp_M_isCell (x : Int32) : Int32 := if x < 0 then 0 else if 16 ≤ x then 0 else 1
set_option maxHeartbeats 4000000 in
set_option maxRecDepth 100000 in
theorem c_M_isCell {l : Launch} {H0 : Heap} {D : va_G} {cI cL cQ cB : ClassId} {M : mp} {x : Int32} : MC l H0 D cls7 (tysOf cI cL cQ cB) NW ({ cls := "PerformRangesModel", name := "isCell", desc := "(I)Z" } : Jvm.MethodName) (Cond.code ({ cls := "PerformRangesModel", name := "isCell", desc := "(I)Z" } : Jvm.MethodName) prog_8_method_5_code 1 (Option.some Jvm.ClassFile.FieldType.boolean) :: GW) ({ frames := 0, cells := 0, slots := 0, locals := 0 }) [.int x] M (fun v M' => v = some (.int (sp_M_isCell x)) ∧ M' = M) := by
  refine MC.of (cc := prog_8_method_5_code) (nL := 1) (ret := (Option.some Jvm.ClassFile.FieldType.boolean)) (lv := [(0, .int x)]) (by decide) rfl (Nat.le_of_ble_eq_true rfl) rfl ?_
  intro p e s m below meth c X hr hlk hnm hK
  refine V.rd (pc' := 1) (fun hl => lv_iload_n X.1 X.2.1 d_Model_isCell_0 rfl (lv_at hl 0 rfl)) ?_
  refine V.br (pc' := 4) (tgt := 14) (P := x < 0) (lv_if_lt X.1 X.2.1 d_Model_isCell_1 (by decide)) (fun c_1 => ?_) (fun c_1 => ?_)
  · have i_2 := Int32.lt_iff_toInt_lt.mp c_1
    rw [show (0 : Int32).toInt = 0 from rfl] at i_2
    refine V.go (pc' := 15) (lv_iconst (v := 0) X.1 X.2.1 d_Model_isCell_14 (by decide)) ?_
    exact V.zret X hr hlk rfl ⟨(by simp only [sp_M_isCell, if_pos c_1]), rfl⟩ d_Model_isCell_15
  · have i_3 := mt Int32.lt_iff_toInt_lt.mpr c_1
    rw [show (0 : Int32).toInt = 0 from rfl] at i_3
    refine V.rd (pc' := 5) (fun hl => lv_iload_n X.1 X.2.1 d_Model_isCell_4 rfl (lv_at hl 0 rfl)) ?_
    refine V.go (pc' := 7) (lv_bipush (v := 16) X.1 X.2.1 d_Model_isCell_5 (by decide)) ?_
    refine V.br (pc' := 10) (tgt := 14) (P := 16 ≤ x) (lv_icmp_ge X.1 X.2.1 d_Model_isCell_7 (by decide)) (fun c_4 => ?_) (fun c_4 => ?_)
    · have i_5 := Int32.le_iff_toInt_le.mp c_4
      rw [show (16 : Int32).toInt = 16 from rfl] at i_5
      refine V.go (pc' := 15) (lv_iconst (v := 0) X.1 X.2.1 d_Model_isCell_14 (by decide)) ?_
      exact V.zret X hr hlk rfl ⟨(by simp only [sp_M_isCell, if_neg c_1, if_pos c_4]), rfl⟩ d_Model_isCell_15
    · have i_6 := mt Int32.le_iff_toInt_le.mpr c_4
      rw [show (16 : Int32).toInt = 16 from rfl] at i_6
      refine V.go (pc' := 11) (lv_iconst (v := 1) X.1 X.2.1 d_Model_isCell_10 (by decide)) ?_
      refine V.go (pc' := 15) (lv_goto X.1 X.2.1 d_Model_isCell_11 (by decide)) ?_
      exact V.zret X hr hlk rfl ⟨(by simp only [sp_M_isCell, if_neg c_1, if_neg c_4]), rfl⟩ d_Model_isCell_15

theorem M_isCell_ne {x : Int32} (h : ¬ sp_M_isCell x = 0) : 0 ≤ x.toInt ∧ x.toInt < 16 := by
  unfold sp_M_isCell at h
  have k0 : (0 : Int32).toInt = 0 := rfl
  have k16 : (16 : Int32).toInt = 16 := rfl
  by_cases h1 : x < 0
  · rw [if_pos h1] at h
    exact absurd rfl h
  · rw [if_neg h1] at h
    by_cases h2 : 16 ≤ x
    · rw [if_pos h2] at h
      exact absurd rfl h
    · have a1 := mt Int32.lt_iff_toInt_lt.mpr h1
      have a2 := mt Int32.le_iff_toInt_le.mpr h2
      refine ⟨?_, ?_⟩ <;> omega

theorem d_Model_paragraph_0 : decode prog_8_method_6_code 0 = .ok (.aload_n 0, 1) := by decide +kernel
theorem d_Model_paragraph_1 : decode prog_8_method_6_code 1 = .ok (.iconst 0, 1) := by decide +kernel
theorem d_Model_paragraph_2 : decode prog_8_method_6_code 2 = .ok (.putfield 82, 3) := by decide +kernel
theorem d_Model_paragraph_5 : decode prog_8_method_6_code 5 = .ok (.iload_n 1, 1) := by decide +kernel
theorem d_Model_paragraph_6 : decode prog_8_method_6_code 6 = .ok (.ifCond .lt 20, 3) := by decide +kernel
theorem d_Model_paragraph_9 : decode prog_8_method_6_code 9 = .ok (.iload_n 1, 1) := by decide +kernel
theorem d_Model_paragraph_10 : decode prog_8_method_6_code 10 = .ok (.bipush 8, 2) := by decide +kernel
theorem d_Model_paragraph_12 : decode prog_8_method_6_code 12 = .ok (.irem, 1) := by decide +kernel
theorem d_Model_paragraph_13 : decode prog_8_method_6_code 13 = .ok (.iconst 4, 1) := by decide +kernel
theorem d_Model_paragraph_14 : decode prog_8_method_6_code 14 = .ok (.if_icmp .gt 12, 3) := by decide +kernel
theorem d_Model_paragraph_17 : decode prog_8_method_6_code 17 = .ok (.aload_n 0, 1) := by decide +kernel
theorem d_Model_paragraph_18 : decode prog_8_method_6_code 18 = .ok (.getfield 85, 3) := by decide +kernel
theorem d_Model_paragraph_21 : decode prog_8_method_6_code 21 = .ok (.bipush 60, 2) := by decide +kernel
theorem d_Model_paragraph_23 : decode prog_8_method_6_code 23 = .ok (.if_icmp .ne 5, 3) := by decide +kernel
theorem d_Model_paragraph_26 : decode prog_8_method_6_code 26 = .ok (.iconst (-1), 1) := by decide +kernel
theorem d_Model_paragraph_27 : decode prog_8_method_6_code 27 = .ok (.ireturn, 1) := by decide +kernel
theorem d_Model_paragraph_28 : decode prog_8_method_6_code 28 = .ok (.aload_n 0, 1) := by decide +kernel
theorem d_Model_paragraph_29 : decode prog_8_method_6_code 29 = .ok (.dup, 1) := by decide +kernel
theorem d_Model_paragraph_30 : decode prog_8_method_6_code 30 = .ok (.getfield 85, 3) := by decide +kernel
theorem d_Model_paragraph_33 : decode prog_8_method_6_code 33 = .ok (.iconst 1, 1) := by decide +kernel
theorem d_Model_paragraph_34 : decode prog_8_method_6_code 34 = .ok (.iadd, 1) := by decide +kernel
theorem d_Model_paragraph_35 : decode prog_8_method_6_code 35 = .ok (.putfield 85, 3) := by decide +kernel
theorem d_Model_paragraph_38 : decode prog_8_method_6_code 38 = .ok (.aload_n 0, 1) := by decide +kernel
theorem d_Model_paragraph_39 : decode prog_8_method_6_code 39 = .ok (.getfield 16, 3) := by decide +kernel
theorem d_Model_paragraph_42 : decode prog_8_method_6_code 42 = .ok (.aload_n 0, 1) := by decide +kernel
theorem d_Model_paragraph_43 : decode prog_8_method_6_code 43 = .ok (.getfield 85, 3) := by decide +kernel
theorem d_Model_paragraph_46 : decode prog_8_method_6_code 46 = .ok (.iload_n 1, 1) := by decide +kernel
theorem d_Model_paragraph_47 : decode prog_8_method_6_code 47 = .ok (.iastore, 1) := by decide +kernel
theorem d_Model_paragraph_48 : decode prog_8_method_6_code 48 = .ok (.aload_n 0, 1) := by decide +kernel
theorem d_Model_paragraph_49 : decode prog_8_method_6_code 49 = .ok (.getfield 85, 3) := by decide +kernel
theorem d_Model_paragraph_52 : decode prog_8_method_6_code 52 = .ok (.ireturn, 1) := by decide +kernel

def sp_M_paragraph (np : Int32) (x : Int32) : Int32 := if x < 0 then (-1) else if 4 < (x - x / 8 * 8) then (-1) else if np = 60 then (-1) else np + 1
def sp_M_paragraph_mo_3 (np : Int32) (x : Int32) : Int32 := if x < 0 then np else if 4 < (x - x / 8 * 8) then np else if np = 60 then np else np + 1
def sp_M_paragraph_ad5 (np : Int32) (vdoes : Nat → Int32) (x : Int32) : Nat → Int32 := if x < 0 then vdoes else if 4 < (x - x / 8 * 8) then vdoes else if np = 60 then vdoes else upd vdoes (np + 1).toNatClampNeg x
set_option maxHeartbeats 4000000 in
set_option maxRecDepth 100000 in
theorem c_M_paragraph {l : Launch} {H0 : Heap} {D : va_G} {cI cL cQ cB : ClassId} {M : mp} {mo : Nat} {ad : Nat → Nat} (hinj : ∀ i j : Nat, i < 33 → j < 33 → ad i = ad j → i = j) {xcode : Int32} {np : Int32} {ns : Int32} {xsize : Int32} {xmost : Int32} {xend : Int32} {xran : Int32} {yend : Int32} {ysize : Int32} {ymost : Int32} {yran : Int32} {vdoes : Nat → Int32} {x : Int32} (hnp : 0 ≤ np.toInt ∧ np.toInt ≤ 60) (gh0 : M mo = some (.inr (6, [.int xcode, .ref (ad 1), .ref (ad 2), .int np, .int ns, .ref (ad 5), .ref (ad 6), .ref (ad 7), .ref (ad 8), .ref (ad 9), .ref (ad 10), .ref (ad 11), .ref (ad 12), .ref (ad 13), .ref (ad 14), .ref (ad 15), .ref (ad 16), .ref (ad 17), .ref (ad 18), .ref (ad 19), .ref (ad 20), .ref (ad 21), .int xsize, .int xmost, .int xend, .int xran, .ref (ad 26), .int yend, .int ysize, .int ymost, .int yran, .ref (ad 31), .ref (ad 32)]))) (gh1 : M (ad 5) = some (.inl (cI, 61, .inl vdoes))) : MC l H0 D cls7 (tysOf cI cL cQ cB) NW ({ cls := "PerformRangesModel", name := "paragraph", desc := "(I)I" } : Jvm.MethodName) (Cond.code ({ cls := "PerformRangesModel", name := "paragraph", desc := "(I)I" } : Jvm.MethodName) prog_8_method_6_code 2 (Option.some Jvm.ClassFile.FieldType.int) :: GW) ({ frames := 0, cells := 0, slots := 0, locals := 0 }) [.ref mo, .int x] M (fun v M' => v = some (.int (sp_M_paragraph np x)) ∧ M' mo = some (.inr (6, [.int 0, .ref (ad 1), .ref (ad 2), .int (sp_M_paragraph_mo_3 np x), .int ns, .ref (ad 5), .ref (ad 6), .ref (ad 7), .ref (ad 8), .ref (ad 9), .ref (ad 10), .ref (ad 11), .ref (ad 12), .ref (ad 13), .ref (ad 14), .ref (ad 15), .ref (ad 16), .ref (ad 17), .ref (ad 18), .ref (ad 19), .ref (ad 20), .ref (ad 21), .int xsize, .int xmost, .int xend, .int xran, .ref (ad 26), .int yend, .int ysize, .int ymost, .int yran, .ref (ad 31), .ref (ad 32)])) ∧ M' (ad 5) = some (.inl (cI, 61, .inl (sp_M_paragraph_ad5 np vdoes x))) ∧ (∀ q, q ≠ mo → q ≠ (ad 5) → M' q = M q)) := by
  refine MC.of (cc := prog_8_method_6_code) (nL := 2) (ret := (Option.some Jvm.ClassFile.FieldType.int)) (lv := [(0, .ref mo), (1, .int x)]) (by decide) rfl (Nat.le_of_ble_eq_true rfl) rfl ?_
  intro p e s m below meth c X hr hlk hnm hK
  refine V.rd (pc' := 1) (fun hl => lv_aload_n X.1 X.2.1 d_Model_paragraph_0 rfl (lv_at hl 0 rfl)) ?_
  refine V.go (pc' := 2) (lv_iconst (v := 0) X.1 X.2.1 d_Model_paragraph_1 (by decide)) ?_
  refine V.put (pc' := 5) X hK gh0 uw_Model t_Model tok_Model nm_Model rfl 0 (by decide) (mcs wd_167) rfl rfl rfl (Nat.le_of_ble_eq_true rfl) (fs' := [.int 0, .ref (ad 1), .ref (ad 2), .int np, .int ns, .ref (ad 5), .ref (ad 6), .ref (ad 7), .ref (ad 8), .ref (ad 9), .ref (ad 10), .ref (ad 11), .ref (ad 12), .ref (ad 13), .ref (ad 14), .ref (ad 15), .ref (ad 16), .ref (ad 17), .ref (ad 18), .ref (ad 19), .ref (ad 20), .ref (ad 21), .int xsize, .int xmost, .int xend, .int xran, .ref (ad 26), .int yend, .int ysize, .int ymost, .int yran, .ref (ad 31), .ref (ad 32)]) rfl d_Model_paragraph_2 rfl (fun M_1 h_2 fr_3 => ?_)
  have h_4 : M_1 (ad 5) = some (.inl (cI, 61, .inl vdoes)) := (fr_3 _ (ne_k gh1 gh0 (i := 1061) (j := 6) rfl rfl (by decide))).trans gh1
  refine V.rd (pc' := 6) (fun hl => lv_iload_n X.1 X.2.1 d_Model_paragraph_5 rfl (lv_at hl 1 rfl)) ?_
  refine V.br (pc' := 9) (tgt := 26) (P := x < 0) (lv_if_lt X.1 X.2.1 d_Model_paragraph_6 (by decide)) (fun c_5 => ?_) (fun c_5 => ?_)
  · have i_6 := Int32.lt_iff_toInt_lt.mp c_5
    rw [show (0 : Int32).toInt = 0 from rfl] at i_6
    refine V.go (pc' := 27) (lv_iconst (v := (-1)) X.1 X.2.1 d_Model_paragraph_26 (by decide)) ?_
    exact V.iret X hr hlk ⟨(by simp only [sp_M_paragraph, if_pos c_5]), (by simp only [sp_M_paragraph_mo_3, if_pos c_5]; exact h_2), (by simp only [sp_M_paragraph_ad5, if_pos c_5]; exact h_4), (fun q n0_ n1_ => (fr_3 q n0_))⟩ d_Model_paragraph_27
  · have i_7 := mt Int32.lt_iff_toInt_lt.mpr c_5
    rw [show (0 : Int32).toInt = 0 from rfl] at i_7
    refine V.rd (pc' := 10) (fun hl => lv_iload_n X.1 X.2.1 d_Model_paragraph_9 rfl (lv_at hl 1 rfl)) ?_
    refine V.go (pc' := 12) (lv_bipush (v := 8) X.1 X.2.1 d_Model_paragraph_10 (by decide)) ?_
    refine V.go (pc' := 13) (lv_irem X.1 X.2.1 d_Model_paragraph_12 (by decide)) ?_
    refine V.go (pc' := 14) (lv_iconst (v := 4) X.1 X.2.1 d_Model_paragraph_13 (by decide)) ?_
    refine V.br (pc' := 17) (tgt := 26) (P := 4 < (x - x / 8 * 8)) (lv_icmp_gt X.1 X.2.1 d_Model_paragraph_14 (by decide)) (fun c_8 => ?_) (fun c_8 => ?_)
    · have i_9 := Int32.lt_iff_toInt_lt.mp c_8
      rw [show (4 : Int32).toInt = 4 from rfl] at i_9
      refine V.go (pc' := 27) (lv_iconst (v := (-1)) X.1 X.2.1 d_Model_paragraph_26 (by decide)) ?_
      exact V.iret X hr hlk ⟨(by simp only [sp_M_paragraph, if_neg c_5, if_pos c_8]), (by simp only [sp_M_paragraph_mo_3, if_neg c_5, if_pos c_8]; exact h_2), (by simp only [sp_M_paragraph_ad5, if_neg c_5, if_pos c_8]; exact h_4), (fun q n0_ n1_ => (fr_3 q n0_))⟩ d_Model_paragraph_27
    · have i_10 := mt Int32.lt_iff_toInt_lt.mpr c_8
      rw [show (4 : Int32).toInt = 4 from rfl] at i_10
      refine V.rd (pc' := 18) (fun hl => lv_aload_n X.1 X.2.1 d_Model_paragraph_17 rfl (lv_at hl 0 rfl)) ?_
      refine V.get (pc' := 21) X hK h_2 uw_Model rfl 3 (by decide) (mcs wd_168) rfl d_Model_paragraph_18 rfl ?_
      refine V.go (pc' := 23) (lv_bipush (v := 60) X.1 X.2.1 d_Model_paragraph_21 (by decide)) ?_
      refine V.bn (pc' := 26) (tgt := 28) (P := np = 60) (lv_icmp_ne X.1 X.2.1 d_Model_paragraph_23 (by decide)) (fun c_11 => ?_) (fun c_11 => ?_)
      · have i_12 := congrArg Int32.toInt c_11
        rw [show (60 : Int32).toInt = 60 from rfl] at i_12
        refine V.go (pc' := 27) (lv_iconst (v := (-1)) X.1 X.2.1 d_Model_paragraph_26 (by decide)) ?_
        exact V.iret X hr hlk ⟨(by simp only [sp_M_paragraph, if_neg c_5, if_neg c_8, if_pos c_11]), (by simp only [sp_M_paragraph_mo_3, if_neg c_5, if_neg c_8, if_pos c_11]; exact h_2), (by simp only [sp_M_paragraph_ad5, if_neg c_5, if_neg c_8, if_pos c_11]; exact h_4), (fun q n0_ n1_ => (fr_3 q n0_))⟩ d_Model_paragraph_27
      · have i_13 := mt Int32.toInt_inj.mp c_11
        rw [show (60 : Int32).toInt = 60 from rfl] at i_13
        refine V.rd (pc' := 29) (fun hl => lv_aload_n X.1 X.2.1 d_Model_paragraph_28 rfl (lv_at hl 0 rfl)) ?_
        refine V.go (pc' := 30) (lv_dup X.1 X.2.1 d_Model_paragraph_29 rfl) ?_
        refine V.get (pc' := 33) X hK h_2 uw_Model rfl 3 (by decide) (mcs wd_168) rfl d_Model_paragraph_30 rfl ?_
        refine V.go (pc' := 34) (lv_iconst (v := 1) X.1 X.2.1 d_Model_paragraph_33 (by decide)) ?_
        refine V.go (pc' := 35) (lv_iadd X.1 X.2.1 d_Model_paragraph_34) ?_
        have s_14 : (np + 1).toInt = np.toInt + 1 := i32_add1 (by omega)
        refine V.put (pc' := 38) X hK h_2 uw_Model t_Model tok_Model nm_Model rfl 3 (by decide) (mcs wd_168) rfl rfl rfl (Nat.le_of_ble_eq_true rfl) (fs' := [.int 0, .ref (ad 1), .ref (ad 2), .int (np + 1), .int ns, .ref (ad 5), .ref (ad 6), .ref (ad 7), .ref (ad 8), .ref (ad 9), .ref (ad 10), .ref (ad 11), .ref (ad 12), .ref (ad 13), .ref (ad 14), .ref (ad 15), .ref (ad 16), .ref (ad 17), .ref (ad 18), .ref (ad 19), .ref (ad 20), .ref (ad 21), .int xsize, .int xmost, .int xend, .int xran, .ref (ad 26), .int yend, .int ysize, .int ymost, .int yran, .ref (ad 31), .ref (ad 32)]) rfl d_Model_paragraph_35 rfl (fun M_15 h_16 fr_17 => ?_)
        have h_18 : M_15 (ad 5) = some (.inl (cI, 61, .inl vdoes)) := (fr_17 _ (ne_k h_4 h_2 (i := 1061) (j := 6) rfl rfl (by decide))).trans h_4
        refine V.rd (pc' := 39) (fun hl => lv_aload_n X.1 X.2.1 d_Model_paragraph_38 rfl (lv_at hl 0 rfl)) ?_
        refine V.get (pc' := 42) X hK h_16 uw_Model rfl 5 (by decide) (mcs wd_170) rfl d_Model_paragraph_39 rfl ?_
        refine V.rd (pc' := 43) (fun hl => lv_aload_n X.1 X.2.1 d_Model_paragraph_42 rfl (lv_at hl 0 rfl)) ?_
        refine V.get (pc' := 46) X hK h_16 uw_Model rfl 3 (by decide) (mcs wd_168) rfl d_Model_paragraph_43 rfl ?_
        refine V.rd (pc' := 47) (fun hl => lv_iload_n X.1 X.2.1 d_Model_paragraph_46 rfl (lv_at hl 1 rfl)) ?_
        refine V.iast (pc' := 48) X hK 0 h_18 rfl (vin (by omega) (by omega)) d_Model_paragraph_47 rfl (fun M_19 h_20 fr_21 => ?_)
        have h_22 : M_19 mo = some (.inr (6, [.int 0, .ref (ad 1), .ref (ad 2), .int (np + 1), .int ns, .ref (ad 5), .ref (ad 6), .ref (ad 7), .ref (ad 8), .ref (ad 9), .ref (ad 10), .ref (ad 11), .ref (ad 12), .ref (ad 13), .ref (ad 14), .ref (ad 15), .ref (ad 16), .ref (ad 17), .ref (ad 18), .ref (ad 19), .ref (ad 20), .ref (ad 21), .int xsize, .int xmost, .int xend, .int xran, .ref (ad 26), .int yend, .int ysize, .int ymost, .int yran, .ref (ad 31), .ref (ad 32)])) := (fr_21 _ (ne_k h_16 h_18 (i := 6) (j := 1061) rfl rfl (by decide))).trans h_16
        refine V.rd (pc' := 49) (fun hl => lv_aload_n X.1 X.2.1 d_Model_paragraph_48 rfl (lv_at hl 0 rfl)) ?_
        refine V.get (pc' := 52) X hK h_22 uw_Model rfl 3 (by decide) (mcs wd_168) rfl d_Model_paragraph_49 rfl ?_
        exact V.iret X hr hlk ⟨(by simp only [sp_M_paragraph, if_neg c_5, if_neg c_8, if_neg c_11]), (by simp only [sp_M_paragraph_mo_3, if_neg c_5, if_neg c_8, if_neg c_11]; exact h_22), (by simp only [sp_M_paragraph_ad5, if_neg c_5, if_neg c_8, if_neg c_11]; exact h_20), (fun q n0_ n1_ => (fr_21 q n1_).trans ((fr_17 q n0_).trans ((fr_3 q n0_))))⟩ d_Model_paragraph_52

theorem d_Model_perform_0 : decode prog_8_method_7_code 0 = .ok (.aload_n 0, 1) := by decide +kernel
theorem d_Model_perform_1 : decode prog_8_method_7_code 1 = .ok (.iconst 0, 1) := by decide +kernel
theorem d_Model_perform_2 : decode prog_8_method_7_code 2 = .ok (.putfield 82, 3) := by decide +kernel
theorem d_Model_perform_5 : decode prog_8_method_7_code 5 = .ok (.aload_n 0, 1) := by decide +kernel
theorem d_Model_perform_6 : decode prog_8_method_7_code 6 = .ok (.iload_n 1, 1) := by decide +kernel
theorem d_Model_perform_7 : decode prog_8_method_7_code 7 = .ok (.invokevirtual 91, 3) := by decide +kernel
theorem d_Model_perform_10 : decode prog_8_method_7_code 10 = .ok (.ifCond .eq 29, 3) := by decide +kernel
theorem d_Model_perform_13 : decode prog_8_method_7_code 13 = .ok (.aload_n 0, 1) := by decide +kernel
theorem d_Model_perform_14 : decode prog_8_method_7_code 14 = .ok (.iload_n 2, 1) := by decide +kernel
theorem d_Model_perform_15 : decode prog_8_method_7_code 15 = .ok (.invokevirtual 91, 3) := by decide +kernel
theorem d_Model_perform_18 : decode prog_8_method_7_code 18 = .ok (.ifCond .eq 21, 3) := by decide +kernel
theorem d_Model_perform_21 : decode prog_8_method_7_code 21 = .ok (.iload_n 3, 1) := by decide +kernel
theorem d_Model_perform_22 : decode prog_8_method_7_code 22 = .ok (.ifCond .lt 17, 3) := by decide +kernel
theorem d_Model_perform_25 : decode prog_8_method_7_code 25 = .ok (.iload_n 3, 1) := by decide +kernel
theorem d_Model_perform_26 : decode prog_8_method_7_code 26 = .ok (.iconst 3, 1) := by decide +kernel
theorem d_Model_perform_27 : decode prog_8_method_7_code 27 = .ok (.if_icmp .gt 12, 3) := by decide +kernel
theorem d_Model_perform_30 : decode prog_8_method_7_code 30 = .ok (.aload_n 0, 1) := by decide +kernel
theorem d_Model_perform_31 : decode prog_8_method_7_code 31 = .ok (.getfield 88, 3) := by decide +kernel
theorem d_Model_perform_34 : decode prog_8_method_7_code 34 = .ok (.bipush 60, 2) := by decide +kernel
theorem d_Model_perform_36 : decode prog_8_method_7_code 36 = .ok (.if_icmp .ne 5, 3) := by decide +kernel
theorem d_Model_perform_39 : decode prog_8_method_7_code 39 = .ok (.iconst (-1), 1) := by decide +kernel
theorem d_Model_perform_40 : decode prog_8_method_7_code 40 = .ok (.ireturn, 1) := by decide +kernel
theorem d_Model_perform_41 : decode prog_8_method_7_code 41 = .ok (.aload_n 0, 1) := by decide +kernel
theorem d_Model_perform_42 : decode prog_8_method_7_code 42 = .ok (.dup, 1) := by decide +kernel
theorem d_Model_perform_43 : decode prog_8_method_7_code 43 = .ok (.getfield 88, 3) := by decide +kernel
theorem d_Model_perform_46 : decode prog_8_method_7_code 46 = .ok (.iconst 1, 1) := by decide +kernel
theorem d_Model_perform_47 : decode prog_8_method_7_code 47 = .ok (.iadd, 1) := by decide +kernel
theorem d_Model_perform_48 : decode prog_8_method_7_code 48 = .ok (.putfield 88, 3) := by decide +kernel
theorem d_Model_perform_51 : decode prog_8_method_7_code 51 = .ok (.aload_n 0, 1) := by decide +kernel
theorem d_Model_perform_52 : decode prog_8_method_7_code 52 = .ok (.getfield 23, 3) := by decide +kernel
theorem d_Model_perform_55 : decode prog_8_method_7_code 55 = .ok (.aload_n 0, 1) := by decide +kernel
theorem d_Model_perform_56 : decode prog_8_method_7_code 56 = .ok (.getfield 88, 3) := by decide +kernel
theorem d_Model_perform_59 : decode prog_8_method_7_code 59 = .ok (.iload_n 1, 1) := by decide +kernel
theorem d_Model_perform_60 : decode prog_8_method_7_code 60 = .ok (.iastore, 1) := by decide +kernel
theorem d_Model_perform_61 : decode prog_8_method_7_code 61 = .ok (.aload_n 0, 1) := by decide +kernel
theorem d_Model_perform_62 : decode prog_8_method_7_code 62 = .ok (.getfield 26, 3) := by decide +kernel
theorem d_Model_perform_65 : decode prog_8_method_7_code 65 = .ok (.aload_n 0, 1) := by decide +kernel
theorem d_Model_perform_66 : decode prog_8_method_7_code 66 = .ok (.getfield 88, 3) := by decide +kernel
theorem d_Model_perform_69 : decode prog_8_method_7_code 69 = .ok (.iload_n 2, 1) := by decide +kernel
theorem d_Model_perform_70 : decode prog_8_method_7_code 70 = .ok (.iastore, 1) := by decide +kernel
theorem d_Model_perform_71 : decode prog_8_method_7_code 71 = .ok (.aload_n 0, 1) := by decide +kernel
theorem d_Model_perform_72 : decode prog_8_method_7_code 72 = .ok (.getfield 29, 3) := by decide +kernel
theorem d_Model_perform_75 : decode prog_8_method_7_code 75 = .ok (.aload_n 0, 1) := by decide +kernel
theorem d_Model_perform_76 : decode prog_8_method_7_code 76 = .ok (.getfield 88, 3) := by decide +kernel
theorem d_Model_perform_79 : decode prog_8_method_7_code 79 = .ok (.iload_n 3, 1) := by decide +kernel
theorem d_Model_perform_80 : decode prog_8_method_7_code 80 = .ok (.iastore, 1) := by decide +kernel
theorem d_Model_perform_81 : decode prog_8_method_7_code 81 = .ok (.aload_n 0, 1) := by decide +kernel
theorem d_Model_perform_82 : decode prog_8_method_7_code 82 = .ok (.getfield 32, 3) := by decide +kernel
theorem d_Model_perform_85 : decode prog_8_method_7_code 85 = .ok (.aload_n 0, 1) := by decide +kernel
theorem d_Model_perform_86 : decode prog_8_method_7_code 86 = .ok (.getfield 88, 3) := by decide +kernel
theorem d_Model_perform_89 : decode prog_8_method_7_code 89 = .ok (.iload 4, 2) := by decide +kernel
theorem d_Model_perform_91 : decode prog_8_method_7_code 91 = .ok (.iastore, 1) := by decide +kernel
theorem d_Model_perform_92 : decode prog_8_method_7_code 92 = .ok (.aload_n 0, 1) := by decide +kernel
theorem d_Model_perform_93 : decode prog_8_method_7_code 93 = .ok (.getfield 88, 3) := by decide +kernel
theorem d_Model_perform_96 : decode prog_8_method_7_code 96 = .ok (.ireturn, 1) := by decide +kernel

def sp_M_perform (np : Int32) (ns : Int32) (x : Int32) (y : Int32) (kd : Int32) : Int32 := if (sp_M_isParagraph np x) = 0 then (-1) else if (sp_M_isParagraph np y) = 0 then (-1) else if kd < 0 then (-1) else if 3 < kd then (-1) else if ns = 60 then (-1) else ns + 1
def sp_M_perform_mo_4 (np : Int32) (ns : Int32) (x : Int32) (y : Int32) (kd : Int32) : Int32 := if (sp_M_isParagraph np x) = 0 then ns else if (sp_M_isParagraph np y) = 0 then ns else if kd < 0 then ns else if 3 < kd then ns else if ns = 60 then ns else ns + 1
def sp_M_perform_ad7 (np : Int32) (ns : Int32) (vfrom : Nat → Int32) (x : Int32) (y : Int32) (kd : Int32) : Nat → Int32 := if (sp_M_isParagraph np x) = 0 then vfrom else if (sp_M_isParagraph np y) = 0 then vfrom else if kd < 0 then vfrom else if 3 < kd then vfrom else if ns = 60 then vfrom else upd vfrom (ns + 1).toNatClampNeg x
def sp_M_perform_ad8 (np : Int32) (ns : Int32) (vto : Nat → Int32) (x : Int32) (y : Int32) (kd : Int32) : Nat → Int32 := if (sp_M_isParagraph np x) = 0 then vto else if (sp_M_isParagraph np y) = 0 then vto else if kd < 0 then vto else if 3 < kd then vto else if ns = 60 then vto else upd vto (ns + 1).toNatClampNeg y
def sp_M_perform_ad9 (np : Int32) (ns : Int32) (vkind : Nat → Int32) (x : Int32) (y : Int32) (kd : Int32) : Nat → Int32 := if (sp_M_isParagraph np x) = 0 then vkind else if (sp_M_isParagraph np y) = 0 then vkind else if kd < 0 then vkind else if 3 < kd then vkind else if ns = 60 then vkind else upd vkind (ns + 1).toNatClampNeg kd
def sp_M_perform_ad10 (np : Int32) (ns : Int32) (vtimes : Nat → Int32) (x : Int32) (y : Int32) (kd : Int32) (tm : Int32) : Nat → Int32 := if (sp_M_isParagraph np x) = 0 then vtimes else if (sp_M_isParagraph np y) = 0 then vtimes else if kd < 0 then vtimes else if 3 < kd then vtimes else if ns = 60 then vtimes else upd vtimes (ns + 1).toNatClampNeg tm
set_option maxHeartbeats 4000000 in
set_option maxRecDepth 100000 in
theorem c_M_perform {l : Launch} {H0 : Heap} {D : va_G} {cI cL cQ cB : ClassId} {M : mp} {mo : Nat} {ad : Nat → Nat} (hinj : ∀ i j : Nat, i < 33 → j < 33 → ad i = ad j → i = j) {xcode : Int32} {np : Int32} {ns : Int32} {xsize : Int32} {xmost : Int32} {xend : Int32} {xran : Int32} {yend : Int32} {ysize : Int32} {ymost : Int32} {yran : Int32} {vfrom : Nat → Int32} {vto : Nat → Int32} {vkind : Nat → Int32} {vtimes : Nat → Int32} {x : Int32} {y : Int32} {kd : Int32} {tm : Int32} (hns : 0 ≤ ns.toInt ∧ ns.toInt ≤ 60) (gh0 : M mo = some (.inr (6, [.int xcode, .ref (ad 1), .ref (ad 2), .int np, .int ns, .ref (ad 5), .ref (ad 6), .ref (ad 7), .ref (ad 8), .ref (ad 9), .ref (ad 10), .ref (ad 11), .ref (ad 12), .ref (ad 13), .ref (ad 14), .ref (ad 15), .ref (ad 16), .ref (ad 17), .ref (ad 18), .ref (ad 19), .ref (ad 20), .ref (ad 21), .int xsize, .int xmost, .int xend, .int xran, .ref (ad 26), .int yend, .int ysize, .int ymost, .int yran, .ref (ad 31), .ref (ad 32)]))) (gh1 : M (ad 7) = some (.inl (cI, 61, .inl vfrom))) (gh2 : M (ad 8) = some (.inl (cI, 61, .inl vto))) (gh3 : M (ad 9) = some (.inl (cI, 61, .inl vkind))) (gh4 : M (ad 10) = some (.inl (cI, 61, .inl vtimes))) : MC l H0 D cls7 (tysOf cI cL cQ cB) NW ({ cls := "PerformRangesModel", name := "perform", desc := "(IIII)I" } : Jvm.MethodName) (Cond.code ({ cls := "PerformRangesModel", name := "perform", desc := "(IIII)I" } : Jvm.MethodName) prog_8_method_7_code 5 (Option.some Jvm.ClassFile.FieldType.int) :: GW) ({ frames := 1, cells := 0, slots := 0, locals := 21 }) [.ref mo, .int x, .int y, .int kd, .int tm] M (fun v M' => v = some (.int (sp_M_perform np ns x y kd)) ∧ M' mo = some (.inr (6, [.int 0, .ref (ad 1), .ref (ad 2), .int np, .int (sp_M_perform_mo_4 np ns x y kd), .ref (ad 5), .ref (ad 6), .ref (ad 7), .ref (ad 8), .ref (ad 9), .ref (ad 10), .ref (ad 11), .ref (ad 12), .ref (ad 13), .ref (ad 14), .ref (ad 15), .ref (ad 16), .ref (ad 17), .ref (ad 18), .ref (ad 19), .ref (ad 20), .ref (ad 21), .int xsize, .int xmost, .int xend, .int xran, .ref (ad 26), .int yend, .int ysize, .int ymost, .int yran, .ref (ad 31), .ref (ad 32)])) ∧ M' (ad 7) = some (.inl (cI, 61, .inl (sp_M_perform_ad7 np ns vfrom x y kd))) ∧ M' (ad 8) = some (.inl (cI, 61, .inl (sp_M_perform_ad8 np ns vto x y kd))) ∧ M' (ad 9) = some (.inl (cI, 61, .inl (sp_M_perform_ad9 np ns vkind x y kd))) ∧ M' (ad 10) = some (.inl (cI, 61, .inl (sp_M_perform_ad10 np ns vtimes x y kd tm))) ∧ (∀ q, q ≠ mo → q ≠ (ad 7) → q ≠ (ad 8) → q ≠ (ad 9) → q ≠ (ad 10) → M' q = M q)) := by
  refine MC.of (cc := prog_8_method_7_code) (nL := 5) (ret := (Option.some Jvm.ClassFile.FieldType.int)) (lv := [(0, .ref mo), (1, .int x), (2, .int y), (3, .int kd), (4, .int tm)]) (by decide) rfl (Nat.le_of_ble_eq_true rfl) rfl ?_
  intro p e s m below meth c X hr hlk hnm hK
  refine V.rd (pc' := 1) (fun hl => lv_aload_n X.1 X.2.1 d_Model_perform_0 rfl (lv_at hl 0 rfl)) ?_
  refine V.go (pc' := 2) (lv_iconst (v := 0) X.1 X.2.1 d_Model_perform_1 (by decide)) ?_
  refine V.put (pc' := 5) X hK gh0 uw_Model t_Model tok_Model nm_Model rfl 0 (by decide) (mcs wd_167) rfl rfl rfl (Nat.le_of_ble_eq_true rfl) (fs' := [.int 0, .ref (ad 1), .ref (ad 2), .int np, .int ns, .ref (ad 5), .ref (ad 6), .ref (ad 7), .ref (ad 8), .ref (ad 9), .ref (ad 10), .ref (ad 11), .ref (ad 12), .ref (ad 13), .ref (ad 14), .ref (ad 15), .ref (ad 16), .ref (ad 17), .ref (ad 18), .ref (ad 19), .ref (ad 20), .ref (ad 21), .int xsize, .int xmost, .int xend, .int xran, .ref (ad 26), .int yend, .int ysize, .int ymost, .int yran, .ref (ad 31), .ref (ad 32)]) rfl d_Model_perform_2 rfl (fun M_1 h_2 fr_3 => ?_)
  have h_4 : M_1 (ad 7) = some (.inl (cI, 61, .inl vfrom)) := (fr_3 _ (ne_k gh1 gh0 (i := 1061) (j := 6) rfl rfl (by decide))).trans gh1
  have h_5 : M_1 (ad 8) = some (.inl (cI, 61, .inl vto)) := (fr_3 _ (ne_k gh2 gh0 (i := 1061) (j := 6) rfl rfl (by decide))).trans gh2
  have h_6 : M_1 (ad 9) = some (.inl (cI, 61, .inl vkind)) := (fr_3 _ (ne_k gh3 gh0 (i := 1061) (j := 6) rfl rfl (by decide))).trans gh3
  have h_7 : M_1 (ad 10) = some (.inl (cI, 61, .inl vtimes)) := (fr_3 _ (ne_k gh4 gh0 (i := 1061) (j := 6) rfl rfl (by decide))).trans gh4
  refine V.rd (pc' := 6) (fun hl => lv_aload_n X.1 X.2.1 d_Model_perform_5 rfl (lv_at hl 0 rfl)) ?_
  refine V.rd (pc' := 7) (fun hl => lv_iload_n X.1 X.2.1 d_Model_perform_6 rfl (lv_at hl 1 rfl)) ?_
  refine V.callV0 (pc' := 10) X hK (c_M_isParagraph hinj (mo := mo) (xcode := 0) (np := np) (ns := ns) (xsize := xsize) (xmost := xmost) (xend := xend) (xran := xran) (yend := yend) (ysize := ysize) (ymost := ymost) (yran := yran) (x := x)   h_2  ) h_2 rfl (cwG (n := 1) X (mcs wd_171) (mcs wd_172) (mcs wd_173) (mcs wd_174) wd_175 (by decide +kernel) (by decide) (by decide)) rfl rfl (Nat.le_of_ble_eq_true rfl) d_Model_perform_7 ⟨by decide, by decide⟩ rfl (st1 := [.int (sp_M_isParagraph np x)]) rfl ?_
  refine V.br (pc' := 13) (tgt := 39) (P := (sp_M_isParagraph np x) = 0) (lv_if_eq X.1 X.2.1 d_Model_perform_10 (by decide)) (fun c_9 => ?_) (fun c_9 => ?_)
  · have i_10 := congrArg Int32.toInt c_9
    rw [show (0 : Int32).toInt = 0 from rfl] at i_10
    refine V.go (pc' := 40) (lv_iconst (v := (-1)) X.1 X.2.1 d_Model_perform_39 (by decide)) ?_
    exact V.iret X hr hlk ⟨(by simp only [sp_M_perform, if_pos c_9]), (by simp only [sp_M_perform_mo_4, if_pos c_9]; exact h_2), (by simp only [sp_M_perform_ad7, if_pos c_9]; exact h_4), (by simp only [sp_M_perform_ad8, if_pos c_9]; exact h_5), (by simp only [sp_M_perform_ad9, if_pos c_9]; exact h_6), (by simp only [sp_M_perform_ad10, if_pos c_9]; exact h_7), (fun q n0_ n1_ n2_ n3_ n4_ => (fr_3 q n0_))⟩ d_Model_perform_40
  · have i_11 := M_isPar_ne c_9
    refine V.rd (pc' := 14) (fun hl => lv_aload_n X.1 X.2.1 d_Model_perform_13 rfl (lv_at hl 0 rfl)) ?_
    refine V.rd (pc' := 15) (fun hl => lv_iload_n X.1 X.2.1 d_Model_perform_14 rfl (lv_at hl 2 rfl)) ?_
    refine V.callV0 (pc' := 18) X hK (c_M_isParagraph hinj (mo := mo) (xcode := 0) (np := np) (ns := ns) (xsize := xsize) (xmost := xmost) (xend := xend) (xran := xran) (yend := yend) (ysize := ysize) (ymost := ymost) (yran := yran) (x := y)   h_2  ) h_2 rfl (cwG (n := 1) X (mcs wd_171) (mcs wd_172) (mcs wd_173) (mcs wd_174) wd_175 (by decide +kernel) (by decide) (by decide)) rfl rfl (Nat.le_of_ble_eq_true rfl) d_Model_perform_15 ⟨by decide, by decide⟩ rfl (st1 := [.int (sp_M_isParagraph np y)]) rfl ?_
    refine V.br (pc' := 21) (tgt := 39) (P := (sp_M_isParagraph np y) = 0) (lv_if_eq X.1 X.2.1 d_Model_perform_18 (by decide)) (fun c_13 => ?_) (fun c_13 => ?_)
    · have i_14 := congrArg Int32.toInt c_13
      rw [show (0 : Int32).toInt = 0 from rfl] at i_14
      refine V.go (pc' := 40) (lv_iconst (v := (-1)) X.1 X.2.1 d_Model_perform_39 (by decide)) ?_
      exact V.iret X hr hlk ⟨(by simp only [sp_M_perform, if_neg c_9, if_pos c_13]), (by simp only [sp_M_perform_mo_4, if_neg c_9, if_pos c_13]; exact h_2), (by simp only [sp_M_perform_ad7, if_neg c_9, if_pos c_13]; exact h_4), (by simp only [sp_M_perform_ad8, if_neg c_9, if_pos c_13]; exact h_5), (by simp only [sp_M_perform_ad9, if_neg c_9, if_pos c_13]; exact h_6), (by simp only [sp_M_perform_ad10, if_neg c_9, if_pos c_13]; exact h_7), (fun q n0_ n1_ n2_ n3_ n4_ => (fr_3 q n0_))⟩ d_Model_perform_40
    · have i_15 := M_isPar_ne c_13
      refine V.rd (pc' := 22) (fun hl => lv_iload_n X.1 X.2.1 d_Model_perform_21 rfl (lv_at hl 3 rfl)) ?_
      refine V.br (pc' := 25) (tgt := 39) (P := kd < 0) (lv_if_lt X.1 X.2.1 d_Model_perform_22 (by decide)) (fun c_16 => ?_) (fun c_16 => ?_)
      · have i_17 := Int32.lt_iff_toInt_lt.mp c_16
        rw [show (0 : Int32).toInt = 0 from rfl] at i_17
        refine V.go (pc' := 40) (lv_iconst (v := (-1)) X.1 X.2.1 d_Model_perform_39 (by decide)) ?_
        exact V.iret X hr hlk ⟨(by simp only [sp_M_perform, if_neg c_9, if_neg c_13, if_pos c_16]), (by simp only [sp_M_perform_mo_4, if_neg c_9, if_neg c_13, if_pos c_16]; exact h_2), (by simp only [sp_M_perform_ad7, if_neg c_9, if_neg c_13, if_pos c_16]; exact h_4), (by simp only [sp_M_perform_ad8, if_neg c_9, if_neg c_13, if_pos c_16]; exact h_5), (by simp only [sp_M_perform_ad9, if_neg c_9, if_neg c_13, if_pos c_16]; exact h_6), (by simp only [sp_M_perform_ad10, if_neg c_9, if_neg c_13, if_pos c_16]; exact h_7), (fun q n0_ n1_ n2_ n3_ n4_ => (fr_3 q n0_))⟩ d_Model_perform_40
      · have i_18 := mt Int32.lt_iff_toInt_lt.mpr c_16
        rw [show (0 : Int32).toInt = 0 from rfl] at i_18
        refine V.rd (pc' := 26) (fun hl => lv_iload_n X.1 X.2.1 d_Model_perform_25 rfl (lv_at hl 3 rfl)) ?_
        refine V.go (pc' := 27) (lv_iconst (v := 3) X.1 X.2.1 d_Model_perform_26 (by decide)) ?_
        refine V.br (pc' := 30) (tgt := 39) (P := 3 < kd) (lv_icmp_gt X.1 X.2.1 d_Model_perform_27 (by decide)) (fun c_19 => ?_) (fun c_19 => ?_)
        · have i_20 := Int32.lt_iff_toInt_lt.mp c_19
          rw [show (3 : Int32).toInt = 3 from rfl] at i_20
          refine V.go (pc' := 40) (lv_iconst (v := (-1)) X.1 X.2.1 d_Model_perform_39 (by decide)) ?_
          exact V.iret X hr hlk ⟨(by simp only [sp_M_perform, if_neg c_9, if_neg c_13, if_neg c_16, if_pos c_19]), (by simp only [sp_M_perform_mo_4, if_neg c_9, if_neg c_13, if_neg c_16, if_pos c_19]; exact h_2), (by simp only [sp_M_perform_ad7, if_neg c_9, if_neg c_13, if_neg c_16, if_pos c_19]; exact h_4), (by simp only [sp_M_perform_ad8, if_neg c_9, if_neg c_13, if_neg c_16, if_pos c_19]; exact h_5), (by simp only [sp_M_perform_ad9, if_neg c_9, if_neg c_13, if_neg c_16, if_pos c_19]; exact h_6), (by simp only [sp_M_perform_ad10, if_neg c_9, if_neg c_13, if_neg c_16, if_pos c_19]; exact h_7), (fun q n0_ n1_ n2_ n3_ n4_ => (fr_3 q n0_))⟩ d_Model_perform_40
        · have i_21 := mt Int32.lt_iff_toInt_lt.mpr c_19
          rw [show (3 : Int32).toInt = 3 from rfl] at i_21
          refine V.rd (pc' := 31) (fun hl => lv_aload_n X.1 X.2.1 d_Model_perform_30 rfl (lv_at hl 0 rfl)) ?_
          refine V.get (pc' := 34) X hK h_2 uw_Model rfl 4 (by decide) (mcs wd_169) rfl d_Model_perform_31 rfl ?_
          refine V.go (pc' := 36) (lv_bipush (v := 60) X.1 X.2.1 d_Model_perform_34 (by decide)) ?_
          refine V.bn (pc' := 39) (tgt := 41) (P := ns = 60) (lv_icmp_ne X.1 X.2.1 d_Model_perform_36 (by decide)) (fun c_22 => ?_) (fun c_22 => ?_)
          · have i_23 := congrArg Int32.toInt c_22
            rw [show (60 : Int32).toInt = 60 from rfl] at i_23
            refine V.go (pc' := 40) (lv_iconst (v := (-1)) X.1 X.2.1 d_Model_perform_39 (by decide)) ?_
            exact V.iret X hr hlk ⟨(by simp only [sp_M_perform, if_neg c_9, if_neg c_13, if_neg c_16, if_neg c_19, if_pos c_22]), (by simp only [sp_M_perform_mo_4, if_neg c_9, if_neg c_13, if_neg c_16, if_neg c_19, if_pos c_22]; exact h_2), (by simp only [sp_M_perform_ad7, if_neg c_9, if_neg c_13, if_neg c_16, if_neg c_19, if_pos c_22]; exact h_4), (by simp only [sp_M_perform_ad8, if_neg c_9, if_neg c_13, if_neg c_16, if_neg c_19, if_pos c_22]; exact h_5), (by simp only [sp_M_perform_ad9, if_neg c_9, if_neg c_13, if_neg c_16, if_neg c_19, if_pos c_22]; exact h_6), (by simp only [sp_M_perform_ad10, if_neg c_9, if_neg c_13, if_neg c_16, if_neg c_19, if_pos c_22]; exact h_7), (fun q n0_ n1_ n2_ n3_ n4_ => (fr_3 q n0_))⟩ d_Model_perform_40
          · have i_24 := mt Int32.toInt_inj.mp c_22
            rw [show (60 : Int32).toInt = 60 from rfl] at i_24
            refine V.rd (pc' := 42) (fun hl => lv_aload_n X.1 X.2.1 d_Model_perform_41 rfl (lv_at hl 0 rfl)) ?_
            refine V.go (pc' := 43) (lv_dup X.1 X.2.1 d_Model_perform_42 rfl) ?_
            refine V.get (pc' := 46) X hK h_2 uw_Model rfl 4 (by decide) (mcs wd_169) rfl d_Model_perform_43 rfl ?_
            refine V.go (pc' := 47) (lv_iconst (v := 1) X.1 X.2.1 d_Model_perform_46 (by decide)) ?_
            refine V.go (pc' := 48) (lv_iadd X.1 X.2.1 d_Model_perform_47) ?_
            have s_25 : (ns + 1).toInt = ns.toInt + 1 := i32_add1 (by omega)
            refine V.put (pc' := 51) X hK h_2 uw_Model t_Model tok_Model nm_Model rfl 4 (by decide) (mcs wd_169) rfl rfl rfl (Nat.le_of_ble_eq_true rfl) (fs' := [.int 0, .ref (ad 1), .ref (ad 2), .int np, .int (ns + 1), .ref (ad 5), .ref (ad 6), .ref (ad 7), .ref (ad 8), .ref (ad 9), .ref (ad 10), .ref (ad 11), .ref (ad 12), .ref (ad 13), .ref (ad 14), .ref (ad 15), .ref (ad 16), .ref (ad 17), .ref (ad 18), .ref (ad 19), .ref (ad 20), .ref (ad 21), .int xsize, .int xmost, .int xend, .int xran, .ref (ad 26), .int yend, .int ysize, .int ymost, .int yran, .ref (ad 31), .ref (ad 32)]) rfl d_Model_perform_48 rfl (fun M_26 h_27 fr_28 => ?_)
            have h_29 : M_26 (ad 7) = some (.inl (cI, 61, .inl vfrom)) := (fr_28 _ (ne_k h_4 h_2 (i := 1061) (j := 6) rfl rfl (by decide))).trans h_4
            have h_30 : M_26 (ad 8) = some (.inl (cI, 61, .inl vto)) := (fr_28 _ (ne_k h_5 h_2 (i := 1061) (j := 6) rfl rfl (by decide))).trans h_5
            have h_31 : M_26 (ad 9) = some (.inl (cI, 61, .inl vkind)) := (fr_28 _ (ne_k h_6 h_2 (i := 1061) (j := 6) rfl rfl (by decide))).trans h_6
            have h_32 : M_26 (ad 10) = some (.inl (cI, 61, .inl vtimes)) := (fr_28 _ (ne_k h_7 h_2 (i := 1061) (j := 6) rfl rfl (by decide))).trans h_7
            refine V.rd (pc' := 52) (fun hl => lv_aload_n X.1 X.2.1 d_Model_perform_51 rfl (lv_at hl 0 rfl)) ?_
            refine V.get (pc' := 55) X hK h_27 uw_Model rfl 7 (by decide) (mcs wd_176) rfl d_Model_perform_52 rfl ?_
            refine V.rd (pc' := 56) (fun hl => lv_aload_n X.1 X.2.1 d_Model_perform_55 rfl (lv_at hl 0 rfl)) ?_
            refine V.get (pc' := 59) X hK h_27 uw_Model rfl 4 (by decide) (mcs wd_169) rfl d_Model_perform_56 rfl ?_
            refine V.rd (pc' := 60) (fun hl => lv_iload_n X.1 X.2.1 d_Model_perform_59 rfl (lv_at hl 1 rfl)) ?_
            refine V.iast (pc' := 61) X hK 0 h_29 rfl (vin (by omega) (by omega)) d_Model_perform_60 rfl (fun M_33 h_34 fr_35 => ?_)
            have h_36 : M_33 (ad 8) = some (.inl (cI, 61, .inl vto)) := (fr_35 _ (ad_ne hinj (i := 8) (j := 7) (by decide) (by decide) (by decide))).trans h_30
            have h_37 : M_33 (ad 9) = some (.inl (cI, 61, .inl vkind)) := (fr_35 _ (ad_ne hinj (i := 9) (j := 7) (by decide) (by decide) (by decide))).trans h_31
            have h_38 : M_33 (ad 10) = some (.inl (cI, 61, .inl vtimes)) := (fr_35 _ (ad_ne hinj (i := 10) (j := 7) (by decide) (by decide) (by decide))).trans h_32
            have h_39 : M_33 mo = some (.inr (6, [.int 0, .ref (ad 1), .ref (ad 2), .int np, .int (ns + 1), .ref (ad 5), .ref (ad 6), .ref (ad 7), .ref (ad 8), .ref (ad 9), .ref (ad 10), .ref (ad 11), .ref (ad 12), .ref (ad 13), .ref (ad 14), .ref (ad 15), .ref (ad 16), .ref (ad 17), .ref (ad 18), .ref (ad 19), .ref (ad 20), .ref (ad 21), .int xsize, .int xmost, .int xend, .int xran, .ref (ad 26), .int yend, .int ysize, .int ymost, .int yran, .ref (ad 31), .ref (ad 32)])) := (fr_35 _ (ne_k h_27 h_29 (i := 6) (j := 1061) rfl rfl (by decide))).trans h_27
            refine V.rd (pc' := 62) (fun hl => lv_aload_n X.1 X.2.1 d_Model_perform_61 rfl (lv_at hl 0 rfl)) ?_
            refine V.get (pc' := 65) X hK h_39 uw_Model rfl 8 (by decide) (mcs wd_177) rfl d_Model_perform_62 rfl ?_
            refine V.rd (pc' := 66) (fun hl => lv_aload_n X.1 X.2.1 d_Model_perform_65 rfl (lv_at hl 0 rfl)) ?_
            refine V.get (pc' := 69) X hK h_39 uw_Model rfl 4 (by decide) (mcs wd_169) rfl d_Model_perform_66 rfl ?_
            refine V.rd (pc' := 70) (fun hl => lv_iload_n X.1 X.2.1 d_Model_perform_69 rfl (lv_at hl 2 rfl)) ?_
            refine V.iast (pc' := 71) X hK 0 h_36 rfl (vin (by omega) (by omega)) d_Model_perform_70 rfl (fun M_40 h_41 fr_42 => ?_)
            have h_43 : M_40 (ad 9) = some (.inl (cI, 61, .inl vkind)) := (fr_42 _ (ad_ne hinj (i := 9) (j := 8) (by decide) (by decide) (by decide))).trans h_37
            have h_44 : M_40 (ad 10) = some (.inl (cI, 61, .inl vtimes)) := (fr_42 _ (ad_ne hinj (i := 10) (j := 8) (by decide) (by decide) (by decide))).trans h_38
            have h_45 : M_40 mo = some (.inr (6, [.int 0, .ref (ad 1), .ref (ad 2), .int np, .int (ns + 1), .ref (ad 5), .ref (ad 6), .ref (ad 7), .ref (ad 8), .ref (ad 9), .ref (ad 10), .ref (ad 11), .ref (ad 12), .ref (ad 13), .ref (ad 14), .ref (ad 15), .ref (ad 16), .ref (ad 17), .ref (ad 18), .ref (ad 19), .ref (ad 20), .ref (ad 21), .int xsize, .int xmost, .int xend, .int xran, .ref (ad 26), .int yend, .int ysize, .int ymost, .int yran, .ref (ad 31), .ref (ad 32)])) := (fr_42 _ (ne_k h_39 h_36 (i := 6) (j := 1061) rfl rfl (by decide))).trans h_39
            have h_46 : M_40 (ad 7) = some (.inl (cI, 61, .inl (upd vfrom (ns + 1).toNatClampNeg x))) := (fr_42 _ (ad_ne hinj (i := 7) (j := 8) (by decide) (by decide) (by decide))).trans h_34
            refine V.rd (pc' := 72) (fun hl => lv_aload_n X.1 X.2.1 d_Model_perform_71 rfl (lv_at hl 0 rfl)) ?_
            refine V.get (pc' := 75) X hK h_45 uw_Model rfl 9 (by decide) (mcs wd_178) rfl d_Model_perform_72 rfl ?_
            refine V.rd (pc' := 76) (fun hl => lv_aload_n X.1 X.2.1 d_Model_perform_75 rfl (lv_at hl 0 rfl)) ?_
            refine V.get (pc' := 79) X hK h_45 uw_Model rfl 4 (by decide) (mcs wd_169) rfl d_Model_perform_76 rfl ?_
            refine V.rd (pc' := 80) (fun hl => lv_iload_n X.1 X.2.1 d_Model_perform_79 rfl (lv_at hl 3 rfl)) ?_
            refine V.iast (pc' := 81) X hK 0 h_43 rfl (vin (by omega) (by omega)) d_Model_perform_80 rfl (fun M_47 h_48 fr_49 => ?_)
            have h_50 : M_47 (ad 10) = some (.inl (cI, 61, .inl vtimes)) := (fr_49 _ (ad_ne hinj (i := 10) (j := 9) (by decide) (by decide) (by decide))).trans h_44
            have h_51 : M_47 mo = some (.inr (6, [.int 0, .ref (ad 1), .ref (ad 2), .int np, .int (ns + 1), .ref (ad 5), .ref (ad 6), .ref (ad 7), .ref (ad 8), .ref (ad 9), .ref (ad 10), .ref (ad 11), .ref (ad 12), .ref (ad 13), .ref (ad 14), .ref (ad 15), .ref (ad 16), .ref (ad 17), .ref (ad 18), .ref (ad 19), .ref (ad 20), .ref (ad 21), .int xsize, .int xmost, .int xend, .int xran, .ref (ad 26), .int yend, .int ysize, .int ymost, .int yran, .ref (ad 31), .ref (ad 32)])) := (fr_49 _ (ne_k h_45 h_43 (i := 6) (j := 1061) rfl rfl (by decide))).trans h_45
            have h_52 : M_47 (ad 7) = some (.inl (cI, 61, .inl (upd vfrom (ns + 1).toNatClampNeg x))) := (fr_49 _ (ad_ne hinj (i := 7) (j := 9) (by decide) (by decide) (by decide))).trans h_46
            have h_53 : M_47 (ad 8) = some (.inl (cI, 61, .inl (upd vto (ns + 1).toNatClampNeg y))) := (fr_49 _ (ad_ne hinj (i := 8) (j := 9) (by decide) (by decide) (by decide))).trans h_41
            refine V.rd (pc' := 82) (fun hl => lv_aload_n X.1 X.2.1 d_Model_perform_81 rfl (lv_at hl 0 rfl)) ?_
            refine V.get (pc' := 85) X hK h_51 uw_Model rfl 10 (by decide) (mcs wd_179) rfl d_Model_perform_82 rfl ?_
            refine V.rd (pc' := 86) (fun hl => lv_aload_n X.1 X.2.1 d_Model_perform_85 rfl (lv_at hl 0 rfl)) ?_
            refine V.get (pc' := 89) X hK h_51 uw_Model rfl 4 (by decide) (mcs wd_169) rfl d_Model_perform_86 rfl ?_
            refine V.rd (pc' := 91) (fun hl => lv_iload X.1 X.2.1 d_Model_perform_89 (lv_at hl 4 rfl)) ?_
            refine V.iast (pc' := 92) X hK 0 h_50 rfl (vin (by omega) (by omega)) d_Model_perform_91 rfl (fun M_54 h_55 fr_56 => ?_)
            have h_57 : M_54 mo = some (.inr (6, [.int 0, .ref (ad 1), .ref (ad 2), .int np, .int (ns + 1), .ref (ad 5), .ref (ad 6), .ref (ad 7), .ref (ad 8), .ref (ad 9), .ref (ad 10), .ref (ad 11), .ref (ad 12), .ref (ad 13), .ref (ad 14), .ref (ad 15), .ref (ad 16), .ref (ad 17), .ref (ad 18), .ref (ad 19), .ref (ad 20), .ref (ad 21), .int xsize, .int xmost, .int xend, .int xran, .ref (ad 26), .int yend, .int ysize, .int ymost, .int yran, .ref (ad 31), .ref (ad 32)])) := (fr_56 _ (ne_k h_51 h_50 (i := 6) (j := 1061) rfl rfl (by decide))).trans h_51
            have h_58 : M_54 (ad 7) = some (.inl (cI, 61, .inl (upd vfrom (ns + 1).toNatClampNeg x))) := (fr_56 _ (ad_ne hinj (i := 7) (j := 10) (by decide) (by decide) (by decide))).trans h_52
            have h_59 : M_54 (ad 8) = some (.inl (cI, 61, .inl (upd vto (ns + 1).toNatClampNeg y))) := (fr_56 _ (ad_ne hinj (i := 8) (j := 10) (by decide) (by decide) (by decide))).trans h_53
            have h_60 : M_54 (ad 9) = some (.inl (cI, 61, .inl (upd vkind (ns + 1).toNatClampNeg kd))) := (fr_56 _ (ad_ne hinj (i := 9) (j := 10) (by decide) (by decide) (by decide))).trans h_48
            refine V.rd (pc' := 93) (fun hl => lv_aload_n X.1 X.2.1 d_Model_perform_92 rfl (lv_at hl 0 rfl)) ?_
            refine V.get (pc' := 96) X hK h_57 uw_Model rfl 4 (by decide) (mcs wd_169) rfl d_Model_perform_93 rfl ?_
            exact V.iret X hr hlk ⟨(by simp only [sp_M_perform, if_neg c_9, if_neg c_13, if_neg c_16, if_neg c_19, if_neg c_22]), (by simp only [sp_M_perform_mo_4, if_neg c_9, if_neg c_13, if_neg c_16, if_neg c_19, if_neg c_22]; exact h_57), (by simp only [sp_M_perform_ad7, if_neg c_9, if_neg c_13, if_neg c_16, if_neg c_19, if_neg c_22]; exact h_58), (by simp only [sp_M_perform_ad8, if_neg c_9, if_neg c_13, if_neg c_16, if_neg c_19, if_neg c_22]; exact h_59), (by simp only [sp_M_perform_ad9, if_neg c_9, if_neg c_13, if_neg c_16, if_neg c_19, if_neg c_22]; exact h_60), (by simp only [sp_M_perform_ad10, if_neg c_9, if_neg c_13, if_neg c_16, if_neg c_19, if_neg c_22]; exact h_55), (fun q n0_ n1_ n2_ n3_ n4_ => (fr_56 q n4_).trans ((fr_49 q n3_).trans ((fr_42 q n2_).trans ((fr_35 q n1_).trans ((fr_28 q n0_).trans ((fr_3 q n0_)))))))⟩ d_Model_perform_96

theorem d_Model_until_0 : decode prog_8_method_8_code 0 = .ok (.aload_n 0, 1) := by decide +kernel
theorem d_Model_until_1 : decode prog_8_method_8_code 1 = .ok (.iconst 0, 1) := by decide +kernel
theorem d_Model_until_2 : decode prog_8_method_8_code 2 = .ok (.putfield 82, 3) := by decide +kernel
theorem d_Model_until_5 : decode prog_8_method_8_code 5 = .ok (.aload_n 0, 1) := by decide +kernel
theorem d_Model_until_6 : decode prog_8_method_8_code 6 = .ok (.iload_n 1, 1) := by decide +kernel
theorem d_Model_until_7 : decode prog_8_method_8_code 7 = .ok (.invokevirtual 95, 3) := by decide +kernel
theorem d_Model_until_10 : decode prog_8_method_8_code 10 = .ok (.ifCond .eq 31, 3) := by decide +kernel
theorem d_Model_until_13 : decode prog_8_method_8_code 13 = .ok (.iload_n 2, 1) := by decide +kernel
theorem d_Model_until_14 : decode prog_8_method_8_code 14 = .ok (.invokestatic 98, 3) := by decide +kernel
theorem d_Model_until_17 : decode prog_8_method_8_code 17 = .ok (.ifCond .eq 24, 3) := by decide +kernel
theorem d_Model_until_20 : decode prog_8_method_8_code 20 = .ok (.aload_n 0, 1) := by decide +kernel
theorem d_Model_until_21 : decode prog_8_method_8_code 21 = .ok (.getfield 29, 3) := by decide +kernel
theorem d_Model_until_24 : decode prog_8_method_8_code 24 = .ok (.iload_n 1, 1) := by decide +kernel
theorem d_Model_until_25 : decode prog_8_method_8_code 25 = .ok (.iaload, 1) := by decide +kernel
theorem d_Model_until_26 : decode prog_8_method_8_code 26 = .ok (.iconst 2, 1) := by decide +kernel
theorem d_Model_until_27 : decode prog_8_method_8_code 27 = .ok (.if_icmp .lt 14, 3) := by decide +kernel
theorem d_Model_until_30 : decode prog_8_method_8_code 30 = .ok (.aload_n 0, 1) := by decide +kernel
theorem d_Model_until_31 : decode prog_8_method_8_code 31 = .ok (.getfield 35, 3) := by decide +kernel
theorem d_Model_until_34 : decode prog_8_method_8_code 34 = .ok (.iload_n 1, 1) := by decide +kernel
theorem d_Model_until_35 : decode prog_8_method_8_code 35 = .ok (.iaload, 1) := by decide +kernel
theorem d_Model_until_36 : decode prog_8_method_8_code 36 = .ok (.bipush 7, 2) := by decide +kernel
theorem d_Model_until_38 : decode prog_8_method_8_code 38 = .ok (.if_icmp .ne 5, 3) := by decide +kernel
theorem d_Model_until_41 : decode prog_8_method_8_code 41 = .ok (.iconst (-1), 1) := by decide +kernel
theorem d_Model_until_42 : decode prog_8_method_8_code 42 = .ok (.ireturn, 1) := by decide +kernel
theorem d_Model_until_43 : decode prog_8_method_8_code 43 = .ok (.bipush 8, 2) := by decide +kernel
theorem d_Model_until_45 : decode prog_8_method_8_code 45 = .ok (.iload_n 1, 1) := by decide +kernel
theorem d_Model_until_46 : decode prog_8_method_8_code 46 = .ok (.imul, 1) := by decide +kernel
theorem d_Model_until_47 : decode prog_8_method_8_code 47 = .ok (.aload_n 0, 1) := by decide +kernel
theorem d_Model_until_48 : decode prog_8_method_8_code 48 = .ok (.getfield 35, 3) := by decide +kernel
theorem d_Model_until_51 : decode prog_8_method_8_code 51 = .ok (.iload_n 1, 1) := by decide +kernel
theorem d_Model_until_52 : decode prog_8_method_8_code 52 = .ok (.iaload, 1) := by decide +kernel
theorem d_Model_until_53 : decode prog_8_method_8_code 53 = .ok (.iadd, 1) := by decide +kernel
theorem d_Model_until_54 : decode prog_8_method_8_code 54 = .ok (.istore 6, 2) := by decide +kernel
theorem d_Model_until_56 : decode prog_8_method_8_code 56 = .ok (.aload_n 0, 1) := by decide +kernel
theorem d_Model_until_57 : decode prog_8_method_8_code 57 = .ok (.getfield 35, 3) := by decide +kernel
theorem d_Model_until_60 : decode prog_8_method_8_code 60 = .ok (.iload_n 1, 1) := by decide +kernel
theorem d_Model_until_61 : decode prog_8_method_8_code 61 = .ok (.iaload, 1) := by decide +kernel
theorem d_Model_until_62 : decode prog_8_method_8_code 62 = .ok (.ifCond .ne 11, 3) := by decide +kernel
theorem d_Model_until_65 : decode prog_8_method_8_code 65 = .ok (.aload_n 0, 1) := by decide +kernel
theorem d_Model_until_66 : decode prog_8_method_8_code 66 = .ok (.getfield 41, 3) := by decide +kernel
theorem d_Model_until_69 : decode prog_8_method_8_code 69 = .ok (.iload_n 1, 1) := by decide +kernel
theorem d_Model_until_70 : decode prog_8_method_8_code 70 = .ok (.iload 5, 2) := by decide +kernel
theorem d_Model_until_72 : decode prog_8_method_8_code 72 = .ok (.bastore, 1) := by decide +kernel
theorem d_Model_until_73 : decode prog_8_method_8_code 73 = .ok (.aload_n 0, 1) := by decide +kernel
theorem d_Model_until_74 : decode prog_8_method_8_code 74 = .ok (.getfield 45, 3) := by decide +kernel
theorem d_Model_until_77 : decode prog_8_method_8_code 77 = .ok (.iload 6, 2) := by decide +kernel
theorem d_Model_until_79 : decode prog_8_method_8_code 79 = .ok (.bipush 8, 2) := by decide +kernel
theorem d_Model_until_81 : decode prog_8_method_8_code 81 = .ok (.isub, 1) := by decide +kernel
theorem d_Model_until_82 : decode prog_8_method_8_code 82 = .ok (.iload_n 2, 1) := by decide +kernel
theorem d_Model_until_83 : decode prog_8_method_8_code 83 = .ok (.iastore, 1) := by decide +kernel
theorem d_Model_until_84 : decode prog_8_method_8_code 84 = .ok (.aload_n 0, 1) := by decide +kernel
theorem d_Model_until_85 : decode prog_8_method_8_code 85 = .ok (.getfield 51, 3) := by decide +kernel
theorem d_Model_until_88 : decode prog_8_method_8_code 88 = .ok (.iload 6, 2) := by decide +kernel
theorem d_Model_until_90 : decode prog_8_method_8_code 90 = .ok (.bipush 8, 2) := by decide +kernel
theorem d_Model_until_92 : decode prog_8_method_8_code 92 = .ok (.isub, 1) := by decide +kernel
theorem d_Model_until_93 : decode prog_8_method_8_code 93 = .ok (.lload_n 3, 1) := by decide +kernel
theorem d_Model_until_94 : decode prog_8_method_8_code 94 = .ok (.lastore, 1) := by decide +kernel
theorem d_Model_until_95 : decode prog_8_method_8_code 95 = .ok (.aload_n 0, 1) := by decide +kernel
theorem d_Model_until_96 : decode prog_8_method_8_code 96 = .ok (.getfield 35, 3) := by decide +kernel
theorem d_Model_until_99 : decode prog_8_method_8_code 99 = .ok (.iload_n 1, 1) := by decide +kernel
theorem d_Model_until_100 : decode prog_8_method_8_code 100 = .ok (.dup2, 1) := by decide +kernel
theorem d_Model_until_101 : decode prog_8_method_8_code 101 = .ok (.iaload, 1) := by decide +kernel
theorem d_Model_until_102 : decode prog_8_method_8_code 102 = .ok (.iconst 1, 1) := by decide +kernel
theorem d_Model_until_103 : decode prog_8_method_8_code 103 = .ok (.iadd, 1) := by decide +kernel
theorem d_Model_until_104 : decode prog_8_method_8_code 104 = .ok (.iastore, 1) := by decide +kernel
theorem d_Model_until_105 : decode prog_8_method_8_code 105 = .ok (.aload_n 0, 1) := by decide +kernel
theorem d_Model_until_106 : decode prog_8_method_8_code 106 = .ok (.getfield 35, 3) := by decide +kernel
theorem d_Model_until_109 : decode prog_8_method_8_code 109 = .ok (.iload_n 1, 1) := by decide +kernel
theorem d_Model_until_110 : decode prog_8_method_8_code 110 = .ok (.iaload, 1) := by decide +kernel
theorem d_Model_until_111 : decode prog_8_method_8_code 111 = .ok (.ireturn, 1) := by decide +kernel

def sp_M_until (ns : Int32) (vkind : Nat → Int32) (vcond : Nat → Int32) (x : Int32) (y : Int32) : Int32 := if (sp_M_isStatement ns x) = 0 then (-1) else if (sp_M_isCell y) = 0 then (-1) else if (vkind x.toNatClampNeg) < 2 then (-1) else if (vcond x.toNatClampNeg) = 7 then (-1) else (upd vcond x.toNatClampNeg ((vcond x.toNatClampNeg) + 1)) x.toNatClampNeg
def sp_M_until_ad13 (ns : Int32) (vkind : Nat → Int32) (vcond : Nat → Int32) (vask : Nat → Int32) (x : Int32) (y : Int32) (b : Int32) : Nat → Int32 := if (sp_M_isStatement ns x) = 0 then vask else if (sp_M_isCell y) = 0 then vask else if (vkind x.toNatClampNeg) < 2 then vask else if (vcond x.toNatClampNeg) = 7 then vask else if (vcond x.toNatClampNeg) = 0 then upd vask x.toNatClampNeg b else vask
def sp_M_until_ad14 (ns : Int32) (vkind : Nat → Int32) (vcond : Nat → Int32) (vcc : Nat → Int32) (x : Int32) (y : Int32) : Nat → Int32 := if (sp_M_isStatement ns x) = 0 then vcc else if (sp_M_isCell y) = 0 then vcc else if (vkind x.toNatClampNeg) < 2 then vcc else if (vcond x.toNatClampNeg) = 7 then vcc else upd vcc (((8 * x) + (vcond x.toNatClampNeg)) - 8).toNatClampNeg y
def sp_M_until_ad16 (ns : Int32) (vkind : Nat → Int32) (vcond : Nat → Int32) (vleast : Nat → Int64) (x : Int32) (y : Int32) (w : Int64) : Nat → Int64 := if (sp_M_isStatement ns x) = 0 then vleast else if (sp_M_isCell y) = 0 then vleast else if (vkind x.toNatClampNeg) < 2 then vleast else if (vcond x.toNatClampNeg) = 7 then vleast else vp_updL vleast (((8 * x) + (vcond x.toNatClampNeg)) - 8).toNatClampNeg w
def sp_M_until_ad11 (ns : Int32) (vkind : Nat → Int32) (vcond : Nat → Int32) (x : Int32) (y : Int32) : Nat → Int32 := if (sp_M_isStatement ns x) = 0 then vcond else if (sp_M_isCell y) = 0 then vcond else if (vkind x.toNatClampNeg) < 2 then vcond else if (vcond x.toNatClampNeg) = 7 then vcond else upd vcond x.toNatClampNeg ((vcond x.toNatClampNeg) + 1)
set_option maxHeartbeats 4000000 in
set_option maxRecDepth 100000 in
theorem c_M_until {l : Launch} {H0 : Heap} {D : va_G} {cI cL cQ cB : ClassId} {M : mp} {mo : Nat} {ad : Nat → Nat} (hinj : ∀ i j : Nat, i < 33 → j < 33 → ad i = ad j → i = j) {xcode : Int32} {np : Int32} {ns : Int32} {xsize : Int32} {xmost : Int32} {xend : Int32} {xran : Int32} {yend : Int32} {ysize : Int32} {ymost : Int32} {yran : Int32} {vkind : Nat → Int32} {vcond : Nat → Int32} {vask : Nat → Int32} {vcc : Nat → Int32} {vleast : Nat → Int64} {x : Int32} {y : Int32} {w : Int64} {b : Int32} (hns : 0 ≤ ns.toInt ∧ ns.toInt ≤ 60) (hco : ∀ i : Nat, 0 ≤ (vcond i).toInt ∧ (vcond i).toInt ≤ 7) (hb : b = 0 ∨ b = 1) (gh0 : M mo = some (.inr (6, [.int xcode, .ref (ad 1), .ref (ad 2), .int np, .int ns, .ref (ad 5), .ref (ad 6), .ref (ad 7), .ref (ad 8), .ref (ad 9), .ref (ad 10), .ref (ad 11), .ref (ad 12), .ref (ad 13), .ref (ad 14), .ref (ad 15), .ref (ad 16), .ref (ad 17), .ref (ad 18), .ref (ad 19), .ref (ad 20), .ref (ad 21), .int xsize, .int xmost, .int xend, .int xran, .ref (ad 26), .int yend, .int ysize, .int ymost, .int yran, .ref (ad 31), .ref (ad 32)]))) (gh1 : M (ad 9) = some (.inl (cI, 61, .inl vkind))) (gh2 : M (ad 11) = some (.inl (cI, 61, .inl vcond))) (gh3 : M (ad 13) = some (.inl (cB, 61, .inl vask))) (gh4 : M (ad 14) = some (.inl (cI, 488, .inl vcc))) (gh5 : M (ad 16) = some (.inl (cL, 488, .inr (.inl vleast)))) : MC l H0 D cls7 (tysOf cI cL cQ cB) NW ({ cls := "PerformRangesModel", name := "until", desc := "(IIJZ)I" } : Jvm.MethodName) (Cond.code ({ cls := "PerformRangesModel", name := "until", desc := "(IIJZ)I" } : Jvm.MethodName) prog_8_method_8_code 7 (Option.some Jvm.ClassFile.FieldType.int) :: GW) ({ frames := 1, cells := 0, slots := 0, locals := 21 }) [.ref mo, .int x, .int y, .long w, .int b] M (fun v M' => v = some (.int (sp_M_until ns vkind vcond x y)) ∧ M' mo = some (.inr (6, [.int 0, .ref (ad 1), .ref (ad 2), .int np, .int ns, .ref (ad 5), .ref (ad 6), .ref (ad 7), .ref (ad 8), .ref (ad 9), .ref (ad 10), .ref (ad 11), .ref (ad 12), .ref (ad 13), .ref (ad 14), .ref (ad 15), .ref (ad 16), .ref (ad 17), .ref (ad 18), .ref (ad 19), .ref (ad 20), .ref (ad 21), .int xsize, .int xmost, .int xend, .int xran, .ref (ad 26), .int yend, .int ysize, .int ymost, .int yran, .ref (ad 31), .ref (ad 32)])) ∧ M' (ad 13) = some (.inl (cB, 61, .inl (sp_M_until_ad13 ns vkind vcond vask x y b))) ∧ M' (ad 14) = some (.inl (cI, 488, .inl (sp_M_until_ad14 ns vkind vcond vcc x y))) ∧ M' (ad 16) = some (.inl (cL, 488, .inr (.inl (sp_M_until_ad16 ns vkind vcond vleast x y w)))) ∧ M' (ad 11) = some (.inl (cI, 61, .inl (sp_M_until_ad11 ns vkind vcond x y))) ∧ (∀ q, q ≠ mo → q ≠ (ad 13) → q ≠ (ad 14) → q ≠ (ad 16) → q ≠ (ad 11) → M' q = M q)) := by
  refine MC.of (cc := prog_8_method_8_code) (nL := 7) (ret := (Option.some Jvm.ClassFile.FieldType.int)) (lv := [(0, .ref mo), (1, .int x), (2, .int y), (3, .long w), (5, .int b)]) (by decide) rfl (Nat.le_of_ble_eq_true rfl) rfl ?_
  intro p e s m below meth c X hr hlk hnm hK
  refine V.rd (pc' := 1) (fun hl => lv_aload_n X.1 X.2.1 d_Model_until_0 rfl (lv_at hl 0 rfl)) ?_
  refine V.go (pc' := 2) (lv_iconst (v := 0) X.1 X.2.1 d_Model_until_1 (by decide)) ?_
  refine V.put (pc' := 5) X hK gh0 uw_Model t_Model tok_Model nm_Model rfl 0 (by decide) (mcs wd_167) rfl rfl rfl (Nat.le_of_ble_eq_true rfl) (fs' := [.int 0, .ref (ad 1), .ref (ad 2), .int np, .int ns, .ref (ad 5), .ref (ad 6), .ref (ad 7), .ref (ad 8), .ref (ad 9), .ref (ad 10), .ref (ad 11), .ref (ad 12), .ref (ad 13), .ref (ad 14), .ref (ad 15), .ref (ad 16), .ref (ad 17), .ref (ad 18), .ref (ad 19), .ref (ad 20), .ref (ad 21), .int xsize, .int xmost, .int xend, .int xran, .ref (ad 26), .int yend, .int ysize, .int ymost, .int yran, .ref (ad 31), .ref (ad 32)]) rfl d_Model_until_2 rfl (fun M_1 h_2 fr_3 => ?_)
  have h_4 : M_1 (ad 9) = some (.inl (cI, 61, .inl vkind)) := (fr_3 _ (ne_k gh1 gh0 (i := 1061) (j := 6) rfl rfl (by decide))).trans gh1
  have h_5 : M_1 (ad 11) = some (.inl (cI, 61, .inl vcond)) := (fr_3 _ (ne_k gh2 gh0 (i := 1061) (j := 6) rfl rfl (by decide))).trans gh2
  have h_6 : M_1 (ad 13) = some (.inl (cB, 61, .inl vask)) := (fr_3 _ (ne_k gh3 gh0 (i := 1061) (j := 6) rfl rfl (by decide))).trans gh3
  have h_7 : M_1 (ad 14) = some (.inl (cI, 488, .inl vcc)) := (fr_3 _ (ne_k gh4 gh0 (i := 1488) (j := 6) rfl rfl (by decide))).trans gh4
  have h_8 : M_1 (ad 16) = some (.inl (cL, 488, .inr (.inl vleast))) := (fr_3 _ (ne_k gh5 gh0 (i := 100488) (j := 6) rfl rfl (by decide))).trans gh5
  refine V.rd (pc' := 6) (fun hl => lv_aload_n X.1 X.2.1 d_Model_until_5 rfl (lv_at hl 0 rfl)) ?_
  refine V.rd (pc' := 7) (fun hl => lv_iload_n X.1 X.2.1 d_Model_until_6 rfl (lv_at hl 1 rfl)) ?_
  refine V.callV0 (pc' := 10) X hK (c_M_isStatement hinj (mo := mo) (xcode := 0) (np := np) (ns := ns) (xsize := xsize) (xmost := xmost) (xend := xend) (xran := xran) (yend := yend) (ysize := ysize) (ymost := ymost) (yran := yran) (x := x)   h_2  ) h_2 rfl (cwG (n := 1) X (mcs wd_180) (mcs wd_181) (mcs wd_182) (mcs wd_174) wd_183 (by decide +kernel) (by decide) (by decide)) rfl rfl (Nat.le_of_ble_eq_true rfl) d_Model_until_7 ⟨by decide, by decide⟩ rfl (st1 := [.int (sp_M_isStatement ns x)]) rfl ?_
  refine V.br (pc' := 13) (tgt := 41) (P := (sp_M_isStatement ns x) = 0) (lv_if_eq X.1 X.2.1 d_Model_until_10 (by decide)) (fun c_10 => ?_) (fun c_10 => ?_)
  · have i_11 := congrArg Int32.toInt c_10
    rw [show (0 : Int32).toInt = 0 from rfl] at i_11
    refine V.go (pc' := 42) (lv_iconst (v := (-1)) X.1 X.2.1 d_Model_until_41 (by decide)) ?_
    exact V.iret X hr hlk ⟨(by simp only [sp_M_until, if_pos c_10]), h_2, (by simp only [sp_M_until_ad13, if_pos c_10]; exact h_6), (by simp only [sp_M_until_ad14, if_pos c_10]; exact h_7), (by simp only [sp_M_until_ad16, if_pos c_10]; exact h_8), (by simp only [sp_M_until_ad11, if_pos c_10]; exact h_5), (fun q n0_ n1_ n2_ n3_ n4_ => (fr_3 q n0_))⟩ d_Model_until_42
  · have i_12 := M_isSta_ne c_10
    refine V.rd (pc' := 14) (fun hl => lv_iload_n X.1 X.2.1 d_Model_until_13 rfl (lv_at hl 2 rfl)) ?_
    refine V.callS0 (pc' := 17) X hK (c_M_isCell  (x := y)     ) (csG (n := 1) X (mcs wd_184) (mcs wd_185) (mcs wd_174) wd_186 (by decide +kernel) (by decide) (by decide)) rfl rfl (Nat.le_of_ble_eq_true rfl) d_Model_until_14 ⟨by decide, by decide⟩ rfl (st1 := [.int (sp_M_isCell y)]) rfl ?_
    refine V.br (pc' := 20) (tgt := 41) (P := (sp_M_isCell y) = 0) (lv_if_eq X.1 X.2.1 d_Model_until_17 (by decide)) (fun c_14 => ?_) (fun c_14 => ?_)
    · have i_15 := congrArg Int32.toInt c_14
      rw [show (0 : Int32).toInt = 0 from rfl] at i_15
      refine V.go (pc' := 42) (lv_iconst (v := (-1)) X.1 X.2.1 d_Model_until_41 (by decide)) ?_
      exact V.iret X hr hlk ⟨(by simp only [sp_M_until, if_neg c_10, if_pos c_14]), h_2, (by simp only [sp_M_until_ad13, if_neg c_10, if_pos c_14]; exact h_6), (by simp only [sp_M_until_ad14, if_neg c_10, if_pos c_14]; exact h_7), (by simp only [sp_M_until_ad16, if_neg c_10, if_pos c_14]; exact h_8), (by simp only [sp_M_until_ad11, if_neg c_10, if_pos c_14]; exact h_5), (fun q n0_ n1_ n2_ n3_ n4_ => (fr_3 q n0_))⟩ d_Model_until_42
    · have i_16 := M_isCell_ne c_14
      refine V.rd (pc' := 21) (fun hl => lv_aload_n X.1 X.2.1 d_Model_until_20 rfl (lv_at hl 0 rfl)) ?_
      refine V.get (pc' := 24) X hK h_2 uw_Model rfl 9 (by decide) (mcs wd_178) rfl d_Model_until_21 rfl ?_
      refine V.rd (pc' := 25) (fun hl => lv_iload_n X.1 X.2.1 d_Model_until_24 rfl (lv_at hl 1 rfl)) ?_
      refine V.iald (pc' := 26) X hK 0 h_4 rfl (vin (by omega) (by omega)) d_Model_until_25 rfl ?_
      refine V.go (pc' := 27) (lv_iconst (v := 2) X.1 X.2.1 d_Model_until_26 (by decide)) ?_
      refine V.br (pc' := 30) (tgt := 41) (P := (vkind x.toNatClampNeg) < 2) (lv_icmp_lt X.1 X.2.1 d_Model_until_27 (by decide)) (fun c_17 => ?_) (fun c_17 => ?_)
      · have i_18 := Int32.lt_iff_toInt_lt.mp c_17
        rw [show (2 : Int32).toInt = 2 from rfl] at i_18
        refine V.go (pc' := 42) (lv_iconst (v := (-1)) X.1 X.2.1 d_Model_until_41 (by decide)) ?_
        exact V.iret X hr hlk ⟨(by simp only [sp_M_until, if_neg c_10, if_neg c_14, if_pos c_17]), h_2, (by simp only [sp_M_until_ad13, if_neg c_10, if_neg c_14, if_pos c_17]; exact h_6), (by simp only [sp_M_until_ad14, if_neg c_10, if_neg c_14, if_pos c_17]; exact h_7), (by simp only [sp_M_until_ad16, if_neg c_10, if_neg c_14, if_pos c_17]; exact h_8), (by simp only [sp_M_until_ad11, if_neg c_10, if_neg c_14, if_pos c_17]; exact h_5), (fun q n0_ n1_ n2_ n3_ n4_ => (fr_3 q n0_))⟩ d_Model_until_42
      · have i_19 := mt Int32.lt_iff_toInt_lt.mpr c_17
        rw [show (2 : Int32).toInt = 2 from rfl] at i_19
        refine V.rd (pc' := 31) (fun hl => lv_aload_n X.1 X.2.1 d_Model_until_30 rfl (lv_at hl 0 rfl)) ?_
        refine V.get (pc' := 34) X hK h_2 uw_Model rfl 11 (by decide) (mcs wd_187) rfl d_Model_until_31 rfl ?_
        refine V.rd (pc' := 35) (fun hl => lv_iload_n X.1 X.2.1 d_Model_until_34 rfl (lv_at hl 1 rfl)) ?_
        refine V.iald (pc' := 36) X hK 0 h_5 rfl (vin (by omega) (by omega)) d_Model_until_35 rfl ?_
        have q_20 := hco x.toNatClampNeg
        refine V.go (pc' := 38) (lv_bipush (v := 7) X.1 X.2.1 d_Model_until_36 (by decide)) ?_
        refine V.bn (pc' := 41) (tgt := 43) (P := (vcond x.toNatClampNeg) = 7) (lv_icmp_ne X.1 X.2.1 d_Model_until_38 (by decide)) (fun c_21 => ?_) (fun c_21 => ?_)
        · have i_22 := congrArg Int32.toInt c_21
          rw [show (7 : Int32).toInt = 7 from rfl] at i_22
          refine V.go (pc' := 42) (lv_iconst (v := (-1)) X.1 X.2.1 d_Model_until_41 (by decide)) ?_
          exact V.iret X hr hlk ⟨(by simp only [sp_M_until, if_neg c_10, if_neg c_14, if_neg c_17, if_pos c_21]), h_2, (by simp only [sp_M_until_ad13, if_neg c_10, if_neg c_14, if_neg c_17, if_pos c_21]; exact h_6), (by simp only [sp_M_until_ad14, if_neg c_10, if_neg c_14, if_neg c_17, if_pos c_21]; exact h_7), (by simp only [sp_M_until_ad16, if_neg c_10, if_neg c_14, if_neg c_17, if_pos c_21]; exact h_8), (by simp only [sp_M_until_ad11, if_neg c_10, if_neg c_14, if_neg c_17, if_pos c_21]; exact h_5), (fun q n0_ n1_ n2_ n3_ n4_ => (fr_3 q n0_))⟩ d_Model_until_42
        · have i_23 := mt Int32.toInt_inj.mp c_21
          rw [show (7 : Int32).toInt = 7 from rfl] at i_23
          refine V.go (pc' := 45) (lv_bipush (v := 8) X.1 X.2.1 d_Model_until_43 (by decide)) ?_
          refine V.rd (pc' := 46) (fun hl => lv_iload_n X.1 X.2.1 d_Model_until_45 rfl (lv_at hl 1 rfl)) ?_
          refine V.go (pc' := 47) (lv_imul X.1 X.2.1 d_Model_until_46) ?_
          have s_24 : (8 * x).toInt = 8 * x.toInt := i32_mul8 (by omega) (by omega)
          refine V.rd (pc' := 48) (fun hl => lv_aload_n X.1 X.2.1 d_Model_until_47 rfl (lv_at hl 0 rfl)) ?_
          refine V.get (pc' := 51) X hK h_2 uw_Model rfl 11 (by decide) (mcs wd_187) rfl d_Model_until_48 rfl ?_
          refine V.rd (pc' := 52) (fun hl => lv_iload_n X.1 X.2.1 d_Model_until_51 rfl (lv_at hl 1 rfl)) ?_
          refine V.iald (pc' := 53) X hK 0 h_5 rfl (vin (by omega) (by omega)) d_Model_until_52 rfl ?_
          have q_25 := hco x.toNatClampNeg
          refine V.go (pc' := 54) (lv_iadd X.1 X.2.1 d_Model_until_53) ?_
          have s_26 : ((8 * x) + (vcond x.toNatClampNeg)).toInt = (8 * x).toInt + (vcond x.toNatClampNeg).toInt := i32_add (by omega) (by omega)
          refine V.wr (pc' := 56) (lv' := [(6, .int ((8 * x) + (vcond x.toNatClampNeg))), (0, .ref mo), (1, .int x), (2, .int y), (3, .long w), (5, .int b)]) (fun hl => lv_istore X.1 X.2.1 d_Model_until_54 hl (by decide) rfl) ?_
          refine V.rd (pc' := 57) (fun hl => lv_aload_n X.1 X.2.1 d_Model_until_56 rfl (lv_at hl 1 rfl)) ?_
          refine V.get (pc' := 60) X hK h_2 uw_Model rfl 11 (by decide) (mcs wd_187) rfl d_Model_until_57 rfl ?_
          refine V.rd (pc' := 61) (fun hl => lv_iload_n X.1 X.2.1 d_Model_until_60 rfl (lv_at hl 2 rfl)) ?_
          refine V.iald (pc' := 62) X hK 0 h_5 rfl (vin (by omega) (by omega)) d_Model_until_61 rfl ?_
          have q_27 := hco x.toNatClampNeg
          refine V.bn (pc' := 65) (tgt := 73) (P := (vcond x.toNatClampNeg) = 0) (lv_if_ne X.1 X.2.1 d_Model_until_62 (by decide)) (fun c_28 => ?_) (fun c_28 => ?_)
          · have i_29 := congrArg Int32.toInt c_28
            rw [show (0 : Int32).toInt = 0 from rfl] at i_29
            refine V.rd (pc' := 66) (fun hl => lv_aload_n X.1 X.2.1 d_Model_until_65 rfl (lv_at hl 1 rfl)) ?_
            refine V.get (pc' := 69) X hK h_2 uw_Model rfl 13 (by decide) (mcs wd_188) rfl d_Model_until_66 rfl ?_
            refine V.rd (pc' := 70) (fun hl => lv_iload_n X.1 X.2.1 d_Model_until_69 rfl (lv_at hl 2 rfl)) ?_
            refine V.rd (pc' := 72) (fun hl => lv_iload X.1 X.2.1 d_Model_until_70 (lv_at hl 5 rfl)) ?_
            refine V.zast (pc' := 73) X hK 3 h_6 rfl (vin (by omega) (by omega)) hb d_Model_until_72 rfl (fun M_30 h_31 fr_32 => ?_)
            have h_33 : M_30 (ad 9) = some (.inl (cI, 61, .inl vkind)) := (fr_32 _ (ad_ne hinj (i := 9) (j := 13) (by decide) (by decide) (by decide))).trans h_4
            have h_34 : M_30 (ad 11) = some (.inl (cI, 61, .inl vcond)) := (fr_32 _ (ad_ne hinj (i := 11) (j := 13) (by decide) (by decide) (by decide))).trans h_5
            have h_35 : M_30 (ad 14) = some (.inl (cI, 488, .inl vcc)) := (fr_32 _ (ad_ne hinj (i := 14) (j := 13) (by decide) (by decide) (by decide))).trans h_7
            have h_36 : M_30 (ad 16) = some (.inl (cL, 488, .inr (.inl vleast))) := (fr_32 _ (ad_ne hinj (i := 16) (j := 13) (by decide) (by decide) (by decide))).trans h_8
            have h_37 : M_30 mo = some (.inr (6, [.int 0, .ref (ad 1), .ref (ad 2), .int np, .int ns, .ref (ad 5), .ref (ad 6), .ref (ad 7), .ref (ad 8), .ref (ad 9), .ref (ad 10), .ref (ad 11), .ref (ad 12), .ref (ad 13), .ref (ad 14), .ref (ad 15), .ref (ad 16), .ref (ad 17), .ref (ad 18), .ref (ad 19), .ref (ad 20), .ref (ad 21), .int xsize, .int xmost, .int xend, .int xran, .ref (ad 26), .int yend, .int ysize, .int ymost, .int yran, .ref (ad 31), .ref (ad 32)])) := (fr_32 _ (ne_k h_2 h_6 (i := 6) (j := 1061) rfl rfl (by decide))).trans h_2
            refine V.rd (pc' := 74) (fun hl => lv_aload_n X.1 X.2.1 d_Model_until_73 rfl (lv_at hl 1 rfl)) ?_
            refine V.get (pc' := 77) X hK h_37 uw_Model rfl 14 (by decide) (mcs wd_189) rfl d_Model_until_74 rfl ?_
            refine V.rd (pc' := 79) (fun hl => lv_iload X.1 X.2.1 d_Model_until_77 (lv_at hl 0 rfl)) ?_
            refine V.go (pc' := 81) (lv_bipush (v := 8) X.1 X.2.1 d_Model_until_79 (by decide)) ?_
            refine V.go (pc' := 82) (lv_isub X.1 X.2.1 d_Model_until_81) ?_
            have s_38 : (((8 * x) + (vcond x.toNatClampNeg)) - 8).toInt = ((8 * x) + (vcond x.toNatClampNeg)).toInt - 8 := i32_subl (c := 8) rfl (by omega) (by omega)
            refine V.rd (pc' := 83) (fun hl => lv_iload_n X.1 X.2.1 d_Model_until_82 rfl (lv_at hl 3 rfl)) ?_
            refine V.iast (pc' := 84) X hK 0 h_35 rfl (vin (by omega) (by omega)) d_Model_until_83 rfl (fun M_39 h_40 fr_41 => ?_)
            have h_42 : M_39 (ad 9) = some (.inl (cI, 61, .inl vkind)) := (fr_41 _ (ad_ne hinj (i := 9) (j := 14) (by decide) (by decide) (by decide))).trans h_33
            have h_43 : M_39 (ad 11) = some (.inl (cI, 61, .inl vcond)) := (fr_41 _ (ad_ne hinj (i := 11) (j := 14) (by decide) (by decide) (by decide))).trans h_34
            have h_44 : M_39 (ad 16) = some (.inl (cL, 488, .inr (.inl vleast))) := (fr_41 _ (ad_ne hinj (i := 16) (j := 14) (by decide) (by decide) (by decide))).trans h_36
            have h_45 : M_39 mo = some (.inr (6, [.int 0, .ref (ad 1), .ref (ad 2), .int np, .int ns, .ref (ad 5), .ref (ad 6), .ref (ad 7), .ref (ad 8), .ref (ad 9), .ref (ad 10), .ref (ad 11), .ref (ad 12), .ref (ad 13), .ref (ad 14), .ref (ad 15), .ref (ad 16), .ref (ad 17), .ref (ad 18), .ref (ad 19), .ref (ad 20), .ref (ad 21), .int xsize, .int xmost, .int xend, .int xran, .ref (ad 26), .int yend, .int ysize, .int ymost, .int yran, .ref (ad 31), .ref (ad 32)])) := (fr_41 _ (ne_k h_37 h_35 (i := 6) (j := 1488) rfl rfl (by decide))).trans h_37
            have h_46 : M_39 (ad 13) = some (.inl (cB, 61, .inl (upd vask x.toNatClampNeg b))) := (fr_41 _ (ad_ne hinj (i := 13) (j := 14) (by decide) (by decide) (by decide))).trans h_31
            refine V.rd (pc' := 85) (fun hl => lv_aload_n X.1 X.2.1 d_Model_until_84 rfl (lv_at hl 1 rfl)) ?_
            refine V.get (pc' := 88) X hK h_45 uw_Model rfl 16 (by decide) (mcs wd_190) rfl d_Model_until_85 rfl ?_
            refine V.rd (pc' := 90) (fun hl => lv_iload X.1 X.2.1 d_Model_until_88 (lv_at hl 0 rfl)) ?_
            refine V.go (pc' := 92) (lv_bipush (v := 8) X.1 X.2.1 d_Model_until_90 (by decide)) ?_
            refine V.go (pc' := 93) (lv_isub X.1 X.2.1 d_Model_until_92) ?_
            have s_47 : (((8 * x) + (vcond x.toNatClampNeg)) - 8).toInt = ((8 * x) + (vcond x.toNatClampNeg)).toInt - 8 := i32_subl (c := 8) rfl (by omega) (by omega)
            refine V.rd (pc' := 94) (fun hl => lv_lload_n X.1 X.2.1 d_Model_until_93 rfl (lv_at hl 4 rfl)) ?_
            refine V.last (pc' := 95) X hK 1 h_44 rfl (vin (by omega) (by omega)) d_Model_until_94 rfl (fun M_48 h_49 fr_50 => ?_)
            have h_51 : M_48 (ad 9) = some (.inl (cI, 61, .inl vkind)) := (fr_50 _ (ad_ne hinj (i := 9) (j := 16) (by decide) (by decide) (by decide))).trans h_42
            have h_52 : M_48 (ad 11) = some (.inl (cI, 61, .inl vcond)) := (fr_50 _ (ad_ne hinj (i := 11) (j := 16) (by decide) (by decide) (by decide))).trans h_43
            have h_53 : M_48 mo = some (.inr (6, [.int 0, .ref (ad 1), .ref (ad 2), .int np, .int ns, .ref (ad 5), .ref (ad 6), .ref (ad 7), .ref (ad 8), .ref (ad 9), .ref (ad 10), .ref (ad 11), .ref (ad 12), .ref (ad 13), .ref (ad 14), .ref (ad 15), .ref (ad 16), .ref (ad 17), .ref (ad 18), .ref (ad 19), .ref (ad 20), .ref (ad 21), .int xsize, .int xmost, .int xend, .int xran, .ref (ad 26), .int yend, .int ysize, .int ymost, .int yran, .ref (ad 31), .ref (ad 32)])) := (fr_50 _ (ne_k h_45 h_44 (i := 6) (j := 100488) rfl rfl (by decide))).trans h_45
            have h_54 : M_48 (ad 13) = some (.inl (cB, 61, .inl (upd vask x.toNatClampNeg b))) := (fr_50 _ (ad_ne hinj (i := 13) (j := 16) (by decide) (by decide) (by decide))).trans h_46
            have h_55 : M_48 (ad 14) = some (.inl (cI, 488, .inl (upd vcc (((8 * x) + (vcond x.toNatClampNeg)) - 8).toNatClampNeg y))) := (fr_50 _ (ad_ne hinj (i := 14) (j := 16) (by decide) (by decide) (by decide))).trans h_40
            refine V.rd (pc' := 96) (fun hl => lv_aload_n X.1 X.2.1 d_Model_until_95 rfl (lv_at hl 1 rfl)) ?_
            refine V.get (pc' := 99) X hK h_53 uw_Model rfl 11 (by decide) (mcs wd_187) rfl d_Model_until_96 rfl ?_
            refine V.rd (pc' := 100) (fun hl => lv_iload_n X.1 X.2.1 d_Model_until_99 rfl (lv_at hl 2 rfl)) ?_
            refine V.go (pc' := 101) (lv_dup2_11 X.1 X.2.1 d_Model_until_100 rfl rfl) ?_
            refine V.iald (pc' := 102) X hK 0 h_52 rfl (vin (by omega) (by omega)) d_Model_until_101 rfl ?_
            have q_56 := hco x.toNatClampNeg
            refine V.go (pc' := 103) (lv_iconst (v := 1) X.1 X.2.1 d_Model_until_102 (by decide)) ?_
            refine V.go (pc' := 104) (lv_iadd X.1 X.2.1 d_Model_until_103) ?_
            refine V.iast (pc' := 105) X hK 0 h_52 rfl (vin (by omega) (by omega)) d_Model_until_104 rfl (fun M_57 h_58 fr_59 => ?_)
            have h_60 : M_57 (ad 9) = some (.inl (cI, 61, .inl vkind)) := (fr_59 _ (ad_ne hinj (i := 9) (j := 11) (by decide) (by decide) (by decide))).trans h_51
            have h_61 : M_57 mo = some (.inr (6, [.int 0, .ref (ad 1), .ref (ad 2), .int np, .int ns, .ref (ad 5), .ref (ad 6), .ref (ad 7), .ref (ad 8), .ref (ad 9), .ref (ad 10), .ref (ad 11), .ref (ad 12), .ref (ad 13), .ref (ad 14), .ref (ad 15), .ref (ad 16), .ref (ad 17), .ref (ad 18), .ref (ad 19), .ref (ad 20), .ref (ad 21), .int xsize, .int xmost, .int xend, .int xran, .ref (ad 26), .int yend, .int ysize, .int ymost, .int yran, .ref (ad 31), .ref (ad 32)])) := (fr_59 _ (ne_k h_53 h_52 (i := 6) (j := 1061) rfl rfl (by decide))).trans h_53
            have h_62 : M_57 (ad 13) = some (.inl (cB, 61, .inl (upd vask x.toNatClampNeg b))) := (fr_59 _ (ad_ne hinj (i := 13) (j := 11) (by decide) (by decide) (by decide))).trans h_54
            have h_63 : M_57 (ad 14) = some (.inl (cI, 488, .inl (upd vcc (((8 * x) + (vcond x.toNatClampNeg)) - 8).toNatClampNeg y))) := (fr_59 _ (ad_ne hinj (i := 14) (j := 11) (by decide) (by decide) (by decide))).trans h_55
            have h_64 : M_57 (ad 16) = some (.inl (cL, 488, .inr (.inl (vp_updL vleast (((8 * x) + (vcond x.toNatClampNeg)) - 8).toNatClampNeg w)))) := (fr_59 _ (ad_ne hinj (i := 16) (j := 11) (by decide) (by decide) (by decide))).trans h_49
            refine V.rd (pc' := 106) (fun hl => lv_aload_n X.1 X.2.1 d_Model_until_105 rfl (lv_at hl 1 rfl)) ?_
            refine V.get (pc' := 109) X hK h_61 uw_Model rfl 11 (by decide) (mcs wd_187) rfl d_Model_until_106 rfl ?_
            refine V.rd (pc' := 110) (fun hl => lv_iload_n X.1 X.2.1 d_Model_until_109 rfl (lv_at hl 2 rfl)) ?_
            refine V.iald (pc' := 111) X hK 0 h_58 rfl (vin (by omega) (by omega)) d_Model_until_110 rfl ?_
            exact V.iret X hr hlk ⟨(by simp only [sp_M_until, if_neg c_10, if_neg c_14, if_neg c_17, if_neg c_21, if_pos c_28]), h_61, (by simp only [sp_M_until_ad13, if_neg c_10, if_neg c_14, if_neg c_17, if_neg c_21, if_pos c_28]; exact h_62), (by simp only [sp_M_until_ad14, if_neg c_10, if_neg c_14, if_neg c_17, if_neg c_21, if_pos c_28]; exact h_63), (by simp only [sp_M_until_ad16, if_neg c_10, if_neg c_14, if_neg c_17, if_neg c_21, if_pos c_28]; exact h_64), (by simp only [sp_M_until_ad11, if_neg c_10, if_neg c_14, if_neg c_17, if_neg c_21, if_pos c_28]; exact h_58), (fun q n0_ n1_ n2_ n3_ n4_ => (fr_59 q n4_).trans ((fr_50 q n3_).trans ((fr_41 q n2_).trans ((fr_32 q n1_).trans ((fr_3 q n0_))))))⟩ d_Model_until_111
          · have i_65 := mt Int32.toInt_inj.mp c_28
            rw [show (0 : Int32).toInt = 0 from rfl] at i_65
            refine V.rd (pc' := 74) (fun hl => lv_aload_n X.1 X.2.1 d_Model_until_73 rfl (lv_at hl 1 rfl)) ?_
            refine V.get (pc' := 77) X hK h_2 uw_Model rfl 14 (by decide) (mcs wd_189) rfl d_Model_until_74 rfl ?_
            refine V.rd (pc' := 79) (fun hl => lv_iload X.1 X.2.1 d_Model_until_77 (lv_at hl 0 rfl)) ?_
            refine V.go (pc' := 81) (lv_bipush (v := 8) X.1 X.2.1 d_Model_until_79 (by decide)) ?_
            refine V.go (pc' := 82) (lv_isub X.1 X.2.1 d_Model_until_81) ?_
            have s_66 : (((8 * x) + (vcond x.toNatClampNeg)) - 8).toInt = ((8 * x) + (vcond x.toNatClampNeg)).toInt - 8 := i32_subl (c := 8) rfl (by omega) (by omega)
            refine V.rd (pc' := 83) (fun hl => lv_iload_n X.1 X.2.1 d_Model_until_82 rfl (lv_at hl 3 rfl)) ?_
            refine V.iast (pc' := 84) X hK 0 h_7 rfl (vin (by omega) (by omega)) d_Model_until_83 rfl (fun M_67 h_68 fr_69 => ?_)
            have h_70 : M_67 (ad 9) = some (.inl (cI, 61, .inl vkind)) := (fr_69 _ (ad_ne hinj (i := 9) (j := 14) (by decide) (by decide) (by decide))).trans h_4
            have h_71 : M_67 (ad 11) = some (.inl (cI, 61, .inl vcond)) := (fr_69 _ (ad_ne hinj (i := 11) (j := 14) (by decide) (by decide) (by decide))).trans h_5
            have h_72 : M_67 (ad 13) = some (.inl (cB, 61, .inl vask)) := (fr_69 _ (ad_ne hinj (i := 13) (j := 14) (by decide) (by decide) (by decide))).trans h_6
            have h_73 : M_67 (ad 16) = some (.inl (cL, 488, .inr (.inl vleast))) := (fr_69 _ (ad_ne hinj (i := 16) (j := 14) (by decide) (by decide) (by decide))).trans h_8
            have h_74 : M_67 mo = some (.inr (6, [.int 0, .ref (ad 1), .ref (ad 2), .int np, .int ns, .ref (ad 5), .ref (ad 6), .ref (ad 7), .ref (ad 8), .ref (ad 9), .ref (ad 10), .ref (ad 11), .ref (ad 12), .ref (ad 13), .ref (ad 14), .ref (ad 15), .ref (ad 16), .ref (ad 17), .ref (ad 18), .ref (ad 19), .ref (ad 20), .ref (ad 21), .int xsize, .int xmost, .int xend, .int xran, .ref (ad 26), .int yend, .int ysize, .int ymost, .int yran, .ref (ad 31), .ref (ad 32)])) := (fr_69 _ (ne_k h_2 h_7 (i := 6) (j := 1488) rfl rfl (by decide))).trans h_2
            refine V.rd (pc' := 85) (fun hl => lv_aload_n X.1 X.2.1 d_Model_until_84 rfl (lv_at hl 1 rfl)) ?_
            refine V.get (pc' := 88) X hK h_74 uw_Model rfl 16 (by decide) (mcs wd_190) rfl d_Model_until_85 rfl ?_
            refine V.rd (pc' := 90) (fun hl => lv_iload X.1 X.2.1 d_Model_until_88 (lv_at hl 0 rfl)) ?_
            refine V.go (pc' := 92) (lv_bipush (v := 8) X.1 X.2.1 d_Model_until_90 (by decide)) ?_
            refine V.go (pc' := 93) (lv_isub X.1 X.2.1 d_Model_until_92) ?_
            have s_75 : (((8 * x) + (vcond x.toNatClampNeg)) - 8).toInt = ((8 * x) + (vcond x.toNatClampNeg)).toInt - 8 := i32_subl (c := 8) rfl (by omega) (by omega)
            refine V.rd (pc' := 94) (fun hl => lv_lload_n X.1 X.2.1 d_Model_until_93 rfl (lv_at hl 4 rfl)) ?_
            refine V.last (pc' := 95) X hK 1 h_73 rfl (vin (by omega) (by omega)) d_Model_until_94 rfl (fun M_76 h_77 fr_78 => ?_)
            have h_79 : M_76 (ad 9) = some (.inl (cI, 61, .inl vkind)) := (fr_78 _ (ad_ne hinj (i := 9) (j := 16) (by decide) (by decide) (by decide))).trans h_70
            have h_80 : M_76 (ad 11) = some (.inl (cI, 61, .inl vcond)) := (fr_78 _ (ad_ne hinj (i := 11) (j := 16) (by decide) (by decide) (by decide))).trans h_71
            have h_81 : M_76 (ad 13) = some (.inl (cB, 61, .inl vask)) := (fr_78 _ (ad_ne hinj (i := 13) (j := 16) (by decide) (by decide) (by decide))).trans h_72
            have h_82 : M_76 mo = some (.inr (6, [.int 0, .ref (ad 1), .ref (ad 2), .int np, .int ns, .ref (ad 5), .ref (ad 6), .ref (ad 7), .ref (ad 8), .ref (ad 9), .ref (ad 10), .ref (ad 11), .ref (ad 12), .ref (ad 13), .ref (ad 14), .ref (ad 15), .ref (ad 16), .ref (ad 17), .ref (ad 18), .ref (ad 19), .ref (ad 20), .ref (ad 21), .int xsize, .int xmost, .int xend, .int xran, .ref (ad 26), .int yend, .int ysize, .int ymost, .int yran, .ref (ad 31), .ref (ad 32)])) := (fr_78 _ (ne_k h_74 h_73 (i := 6) (j := 100488) rfl rfl (by decide))).trans h_74
            have h_83 : M_76 (ad 14) = some (.inl (cI, 488, .inl (upd vcc (((8 * x) + (vcond x.toNatClampNeg)) - 8).toNatClampNeg y))) := (fr_78 _ (ad_ne hinj (i := 14) (j := 16) (by decide) (by decide) (by decide))).trans h_68
            refine V.rd (pc' := 96) (fun hl => lv_aload_n X.1 X.2.1 d_Model_until_95 rfl (lv_at hl 1 rfl)) ?_
            refine V.get (pc' := 99) X hK h_82 uw_Model rfl 11 (by decide) (mcs wd_187) rfl d_Model_until_96 rfl ?_
            refine V.rd (pc' := 100) (fun hl => lv_iload_n X.1 X.2.1 d_Model_until_99 rfl (lv_at hl 2 rfl)) ?_
            refine V.go (pc' := 101) (lv_dup2_11 X.1 X.2.1 d_Model_until_100 rfl rfl) ?_
            refine V.iald (pc' := 102) X hK 0 h_80 rfl (vin (by omega) (by omega)) d_Model_until_101 rfl ?_
            have q_84 := hco x.toNatClampNeg
            refine V.go (pc' := 103) (lv_iconst (v := 1) X.1 X.2.1 d_Model_until_102 (by decide)) ?_
            refine V.go (pc' := 104) (lv_iadd X.1 X.2.1 d_Model_until_103) ?_
            refine V.iast (pc' := 105) X hK 0 h_80 rfl (vin (by omega) (by omega)) d_Model_until_104 rfl (fun M_85 h_86 fr_87 => ?_)
            have h_88 : M_85 (ad 9) = some (.inl (cI, 61, .inl vkind)) := (fr_87 _ (ad_ne hinj (i := 9) (j := 11) (by decide) (by decide) (by decide))).trans h_79
            have h_89 : M_85 (ad 13) = some (.inl (cB, 61, .inl vask)) := (fr_87 _ (ad_ne hinj (i := 13) (j := 11) (by decide) (by decide) (by decide))).trans h_81
            have h_90 : M_85 mo = some (.inr (6, [.int 0, .ref (ad 1), .ref (ad 2), .int np, .int ns, .ref (ad 5), .ref (ad 6), .ref (ad 7), .ref (ad 8), .ref (ad 9), .ref (ad 10), .ref (ad 11), .ref (ad 12), .ref (ad 13), .ref (ad 14), .ref (ad 15), .ref (ad 16), .ref (ad 17), .ref (ad 18), .ref (ad 19), .ref (ad 20), .ref (ad 21), .int xsize, .int xmost, .int xend, .int xran, .ref (ad 26), .int yend, .int ysize, .int ymost, .int yran, .ref (ad 31), .ref (ad 32)])) := (fr_87 _ (ne_k h_82 h_80 (i := 6) (j := 1061) rfl rfl (by decide))).trans h_82
            have h_91 : M_85 (ad 14) = some (.inl (cI, 488, .inl (upd vcc (((8 * x) + (vcond x.toNatClampNeg)) - 8).toNatClampNeg y))) := (fr_87 _ (ad_ne hinj (i := 14) (j := 11) (by decide) (by decide) (by decide))).trans h_83
            have h_92 : M_85 (ad 16) = some (.inl (cL, 488, .inr (.inl (vp_updL vleast (((8 * x) + (vcond x.toNatClampNeg)) - 8).toNatClampNeg w)))) := (fr_87 _ (ad_ne hinj (i := 16) (j := 11) (by decide) (by decide) (by decide))).trans h_77
            refine V.rd (pc' := 106) (fun hl => lv_aload_n X.1 X.2.1 d_Model_until_105 rfl (lv_at hl 1 rfl)) ?_
            refine V.get (pc' := 109) X hK h_90 uw_Model rfl 11 (by decide) (mcs wd_187) rfl d_Model_until_106 rfl ?_
            refine V.rd (pc' := 110) (fun hl => lv_iload_n X.1 X.2.1 d_Model_until_109 rfl (lv_at hl 2 rfl)) ?_
            refine V.iald (pc' := 111) X hK 0 h_86 rfl (vin (by omega) (by omega)) d_Model_until_110 rfl ?_
            exact V.iret X hr hlk ⟨(by simp only [sp_M_until, if_neg c_10, if_neg c_14, if_neg c_17, if_neg c_21, if_neg c_28]), h_90, (by simp only [sp_M_until_ad13, if_neg c_10, if_neg c_14, if_neg c_17, if_neg c_21, if_neg c_28]; exact h_89), (by simp only [sp_M_until_ad14, if_neg c_10, if_neg c_14, if_neg c_17, if_neg c_21, if_neg c_28]; exact h_91), (by simp only [sp_M_until_ad16, if_neg c_10, if_neg c_14, if_neg c_17, if_neg c_21, if_neg c_28]; exact h_92), (by simp only [sp_M_until_ad11, if_neg c_10, if_neg c_14, if_neg c_17, if_neg c_21, if_neg c_28]; exact h_86), (fun q n0_ n1_ n2_ n3_ n4_ => (fr_87 q n4_).trans ((fr_78 q n3_).trans ((fr_69 q n2_).trans ((fr_3 q n0_)))))⟩ d_Model_until_111

theorem d_Model_vary_0 : decode prog_8_method_9_code 0 = .ok (.aload_n 0, 1) := by decide +kernel
theorem d_Model_vary_1 : decode prog_8_method_9_code 1 = .ok (.iconst 0, 1) := by decide +kernel
theorem d_Model_vary_2 : decode prog_8_method_9_code 2 = .ok (.putfield 82, 3) := by decide +kernel
theorem d_Model_vary_5 : decode prog_8_method_9_code 5 = .ok (.aload_n 0, 1) := by decide +kernel
theorem d_Model_vary_6 : decode prog_8_method_9_code 6 = .ok (.iload_n 1, 1) := by decide +kernel
theorem d_Model_vary_7 : decode prog_8_method_9_code 7 = .ok (.invokevirtual 95, 3) := by decide +kernel
theorem d_Model_vary_10 : decode prog_8_method_9_code 10 = .ok (.ifCond .eq 43, 3) := by decide +kernel
theorem d_Model_vary_13 : decode prog_8_method_9_code 13 = .ok (.iload_n 3, 1) := by decide +kernel
theorem d_Model_vary_14 : decode prog_8_method_9_code 14 = .ok (.invokestatic 98, 3) := by decide +kernel
theorem d_Model_vary_17 : decode prog_8_method_9_code 17 = .ok (.ifCond .eq 36, 3) := by decide +kernel
theorem d_Model_vary_20 : decode prog_8_method_9_code 20 = .ok (.aload_n 0, 1) := by decide +kernel
theorem d_Model_vary_21 : decode prog_8_method_9_code 21 = .ok (.getfield 29, 3) := by decide +kernel
theorem d_Model_vary_24 : decode prog_8_method_9_code 24 = .ok (.iload_n 1, 1) := by decide +kernel
theorem d_Model_vary_25 : decode prog_8_method_9_code 25 = .ok (.iaload, 1) := by decide +kernel
theorem d_Model_vary_26 : decode prog_8_method_9_code 26 = .ok (.iconst 3, 1) := by decide +kernel
theorem d_Model_vary_27 : decode prog_8_method_9_code 27 = .ok (.if_icmp .ne 26, 3) := by decide +kernel
theorem d_Model_vary_30 : decode prog_8_method_9_code 30 = .ok (.iload_n 2, 1) := by decide +kernel
theorem d_Model_vary_31 : decode prog_8_method_9_code 31 = .ok (.iconst 1, 1) := by decide +kernel
theorem d_Model_vary_32 : decode prog_8_method_9_code 32 = .ok (.if_icmp .lt 21, 3) := by decide +kernel
theorem d_Model_vary_35 : decode prog_8_method_9_code 35 = .ok (.iload_n 2, 1) := by decide +kernel
theorem d_Model_vary_36 : decode prog_8_method_9_code 36 = .ok (.bipush 7, 2) := by decide +kernel
theorem d_Model_vary_38 : decode prog_8_method_9_code 38 = .ok (.if_icmp .gt 15, 3) := by decide +kernel
theorem d_Model_vary_41 : decode prog_8_method_9_code 41 = .ok (.iload_n 2, 1) := by decide +kernel
theorem d_Model_vary_42 : decode prog_8_method_9_code 42 = .ok (.aload_n 0, 1) := by decide +kernel
theorem d_Model_vary_43 : decode prog_8_method_9_code 43 = .ok (.getfield 38, 3) := by decide +kernel
theorem d_Model_vary_46 : decode prog_8_method_9_code 46 = .ok (.iload_n 1, 1) := by decide +kernel
theorem d_Model_vary_47 : decode prog_8_method_9_code 47 = .ok (.iaload, 1) := by decide +kernel
theorem d_Model_vary_48 : decode prog_8_method_9_code 48 = .ok (.iconst 1, 1) := by decide +kernel
theorem d_Model_vary_49 : decode prog_8_method_9_code 49 = .ok (.iadd, 1) := by decide +kernel
theorem d_Model_vary_50 : decode prog_8_method_9_code 50 = .ok (.if_icmp .le 5, 3) := by decide +kernel
theorem d_Model_vary_53 : decode prog_8_method_9_code 53 = .ok (.iconst (-1), 1) := by decide +kernel
theorem d_Model_vary_54 : decode prog_8_method_9_code 54 = .ok (.ireturn, 1) := by decide +kernel
theorem d_Model_vary_55 : decode prog_8_method_9_code 55 = .ok (.bipush 8, 2) := by decide +kernel
theorem d_Model_vary_57 : decode prog_8_method_9_code 57 = .ok (.iload_n 1, 1) := by decide +kernel
theorem d_Model_vary_58 : decode prog_8_method_9_code 58 = .ok (.iconst 1, 1) := by decide +kernel
theorem d_Model_vary_59 : decode prog_8_method_9_code 59 = .ok (.isub, 1) := by decide +kernel
theorem d_Model_vary_60 : decode prog_8_method_9_code 60 = .ok (.imul, 1) := by decide +kernel
theorem d_Model_vary_61 : decode prog_8_method_9_code 61 = .ok (.iload_n 2, 1) := by decide +kernel
theorem d_Model_vary_62 : decode prog_8_method_9_code 62 = .ok (.iadd, 1) := by decide +kernel
theorem d_Model_vary_63 : decode prog_8_method_9_code 63 = .ok (.iconst 1, 1) := by decide +kernel
theorem d_Model_vary_64 : decode prog_8_method_9_code 64 = .ok (.isub, 1) := by decide +kernel
theorem d_Model_vary_65 : decode prog_8_method_9_code 65 = .ok (.istore 8, 2) := by decide +kernel
theorem d_Model_vary_67 : decode prog_8_method_9_code 67 = .ok (.aload_n 0, 1) := by decide +kernel
theorem d_Model_vary_68 : decode prog_8_method_9_code 68 = .ok (.getfield 48, 3) := by decide +kernel
theorem d_Model_vary_71 : decode prog_8_method_9_code 71 = .ok (.iload 8, 2) := by decide +kernel
theorem d_Model_vary_73 : decode prog_8_method_9_code 73 = .ok (.iload_n 3, 1) := by decide +kernel
theorem d_Model_vary_74 : decode prog_8_method_9_code 74 = .ok (.iastore, 1) := by decide +kernel
theorem d_Model_vary_75 : decode prog_8_method_9_code 75 = .ok (.aload_n 0, 1) := by decide +kernel
theorem d_Model_vary_76 : decode prog_8_method_9_code 76 = .ok (.getfield 54, 3) := by decide +kernel
theorem d_Model_vary_79 : decode prog_8_method_9_code 79 = .ok (.iload 8, 2) := by decide +kernel
theorem d_Model_vary_81 : decode prog_8_method_9_code 81 = .ok (.lload 4, 2) := by decide +kernel
theorem d_Model_vary_83 : decode prog_8_method_9_code 83 = .ok (.lastore, 1) := by decide +kernel
theorem d_Model_vary_84 : decode prog_8_method_9_code 84 = .ok (.aload_n 0, 1) := by decide +kernel
theorem d_Model_vary_85 : decode prog_8_method_9_code 85 = .ok (.getfield 57, 3) := by decide +kernel
theorem d_Model_vary_88 : decode prog_8_method_9_code 88 = .ok (.iload 8, 2) := by decide +kernel
theorem d_Model_vary_90 : decode prog_8_method_9_code 90 = .ok (.lload 6, 2) := by decide +kernel
theorem d_Model_vary_92 : decode prog_8_method_9_code 92 = .ok (.lastore, 1) := by decide +kernel
theorem d_Model_vary_93 : decode prog_8_method_9_code 93 = .ok (.aload_n 0, 1) := by decide +kernel
theorem d_Model_vary_94 : decode prog_8_method_9_code 94 = .ok (.getfield 38, 3) := by decide +kernel
theorem d_Model_vary_97 : decode prog_8_method_9_code 97 = .ok (.iload_n 1, 1) := by decide +kernel
theorem d_Model_vary_98 : decode prog_8_method_9_code 98 = .ok (.iload_n 2, 1) := by decide +kernel
theorem d_Model_vary_99 : decode prog_8_method_9_code 99 = .ok (.aload_n 0, 1) := by decide +kernel
theorem d_Model_vary_100 : decode prog_8_method_9_code 100 = .ok (.getfield 38, 3) := by decide +kernel
theorem d_Model_vary_103 : decode prog_8_method_9_code 103 = .ok (.iload_n 1, 1) := by decide +kernel
theorem d_Model_vary_104 : decode prog_8_method_9_code 104 = .ok (.iaload, 1) := by decide +kernel
theorem d_Model_vary_105 : decode prog_8_method_9_code 105 = .ok (.if_icmp .le 7, 3) := by decide +kernel
theorem d_Model_vary_108 : decode prog_8_method_9_code 108 = .ok (.iload_n 2, 1) := by decide +kernel
theorem d_Model_vary_109 : decode prog_8_method_9_code 109 = .ok (.goto 9, 3) := by decide +kernel
theorem d_Model_vary_112 : decode prog_8_method_9_code 112 = .ok (.aload_n 0, 1) := by decide +kernel
theorem d_Model_vary_113 : decode prog_8_method_9_code 113 = .ok (.getfield 38, 3) := by decide +kernel
theorem d_Model_vary_116 : decode prog_8_method_9_code 116 = .ok (.iload_n 1, 1) := by decide +kernel
theorem d_Model_vary_117 : decode prog_8_method_9_code 117 = .ok (.iaload, 1) := by decide +kernel
theorem d_Model_vary_118 : decode prog_8_method_9_code 118 = .ok (.iastore, 1) := by decide +kernel
theorem d_Model_vary_119 : decode prog_8_method_9_code 119 = .ok (.aload_n 0, 1) := by decide +kernel
theorem d_Model_vary_120 : decode prog_8_method_9_code 120 = .ok (.getfield 38, 3) := by decide +kernel
theorem d_Model_vary_123 : decode prog_8_method_9_code 123 = .ok (.iload_n 1, 1) := by decide +kernel
theorem d_Model_vary_124 : decode prog_8_method_9_code 124 = .ok (.iaload, 1) := by decide +kernel
theorem d_Model_vary_125 : decode prog_8_method_9_code 125 = .ok (.ireturn, 1) := by decide +kernel

def sp_M_vary (ns : Int32) (vkind : Nat → Int32) (vlev : Nat → Int32) (x : Int32) (y : Int32) (cx : Int32) : Int32 := if (sp_M_isStatement ns x) = 0 then (-1) else if (sp_M_isCell cx) = 0 then (-1) else if (vkind x.toNatClampNeg) = 3 then (if y < 1 then (-1) else if 7 < y then (-1) else if y ≤ ((vlev x.toNatClampNeg) + 1) then (if y ≤ (vlev x.toNatClampNeg) then (upd vlev x.toNatClampNeg (vlev x.toNatClampNeg)) x.toNatClampNeg else (upd vlev x.toNatClampNeg y) x.toNatClampNeg) else (-1)) else (-1)
def sp_M_vary_ad15 (ns : Int32) (vkind : Nat → Int32) (vlev : Nat → Int32) (vvar : Nat → Int32) (x : Int32) (y : Int32) (cx : Int32) : Nat → Int32 := if (sp_M_isStatement ns x) = 0 then vvar else if (sp_M_isCell cx) = 0 then vvar else if (vkind x.toNatClampNeg) = 3 then (if y < 1 then vvar else if 7 < y then vvar else if y ≤ ((vlev x.toNatClampNeg) + 1) then upd vvar (((8 * (x - 1)) + y) - 1).toNatClampNeg cx else vvar) else vvar
def sp_M_vary_ad17 (ns : Int32) (vkind : Nat → Int32) (vlev : Nat → Int32) (vfirst : Nat → Int64) (x : Int32) (y : Int32) (cx : Int32) (w : Int64) : Nat → Int64 := if (sp_M_isStatement ns x) = 0 then vfirst else if (sp_M_isCell cx) = 0 then vfirst else if (vkind x.toNatClampNeg) = 3 then (if y < 1 then vfirst else if 7 < y then vfirst else if y ≤ ((vlev x.toNatClampNeg) + 1) then vp_updL vfirst (((8 * (x - 1)) + y) - 1).toNatClampNeg w else vfirst) else vfirst
def sp_M_vary_ad18 (ns : Int32) (vkind : Nat → Int32) (vlev : Nat → Int32) (vstep : Nat → Int64) (x : Int32) (y : Int32) (cx : Int32) (w2 : Int64) : Nat → Int64 := if (sp_M_isStatement ns x) = 0 then vstep else if (sp_M_isCell cx) = 0 then vstep else if (vkind x.toNatClampNeg) = 3 then (if y < 1 then vstep else if 7 < y then vstep else if y ≤ ((vlev x.toNatClampNeg) + 1) then vp_updL vstep (((8 * (x - 1)) + y) - 1).toNatClampNeg w2 else vstep) else vstep
def sp_M_vary_ad12 (ns : Int32) (vkind : Nat → Int32) (vlev : Nat → Int32) (x : Int32) (y : Int32) (cx : Int32) : Nat → Int32 := if (sp_M_isStatement ns x) = 0 then vlev else if (sp_M_isCell cx) = 0 then vlev else if (vkind x.toNatClampNeg) = 3 then (if y < 1 then vlev else if 7 < y then vlev else if y ≤ ((vlev x.toNatClampNeg) + 1) then (if y ≤ (vlev x.toNatClampNeg) then upd vlev x.toNatClampNeg (vlev x.toNatClampNeg) else upd vlev x.toNatClampNeg y) else vlev) else vlev
set_option maxHeartbeats 4000000 in
set_option maxRecDepth 100000 in
theorem c_M_vary {l : Launch} {H0 : Heap} {D : va_G} {cI cL cQ cB : ClassId} {M : mp} {mo : Nat} {ad : Nat → Nat} (hinj : ∀ i j : Nat, i < 33 → j < 33 → ad i = ad j → i = j) {xcode : Int32} {np : Int32} {ns : Int32} {xsize : Int32} {xmost : Int32} {xend : Int32} {xran : Int32} {yend : Int32} {ysize : Int32} {ymost : Int32} {yran : Int32} {vkind : Nat → Int32} {vlev : Nat → Int32} {vvar : Nat → Int32} {vfirst : Nat → Int64} {vstep : Nat → Int64} {x : Int32} {y : Int32} {cx : Int32} {w : Int64} {w2 : Int64} (hns : 0 ≤ ns.toInt ∧ ns.toInt ≤ 60) (hle : ∀ i : Nat, 0 ≤ (vlev i).toInt ∧ (vlev i).toInt ≤ 7) (gh0 : M mo = some (.inr (6, [.int xcode, .ref (ad 1), .ref (ad 2), .int np, .int ns, .ref (ad 5), .ref (ad 6), .ref (ad 7), .ref (ad 8), .ref (ad 9), .ref (ad 10), .ref (ad 11), .ref (ad 12), .ref (ad 13), .ref (ad 14), .ref (ad 15), .ref (ad 16), .ref (ad 17), .ref (ad 18), .ref (ad 19), .ref (ad 20), .ref (ad 21), .int xsize, .int xmost, .int xend, .int xran, .ref (ad 26), .int yend, .int ysize, .int ymost, .int yran, .ref (ad 31), .ref (ad 32)]))) (gh1 : M (ad 9) = some (.inl (cI, 61, .inl vkind))) (gh2 : M (ad 12) = some (.inl (cI, 61, .inl vlev))) (gh3 : M (ad 15) = some (.inl (cI, 488, .inl vvar))) (gh4 : M (ad 17) = some (.inl (cL, 488, .inr (.inl vfirst)))) (gh5 : M (ad 18) = some (.inl (cL, 488, .inr (.inl vstep)))) : MC l H0 D cls7 (tysOf cI cL cQ cB) NW ({ cls := "PerformRangesModel", name := "vary", desc := "(IIIJJ)I" } : Jvm.MethodName) (Cond.code ({ cls := "PerformRangesModel", name := "vary", desc := "(IIIJJ)I" } : Jvm.MethodName) prog_8_method_9_code 9 (Option.some Jvm.ClassFile.FieldType.int) :: GW) ({ frames := 1, cells := 0, slots := 0, locals := 21 }) [.ref mo, .int x, .int y, .int cx, .long w, .long w2] M (fun v M' => v = some (.int (sp_M_vary ns vkind vlev x y cx)) ∧ M' mo = some (.inr (6, [.int 0, .ref (ad 1), .ref (ad 2), .int np, .int ns, .ref (ad 5), .ref (ad 6), .ref (ad 7), .ref (ad 8), .ref (ad 9), .ref (ad 10), .ref (ad 11), .ref (ad 12), .ref (ad 13), .ref (ad 14), .ref (ad 15), .ref (ad 16), .ref (ad 17), .ref (ad 18), .ref (ad 19), .ref (ad 20), .ref (ad 21), .int xsize, .int xmost, .int xend, .int xran, .ref (ad 26), .int yend, .int ysize, .int ymost, .int yran, .ref (ad 31), .ref (ad 32)])) ∧ M' (ad 15) = some (.inl (cI, 488, .inl (sp_M_vary_ad15 ns vkind vlev vvar x y cx))) ∧ M' (ad 17) = some (.inl (cL, 488, .inr (.inl (sp_M_vary_ad17 ns vkind vlev vfirst x y cx w)))) ∧ M' (ad 18) = some (.inl (cL, 488, .inr (.inl (sp_M_vary_ad18 ns vkind vlev vstep x y cx w2)))) ∧ M' (ad 12) = some (.inl (cI, 61, .inl (sp_M_vary_ad12 ns vkind vlev x y cx))) ∧ (∀ q, q ≠ mo → q ≠ (ad 15) → q ≠ (ad 17) → q ≠ (ad 18) → q ≠ (ad 12) → M' q = M q)) := by
  refine MC.of (cc := prog_8_method_9_code) (nL := 9) (ret := (Option.some Jvm.ClassFile.FieldType.int)) (lv := [(0, .ref mo), (1, .int x), (2, .int y), (3, .int cx), (4, .long w), (6, .long w2)]) (by decide) rfl (Nat.le_of_ble_eq_true rfl) rfl ?_
  intro p e s m below meth c X hr hlk hnm hK
  refine V.rd (pc' := 1) (fun hl => lv_aload_n X.1 X.2.1 d_Model_vary_0 rfl (lv_at hl 0 rfl)) ?_
  refine V.go (pc' := 2) (lv_iconst (v := 0) X.1 X.2.1 d_Model_vary_1 (by decide)) ?_
  refine V.put (pc' := 5) X hK gh0 uw_Model t_Model tok_Model nm_Model rfl 0 (by decide) (mcs wd_167) rfl rfl rfl (Nat.le_of_ble_eq_true rfl) (fs' := [.int 0, .ref (ad 1), .ref (ad 2), .int np, .int ns, .ref (ad 5), .ref (ad 6), .ref (ad 7), .ref (ad 8), .ref (ad 9), .ref (ad 10), .ref (ad 11), .ref (ad 12), .ref (ad 13), .ref (ad 14), .ref (ad 15), .ref (ad 16), .ref (ad 17), .ref (ad 18), .ref (ad 19), .ref (ad 20), .ref (ad 21), .int xsize, .int xmost, .int xend, .int xran, .ref (ad 26), .int yend, .int ysize, .int ymost, .int yran, .ref (ad 31), .ref (ad 32)]) rfl d_Model_vary_2 rfl (fun M_1 h_2 fr_3 => ?_)
  have h_4 : M_1 (ad 9) = some (.inl (cI, 61, .inl vkind)) := (fr_3 _ (ne_k gh1 gh0 (i := 1061) (j := 6) rfl rfl (by decide))).trans gh1
  have h_5 : M_1 (ad 12) = some (.inl (cI, 61, .inl vlev)) := (fr_3 _ (ne_k gh2 gh0 (i := 1061) (j := 6) rfl rfl (by decide))).trans gh2
  have h_6 : M_1 (ad 15) = some (.inl (cI, 488, .inl vvar)) := (fr_3 _ (ne_k gh3 gh0 (i := 1488) (j := 6) rfl rfl (by decide))).trans gh3
  have h_7 : M_1 (ad 17) = some (.inl (cL, 488, .inr (.inl vfirst))) := (fr_3 _ (ne_k gh4 gh0 (i := 100488) (j := 6) rfl rfl (by decide))).trans gh4
  have h_8 : M_1 (ad 18) = some (.inl (cL, 488, .inr (.inl vstep))) := (fr_3 _ (ne_k gh5 gh0 (i := 100488) (j := 6) rfl rfl (by decide))).trans gh5
  refine V.rd (pc' := 6) (fun hl => lv_aload_n X.1 X.2.1 d_Model_vary_5 rfl (lv_at hl 0 rfl)) ?_
  refine V.rd (pc' := 7) (fun hl => lv_iload_n X.1 X.2.1 d_Model_vary_6 rfl (lv_at hl 1 rfl)) ?_
  refine V.callV0 (pc' := 10) X hK (c_M_isStatement hinj (mo := mo) (xcode := 0) (np := np) (ns := ns) (xsize := xsize) (xmost := xmost) (xend := xend) (xran := xran) (yend := yend) (ysize := ysize) (ymost := ymost) (yran := yran) (x := x)   h_2  ) h_2 rfl (cwG (n := 1) X (mcs wd_180) (mcs wd_181) (mcs wd_182) (mcs wd_174) wd_183 (by decide +kernel) (by decide) (by decide)) rfl rfl (Nat.le_of_ble_eq_true rfl) d_Model_vary_7 ⟨by decide, by decide⟩ rfl (st1 := [.int (sp_M_isStatement ns x)]) rfl ?_
  refine V.br (pc' := 13) (tgt := 53) (P := (sp_M_isStatement ns x) = 0) (lv_if_eq X.1 X.2.1 d_Model_vary_10 (by decide)) (fun c_10 => ?_) (fun c_10 => ?_)
  · have i_11 := congrArg Int32.toInt c_10
    rw [show (0 : Int32).toInt = 0 from rfl] at i_11
    refine V.go (pc' := 54) (lv_iconst (v := (-1)) X.1 X.2.1 d_Model_vary_53 (by decide)) ?_
    exact V.iret X hr hlk ⟨(by simp only [sp_M_vary, if_pos c_10]), h_2, (by simp only [sp_M_vary_ad15, if_pos c_10]; exact h_6), (by simp only [sp_M_vary_ad17, if_pos c_10]; exact h_7), (by simp only [sp_M_vary_ad18, if_pos c_10]; exact h_8), (by simp only [sp_M_vary_ad12, if_pos c_10]; exact h_5), (fun q n0_ n1_ n2_ n3_ n4_ => (fr_3 q n0_))⟩ d_Model_vary_54
  · have i_12 := M_isSta_ne c_10
    refine V.rd (pc' := 14) (fun hl => lv_iload_n X.1 X.2.1 d_Model_vary_13 rfl (lv_at hl 3 rfl)) ?_
    refine V.callS0 (pc' := 17) X hK (c_M_isCell  (x := cx)     ) (csG (n := 1) X (mcs wd_184) (mcs wd_185) (mcs wd_174) wd_186 (by decide +kernel) (by decide) (by decide)) rfl rfl (Nat.le_of_ble_eq_true rfl) d_Model_vary_14 ⟨by decide, by decide⟩ rfl (st1 := [.int (sp_M_isCell cx)]) rfl ?_
    refine V.br (pc' := 20) (tgt := 53) (P := (sp_M_isCell cx) = 0) (lv_if_eq X.1 X.2.1 d_Model_vary_17 (by decide)) (fun c_14 => ?_) (fun c_14 => ?_)
    · have i_15 := congrArg Int32.toInt c_14
      rw [show (0 : Int32).toInt = 0 from rfl] at i_15
      refine V.go (pc' := 54) (lv_iconst (v := (-1)) X.1 X.2.1 d_Model_vary_53 (by decide)) ?_
      exact V.iret X hr hlk ⟨(by simp only [sp_M_vary, if_neg c_10, if_pos c_14]), h_2, (by simp only [sp_M_vary_ad15, if_neg c_10, if_pos c_14]; exact h_6), (by simp only [sp_M_vary_ad17, if_neg c_10, if_pos c_14]; exact h_7), (by simp only [sp_M_vary_ad18, if_neg c_10, if_pos c_14]; exact h_8), (by simp only [sp_M_vary_ad12, if_neg c_10, if_pos c_14]; exact h_5), (fun q n0_ n1_ n2_ n3_ n4_ => (fr_3 q n0_))⟩ d_Model_vary_54
    · have i_16 := M_isCell_ne c_14
      refine V.rd (pc' := 21) (fun hl => lv_aload_n X.1 X.2.1 d_Model_vary_20 rfl (lv_at hl 0 rfl)) ?_
      refine V.get (pc' := 24) X hK h_2 uw_Model rfl 9 (by decide) (mcs wd_178) rfl d_Model_vary_21 rfl ?_
      refine V.rd (pc' := 25) (fun hl => lv_iload_n X.1 X.2.1 d_Model_vary_24 rfl (lv_at hl 1 rfl)) ?_
      refine V.iald (pc' := 26) X hK 0 h_4 rfl (vin (by omega) (by omega)) d_Model_vary_25 rfl ?_
      refine V.go (pc' := 27) (lv_iconst (v := 3) X.1 X.2.1 d_Model_vary_26 (by decide)) ?_
      refine V.bn (pc' := 30) (tgt := 53) (P := (vkind x.toNatClampNeg) = 3) (lv_icmp_ne X.1 X.2.1 d_Model_vary_27 (by decide)) (fun c_17 => ?_) (fun c_17 => ?_)
      · have i_18 := congrArg Int32.toInt c_17
        rw [show (3 : Int32).toInt = 3 from rfl] at i_18
        refine V.rd (pc' := 31) (fun hl => lv_iload_n X.1 X.2.1 d_Model_vary_30 rfl (lv_at hl 2 rfl)) ?_
        refine V.go (pc' := 32) (lv_iconst (v := 1) X.1 X.2.1 d_Model_vary_31 (by decide)) ?_
        refine V.br (pc' := 35) (tgt := 53) (P := y < 1) (lv_icmp_lt X.1 X.2.1 d_Model_vary_32 (by decide)) (fun c_19 => ?_) (fun c_19 => ?_)
        · have i_20 := Int32.lt_iff_toInt_lt.mp c_19
          rw [show (1 : Int32).toInt = 1 from rfl] at i_20
          refine V.go (pc' := 54) (lv_iconst (v := (-1)) X.1 X.2.1 d_Model_vary_53 (by decide)) ?_
          exact V.iret X hr hlk ⟨(by simp only [sp_M_vary, if_neg c_10, if_neg c_14, if_pos c_17, if_pos c_19]), h_2, (by simp only [sp_M_vary_ad15, if_neg c_10, if_neg c_14, if_pos c_17, if_pos c_19]; exact h_6), (by simp only [sp_M_vary_ad17, if_neg c_10, if_neg c_14, if_pos c_17, if_pos c_19]; exact h_7), (by simp only [sp_M_vary_ad18, if_neg c_10, if_neg c_14, if_pos c_17, if_pos c_19]; exact h_8), (by simp only [sp_M_vary_ad12, if_neg c_10, if_neg c_14, if_pos c_17, if_pos c_19]; exact h_5), (fun q n0_ n1_ n2_ n3_ n4_ => (fr_3 q n0_))⟩ d_Model_vary_54
        · have i_21 := mt Int32.lt_iff_toInt_lt.mpr c_19
          rw [show (1 : Int32).toInt = 1 from rfl] at i_21
          refine V.rd (pc' := 36) (fun hl => lv_iload_n X.1 X.2.1 d_Model_vary_35 rfl (lv_at hl 2 rfl)) ?_
          refine V.go (pc' := 38) (lv_bipush (v := 7) X.1 X.2.1 d_Model_vary_36 (by decide)) ?_
          refine V.br (pc' := 41) (tgt := 53) (P := 7 < y) (lv_icmp_gt X.1 X.2.1 d_Model_vary_38 (by decide)) (fun c_22 => ?_) (fun c_22 => ?_)
          · have i_23 := Int32.lt_iff_toInt_lt.mp c_22
            rw [show (7 : Int32).toInt = 7 from rfl] at i_23
            refine V.go (pc' := 54) (lv_iconst (v := (-1)) X.1 X.2.1 d_Model_vary_53 (by decide)) ?_
            exact V.iret X hr hlk ⟨(by simp only [sp_M_vary, if_neg c_10, if_neg c_14, if_pos c_17, if_neg c_19, if_pos c_22]), h_2, (by simp only [sp_M_vary_ad15, if_neg c_10, if_neg c_14, if_pos c_17, if_neg c_19, if_pos c_22]; exact h_6), (by simp only [sp_M_vary_ad17, if_neg c_10, if_neg c_14, if_pos c_17, if_neg c_19, if_pos c_22]; exact h_7), (by simp only [sp_M_vary_ad18, if_neg c_10, if_neg c_14, if_pos c_17, if_neg c_19, if_pos c_22]; exact h_8), (by simp only [sp_M_vary_ad12, if_neg c_10, if_neg c_14, if_pos c_17, if_neg c_19, if_pos c_22]; exact h_5), (fun q n0_ n1_ n2_ n3_ n4_ => (fr_3 q n0_))⟩ d_Model_vary_54
          · have i_24 := mt Int32.lt_iff_toInt_lt.mpr c_22
            rw [show (7 : Int32).toInt = 7 from rfl] at i_24
            refine V.rd (pc' := 42) (fun hl => lv_iload_n X.1 X.2.1 d_Model_vary_41 rfl (lv_at hl 2 rfl)) ?_
            refine V.rd (pc' := 43) (fun hl => lv_aload_n X.1 X.2.1 d_Model_vary_42 rfl (lv_at hl 0 rfl)) ?_
            refine V.get (pc' := 46) X hK h_2 uw_Model rfl 12 (by decide) (mcs wd_191) rfl d_Model_vary_43 rfl ?_
            refine V.rd (pc' := 47) (fun hl => lv_iload_n X.1 X.2.1 d_Model_vary_46 rfl (lv_at hl 1 rfl)) ?_
            refine V.iald (pc' := 48) X hK 0 h_5 rfl (vin (by omega) (by omega)) d_Model_vary_47 rfl ?_
            have q_25 := hle x.toNatClampNeg
            refine V.go (pc' := 49) (lv_iconst (v := 1) X.1 X.2.1 d_Model_vary_48 (by decide)) ?_
            refine V.go (pc' := 50) (lv_iadd X.1 X.2.1 d_Model_vary_49) ?_
            have s_26 : ((vlev x.toNatClampNeg) + 1).toInt = (vlev x.toNatClampNeg).toInt + 1 := i32_add1 (by omega)
            refine V.br (pc' := 53) (tgt := 55) (P := y ≤ ((vlev x.toNatClampNeg) + 1)) (lv_icmp_le X.1 X.2.1 d_Model_vary_50 (by decide)) (fun c_27 => ?_) (fun c_27 => ?_)
            · have i_28 := Int32.le_iff_toInt_le.mp c_27
              refine V.go (pc' := 57) (lv_bipush (v := 8) X.1 X.2.1 d_Model_vary_55 (by decide)) ?_
              refine V.rd (pc' := 58) (fun hl => lv_iload_n X.1 X.2.1 d_Model_vary_57 rfl (lv_at hl 1 rfl)) ?_
              refine V.go (pc' := 59) (lv_iconst (v := 1) X.1 X.2.1 d_Model_vary_58 (by decide)) ?_
              refine V.go (pc' := 60) (lv_isub X.1 X.2.1 d_Model_vary_59) ?_
              have s_29 : (x - 1).toInt = x.toInt - 1 := i32_sub1 (by omega)
              refine V.go (pc' := 61) (lv_imul X.1 X.2.1 d_Model_vary_60) ?_
              have s_30 : (8 * (x - 1)).toInt = 8 * (x - 1).toInt := i32_mul8 (by omega) (by omega)
              refine V.rd (pc' := 62) (fun hl => lv_iload_n X.1 X.2.1 d_Model_vary_61 rfl (lv_at hl 2 rfl)) ?_
              refine V.go (pc' := 63) (lv_iadd X.1 X.2.1 d_Model_vary_62) ?_
              have s_31 : ((8 * (x - 1)) + y).toInt = (8 * (x - 1)).toInt + y.toInt := i32_add (by omega) (by omega)
              refine V.go (pc' := 64) (lv_iconst (v := 1) X.1 X.2.1 d_Model_vary_63 (by decide)) ?_
              refine V.go (pc' := 65) (lv_isub X.1 X.2.1 d_Model_vary_64) ?_
              have s_32 : (((8 * (x - 1)) + y) - 1).toInt = ((8 * (x - 1)) + y).toInt - 1 := i32_sub1 (by omega)
              refine V.wr (pc' := 67) (lv' := [(8, .int (((8 * (x - 1)) + y) - 1)), (0, .ref mo), (1, .int x), (2, .int y), (3, .int cx), (4, .long w), (6, .long w2)]) (fun hl => lv_istore X.1 X.2.1 d_Model_vary_65 hl (by decide) rfl) ?_
              refine V.rd (pc' := 68) (fun hl => lv_aload_n X.1 X.2.1 d_Model_vary_67 rfl (lv_at hl 1 rfl)) ?_
              refine V.get (pc' := 71) X hK h_2 uw_Model rfl 15 (by decide) (mcs wd_192) rfl d_Model_vary_68 rfl ?_
              refine V.rd (pc' := 73) (fun hl => lv_iload X.1 X.2.1 d_Model_vary_71 (lv_at hl 0 rfl)) ?_
              refine V.rd (pc' := 74) (fun hl => lv_iload_n X.1 X.2.1 d_Model_vary_73 rfl (lv_at hl 4 rfl)) ?_
              refine V.iast (pc' := 75) X hK 0 h_6 rfl (vin (by omega) (by omega)) d_Model_vary_74 rfl (fun M_33 h_34 fr_35 => ?_)
              have h_36 : M_33 (ad 9) = some (.inl (cI, 61, .inl vkind)) := (fr_35 _ (ad_ne hinj (i := 9) (j := 15) (by decide) (by decide) (by decide))).trans h_4
              have h_37 : M_33 (ad 12) = some (.inl (cI, 61, .inl vlev)) := (fr_35 _ (ad_ne hinj (i := 12) (j := 15) (by decide) (by decide) (by decide))).trans h_5
              have h_38 : M_33 (ad 17) = some (.inl (cL, 488, .inr (.inl vfirst))) := (fr_35 _ (ad_ne hinj (i := 17) (j := 15) (by decide) (by decide) (by decide))).trans h_7
              have h_39 : M_33 (ad 18) = some (.inl (cL, 488, .inr (.inl vstep))) := (fr_35 _ (ad_ne hinj (i := 18) (j := 15) (by decide) (by decide) (by decide))).trans h_8
              have h_40 : M_33 mo = some (.inr (6, [.int 0, .ref (ad 1), .ref (ad 2), .int np, .int ns, .ref (ad 5), .ref (ad 6), .ref (ad 7), .ref (ad 8), .ref (ad 9), .ref (ad 10), .ref (ad 11), .ref (ad 12), .ref (ad 13), .ref (ad 14), .ref (ad 15), .ref (ad 16), .ref (ad 17), .ref (ad 18), .ref (ad 19), .ref (ad 20), .ref (ad 21), .int xsize, .int xmost, .int xend, .int xran, .ref (ad 26), .int yend, .int ysize, .int ymost, .int yran, .ref (ad 31), .ref (ad 32)])) := (fr_35 _ (ne_k h_2 h_6 (i := 6) (j := 1488) rfl rfl (by decide))).trans h_2
              refine V.rd (pc' := 76) (fun hl => lv_aload_n X.1 X.2.1 d_Model_vary_75 rfl (lv_at hl 1 rfl)) ?_
              refine V.get (pc' := 79) X hK h_40 uw_Model rfl 17 (by decide) (mcs wd_193) rfl d_Model_vary_76 rfl ?_
              refine V.rd (pc' := 81) (fun hl => lv_iload X.1 X.2.1 d_Model_vary_79 (lv_at hl 0 rfl)) ?_
              refine V.rd (pc' := 83) (fun hl => lv_lload X.1 X.2.1 d_Model_vary_81 (lv_at hl 5 rfl)) ?_
              refine V.last (pc' := 84) X hK 1 h_38 rfl (vin (by omega) (by omega)) d_Model_vary_83 rfl (fun M_41 h_42 fr_43 => ?_)
              have h_44 : M_41 (ad 9) = some (.inl (cI, 61, .inl vkind)) := (fr_43 _ (ad_ne hinj (i := 9) (j := 17) (by decide) (by decide) (by decide))).trans h_36
              have h_45 : M_41 (ad 12) = some (.inl (cI, 61, .inl vlev)) := (fr_43 _ (ad_ne hinj (i := 12) (j := 17) (by decide) (by decide) (by decide))).trans h_37
              have h_46 : M_41 (ad 18) = some (.inl (cL, 488, .inr (.inl vstep))) := (fr_43 _ (ad_ne hinj (i := 18) (j := 17) (by decide) (by decide) (by decide))).trans h_39
              have h_47 : M_41 mo = some (.inr (6, [.int 0, .ref (ad 1), .ref (ad 2), .int np, .int ns, .ref (ad 5), .ref (ad 6), .ref (ad 7), .ref (ad 8), .ref (ad 9), .ref (ad 10), .ref (ad 11), .ref (ad 12), .ref (ad 13), .ref (ad 14), .ref (ad 15), .ref (ad 16), .ref (ad 17), .ref (ad 18), .ref (ad 19), .ref (ad 20), .ref (ad 21), .int xsize, .int xmost, .int xend, .int xran, .ref (ad 26), .int yend, .int ysize, .int ymost, .int yran, .ref (ad 31), .ref (ad 32)])) := (fr_43 _ (ne_k h_40 h_38 (i := 6) (j := 100488) rfl rfl (by decide))).trans h_40
              have h_48 : M_41 (ad 15) = some (.inl (cI, 488, .inl (upd vvar (((8 * (x - 1)) + y) - 1).toNatClampNeg cx))) := (fr_43 _ (ad_ne hinj (i := 15) (j := 17) (by decide) (by decide) (by decide))).trans h_34
              refine V.rd (pc' := 85) (fun hl => lv_aload_n X.1 X.2.1 d_Model_vary_84 rfl (lv_at hl 1 rfl)) ?_
              refine V.get (pc' := 88) X hK h_47 uw_Model rfl 18 (by decide) (mcs wd_194) rfl d_Model_vary_85 rfl ?_
              refine V.rd (pc' := 90) (fun hl => lv_iload X.1 X.2.1 d_Model_vary_88 (lv_at hl 0 rfl)) ?_
              refine V.rd (pc' := 92) (fun hl => lv_lload X.1 X.2.1 d_Model_vary_90 (lv_at hl 6 rfl)) ?_
              refine V.last (pc' := 93) X hK 1 h_46 rfl (vin (by omega) (by omega)) d_Model_vary_92 rfl (fun M_49 h_50 fr_51 => ?_)
              have h_52 : M_49 (ad 9) = some (.inl (cI, 61, .inl vkind)) := (fr_51 _ (ad_ne hinj (i := 9) (j := 18) (by decide) (by decide) (by decide))).trans h_44
              have h_53 : M_49 (ad 12) = some (.inl (cI, 61, .inl vlev)) := (fr_51 _ (ad_ne hinj (i := 12) (j := 18) (by decide) (by decide) (by decide))).trans h_45
              have h_54 : M_49 mo = some (.inr (6, [.int 0, .ref (ad 1), .ref (ad 2), .int np, .int ns, .ref (ad 5), .ref (ad 6), .ref (ad 7), .ref (ad 8), .ref (ad 9), .ref (ad 10), .ref (ad 11), .ref (ad 12), .ref (ad 13), .ref (ad 14), .ref (ad 15), .ref (ad 16), .ref (ad 17), .ref (ad 18), .ref (ad 19), .ref (ad 20), .ref (ad 21), .int xsize, .int xmost, .int xend, .int xran, .ref (ad 26), .int yend, .int ysize, .int ymost, .int yran, .ref (ad 31), .ref (ad 32)])) := (fr_51 _ (ne_k h_47 h_46 (i := 6) (j := 100488) rfl rfl (by decide))).trans h_47
              have h_55 : M_49 (ad 15) = some (.inl (cI, 488, .inl (upd vvar (((8 * (x - 1)) + y) - 1).toNatClampNeg cx))) := (fr_51 _ (ad_ne hinj (i := 15) (j := 18) (by decide) (by decide) (by decide))).trans h_48
              have h_56 : M_49 (ad 17) = some (.inl (cL, 488, .inr (.inl (vp_updL vfirst (((8 * (x - 1)) + y) - 1).toNatClampNeg w)))) := (fr_51 _ (ad_ne hinj (i := 17) (j := 18) (by decide) (by decide) (by decide))).trans h_42
              refine V.rd (pc' := 94) (fun hl => lv_aload_n X.1 X.2.1 d_Model_vary_93 rfl (lv_at hl 1 rfl)) ?_
              refine V.get (pc' := 97) X hK h_54 uw_Model rfl 12 (by decide) (mcs wd_191) rfl d_Model_vary_94 rfl ?_
              refine V.rd (pc' := 98) (fun hl => lv_iload_n X.1 X.2.1 d_Model_vary_97 rfl (lv_at hl 2 rfl)) ?_
              refine V.rd (pc' := 99) (fun hl => lv_iload_n X.1 X.2.1 d_Model_vary_98 rfl (lv_at hl 3 rfl)) ?_
              refine V.rd (pc' := 100) (fun hl => lv_aload_n X.1 X.2.1 d_Model_vary_99 rfl (lv_at hl 1 rfl)) ?_
              refine V.get (pc' := 103) X hK h_54 uw_Model rfl 12 (by decide) (mcs wd_191) rfl d_Model_vary_100 rfl ?_
              refine V.rd (pc' := 104) (fun hl => lv_iload_n X.1 X.2.1 d_Model_vary_103 rfl (lv_at hl 2 rfl)) ?_
              refine V.iald (pc' := 105) X hK 0 h_53 rfl (vin (by omega) (by omega)) d_Model_vary_104 rfl ?_
              have q_57 := hle x.toNatClampNeg
              refine V.br (pc' := 108) (tgt := 112) (P := y ≤ (vlev x.toNatClampNeg)) (lv_icmp_le X.1 X.2.1 d_Model_vary_105 (by decide)) (fun c_58 => ?_) (fun c_58 => ?_)
              · have i_59 := Int32.le_iff_toInt_le.mp c_58
                refine V.rd (pc' := 113) (fun hl => lv_aload_n X.1 X.2.1 d_Model_vary_112 rfl (lv_at hl 1 rfl)) ?_
                refine V.get (pc' := 116) X hK h_54 uw_Model rfl 12 (by decide) (mcs wd_191) rfl d_Model_vary_113 rfl ?_
                refine V.rd (pc' := 117) (fun hl => lv_iload_n X.1 X.2.1 d_Model_vary_116 rfl (lv_at hl 2 rfl)) ?_
                refine V.iald (pc' := 118) X hK 0 h_53 rfl (vin (by omega) (by omega)) d_Model_vary_117 rfl ?_
                have q_60 := hle x.toNatClampNeg
                refine V.iast (pc' := 119) X hK 0 h_53 rfl (vin (by omega) (by omega)) d_Model_vary_118 rfl (fun M_61 h_62 fr_63 => ?_)
                have h_64 : M_61 (ad 9) = some (.inl (cI, 61, .inl vkind)) := (fr_63 _ (ad_ne hinj (i := 9) (j := 12) (by decide) (by decide) (by decide))).trans h_52
                have h_65 : M_61 mo = some (.inr (6, [.int 0, .ref (ad 1), .ref (ad 2), .int np, .int ns, .ref (ad 5), .ref (ad 6), .ref (ad 7), .ref (ad 8), .ref (ad 9), .ref (ad 10), .ref (ad 11), .ref (ad 12), .ref (ad 13), .ref (ad 14), .ref (ad 15), .ref (ad 16), .ref (ad 17), .ref (ad 18), .ref (ad 19), .ref (ad 20), .ref (ad 21), .int xsize, .int xmost, .int xend, .int xran, .ref (ad 26), .int yend, .int ysize, .int ymost, .int yran, .ref (ad 31), .ref (ad 32)])) := (fr_63 _ (ne_k h_54 h_53 (i := 6) (j := 1061) rfl rfl (by decide))).trans h_54
                have h_66 : M_61 (ad 15) = some (.inl (cI, 488, .inl (upd vvar (((8 * (x - 1)) + y) - 1).toNatClampNeg cx))) := (fr_63 _ (ad_ne hinj (i := 15) (j := 12) (by decide) (by decide) (by decide))).trans h_55
                have h_67 : M_61 (ad 17) = some (.inl (cL, 488, .inr (.inl (vp_updL vfirst (((8 * (x - 1)) + y) - 1).toNatClampNeg w)))) := (fr_63 _ (ad_ne hinj (i := 17) (j := 12) (by decide) (by decide) (by decide))).trans h_56
                have h_68 : M_61 (ad 18) = some (.inl (cL, 488, .inr (.inl (vp_updL vstep (((8 * (x - 1)) + y) - 1).toNatClampNeg w2)))) := (fr_63 _ (ad_ne hinj (i := 18) (j := 12) (by decide) (by decide) (by decide))).trans h_50
                refine V.rd (pc' := 120) (fun hl => lv_aload_n X.1 X.2.1 d_Model_vary_119 rfl (lv_at hl 1 rfl)) ?_
                refine V.get (pc' := 123) X hK h_65 uw_Model rfl 12 (by decide) (mcs wd_191) rfl d_Model_vary_120 rfl ?_
                refine V.rd (pc' := 124) (fun hl => lv_iload_n X.1 X.2.1 d_Model_vary_123 rfl (lv_at hl 2 rfl)) ?_
                refine V.iald (pc' := 125) X hK 0 h_62 rfl (vin (by omega) (by omega)) d_Model_vary_124 rfl ?_
                exact V.iret X hr hlk ⟨(by simp only [sp_M_vary, if_neg c_10, if_neg c_14, if_pos c_17, if_neg c_19, if_neg c_22, if_pos c_27, if_pos c_58]), h_65, (by simp only [sp_M_vary_ad15, if_neg c_10, if_neg c_14, if_pos c_17, if_neg c_19, if_neg c_22, if_pos c_27, if_pos c_58]; exact h_66), (by simp only [sp_M_vary_ad17, if_neg c_10, if_neg c_14, if_pos c_17, if_neg c_19, if_neg c_22, if_pos c_27, if_pos c_58]; exact h_67), (by simp only [sp_M_vary_ad18, if_neg c_10, if_neg c_14, if_pos c_17, if_neg c_19, if_neg c_22, if_pos c_27, if_pos c_58]; exact h_68), (by simp only [sp_M_vary_ad12, if_neg c_10, if_neg c_14, if_pos c_17, if_neg c_19, if_neg c_22, if_pos c_27, if_pos c_58]; exact h_62), (fun q n0_ n1_ n2_ n3_ n4_ => (fr_63 q n4_).trans ((fr_51 q n3_).trans ((fr_43 q n2_).trans ((fr_35 q n1_).trans ((fr_3 q n0_))))))⟩ d_Model_vary_125
              · have i_69 := mt Int32.le_iff_toInt_le.mpr c_58
                refine V.rd (pc' := 109) (fun hl => lv_iload_n X.1 X.2.1 d_Model_vary_108 rfl (lv_at hl 3 rfl)) ?_
                refine V.go (pc' := 118) (lv_goto X.1 X.2.1 d_Model_vary_109 (by decide)) ?_
                refine V.iast (pc' := 119) X hK 0 h_53 rfl (vin (by omega) (by omega)) d_Model_vary_118 rfl (fun M_70 h_71 fr_72 => ?_)
                have h_73 : M_70 (ad 9) = some (.inl (cI, 61, .inl vkind)) := (fr_72 _ (ad_ne hinj (i := 9) (j := 12) (by decide) (by decide) (by decide))).trans h_52
                have h_74 : M_70 mo = some (.inr (6, [.int 0, .ref (ad 1), .ref (ad 2), .int np, .int ns, .ref (ad 5), .ref (ad 6), .ref (ad 7), .ref (ad 8), .ref (ad 9), .ref (ad 10), .ref (ad 11), .ref (ad 12), .ref (ad 13), .ref (ad 14), .ref (ad 15), .ref (ad 16), .ref (ad 17), .ref (ad 18), .ref (ad 19), .ref (ad 20), .ref (ad 21), .int xsize, .int xmost, .int xend, .int xran, .ref (ad 26), .int yend, .int ysize, .int ymost, .int yran, .ref (ad 31), .ref (ad 32)])) := (fr_72 _ (ne_k h_54 h_53 (i := 6) (j := 1061) rfl rfl (by decide))).trans h_54
                have h_75 : M_70 (ad 15) = some (.inl (cI, 488, .inl (upd vvar (((8 * (x - 1)) + y) - 1).toNatClampNeg cx))) := (fr_72 _ (ad_ne hinj (i := 15) (j := 12) (by decide) (by decide) (by decide))).trans h_55
                have h_76 : M_70 (ad 17) = some (.inl (cL, 488, .inr (.inl (vp_updL vfirst (((8 * (x - 1)) + y) - 1).toNatClampNeg w)))) := (fr_72 _ (ad_ne hinj (i := 17) (j := 12) (by decide) (by decide) (by decide))).trans h_56
                have h_77 : M_70 (ad 18) = some (.inl (cL, 488, .inr (.inl (vp_updL vstep (((8 * (x - 1)) + y) - 1).toNatClampNeg w2)))) := (fr_72 _ (ad_ne hinj (i := 18) (j := 12) (by decide) (by decide) (by decide))).trans h_50
                refine V.rd (pc' := 120) (fun hl => lv_aload_n X.1 X.2.1 d_Model_vary_119 rfl (lv_at hl 1 rfl)) ?_
                refine V.get (pc' := 123) X hK h_74 uw_Model rfl 12 (by decide) (mcs wd_191) rfl d_Model_vary_120 rfl ?_
                refine V.rd (pc' := 124) (fun hl => lv_iload_n X.1 X.2.1 d_Model_vary_123 rfl (lv_at hl 2 rfl)) ?_
                refine V.iald (pc' := 125) X hK 0 h_71 rfl (vin (by omega) (by omega)) d_Model_vary_124 rfl ?_
                exact V.iret X hr hlk ⟨(by simp only [sp_M_vary, if_neg c_10, if_neg c_14, if_pos c_17, if_neg c_19, if_neg c_22, if_pos c_27, if_neg c_58]), h_74, (by simp only [sp_M_vary_ad15, if_neg c_10, if_neg c_14, if_pos c_17, if_neg c_19, if_neg c_22, if_pos c_27, if_neg c_58]; exact h_75), (by simp only [sp_M_vary_ad17, if_neg c_10, if_neg c_14, if_pos c_17, if_neg c_19, if_neg c_22, if_pos c_27, if_neg c_58]; exact h_76), (by simp only [sp_M_vary_ad18, if_neg c_10, if_neg c_14, if_pos c_17, if_neg c_19, if_neg c_22, if_pos c_27, if_neg c_58]; exact h_77), (by simp only [sp_M_vary_ad12, if_neg c_10, if_neg c_14, if_pos c_17, if_neg c_19, if_neg c_22, if_pos c_27, if_neg c_58]; exact h_71), (fun q n0_ n1_ n2_ n3_ n4_ => (fr_72 q n4_).trans ((fr_51 q n3_).trans ((fr_43 q n2_).trans ((fr_35 q n1_).trans ((fr_3 q n0_))))))⟩ d_Model_vary_125
            · have i_78 := mt Int32.le_iff_toInt_le.mpr c_27
              refine V.go (pc' := 54) (lv_iconst (v := (-1)) X.1 X.2.1 d_Model_vary_53 (by decide)) ?_
              exact V.iret X hr hlk ⟨(by simp only [sp_M_vary, if_neg c_10, if_neg c_14, if_pos c_17, if_neg c_19, if_neg c_22, if_neg c_27]), h_2, (by simp only [sp_M_vary_ad15, if_neg c_10, if_neg c_14, if_pos c_17, if_neg c_19, if_neg c_22, if_neg c_27]; exact h_6), (by simp only [sp_M_vary_ad17, if_neg c_10, if_neg c_14, if_pos c_17, if_neg c_19, if_neg c_22, if_neg c_27]; exact h_7), (by simp only [sp_M_vary_ad18, if_neg c_10, if_neg c_14, if_pos c_17, if_neg c_19, if_neg c_22, if_neg c_27]; exact h_8), (by simp only [sp_M_vary_ad12, if_neg c_10, if_neg c_14, if_pos c_17, if_neg c_19, if_neg c_22, if_neg c_27]; exact h_5), (fun q n0_ n1_ n2_ n3_ n4_ => (fr_3 q n0_))⟩ d_Model_vary_54
      · have i_79 := mt Int32.toInt_inj.mp c_17
        rw [show (3 : Int32).toInt = 3 from rfl] at i_79
        refine V.go (pc' := 54) (lv_iconst (v := (-1)) X.1 X.2.1 d_Model_vary_53 (by decide)) ?_
        exact V.iret X hr hlk ⟨(by simp only [sp_M_vary, if_neg c_10, if_neg c_14, if_neg c_17]), h_2, (by simp only [sp_M_vary_ad15, if_neg c_10, if_neg c_14, if_neg c_17]; exact h_6), (by simp only [sp_M_vary_ad17, if_neg c_10, if_neg c_14, if_neg c_17]; exact h_7), (by simp only [sp_M_vary_ad18, if_neg c_10, if_neg c_14, if_neg c_17]; exact h_8), (by simp only [sp_M_vary_ad12, if_neg c_10, if_neg c_14, if_neg c_17]; exact h_5), (fun q n0_ n1_ n2_ n3_ n4_ => (fr_3 q n0_))⟩ d_Model_vary_54

theorem d_Model_goTo_0 : decode prog_8_method_10_code 0 = .ok (.aload_n 0, 1) := by decide +kernel
theorem d_Model_goTo_1 : decode prog_8_method_10_code 1 = .ok (.iconst 0, 1) := by decide +kernel
theorem d_Model_goTo_2 : decode prog_8_method_10_code 2 = .ok (.putfield 82, 3) := by decide +kernel
theorem d_Model_goTo_5 : decode prog_8_method_10_code 5 = .ok (.aload_n 0, 1) := by decide +kernel
theorem d_Model_goTo_6 : decode prog_8_method_10_code 6 = .ok (.iload_n 1, 1) := by decide +kernel
theorem d_Model_goTo_7 : decode prog_8_method_10_code 7 = .ok (.invokevirtual 91, 3) := by decide +kernel
theorem d_Model_goTo_10 : decode prog_8_method_10_code 10 = .ok (.ifCond .eq 13, 3) := by decide +kernel
theorem d_Model_goTo_13 : decode prog_8_method_10_code 13 = .ok (.iload_n 2, 1) := by decide +kernel
theorem d_Model_goTo_14 : decode prog_8_method_10_code 14 = .ok (.ifCond .lt 9, 3) := by decide +kernel
theorem d_Model_goTo_17 : decode prog_8_method_10_code 17 = .ok (.iload_n 2, 1) := by decide +kernel
theorem d_Model_goTo_18 : decode prog_8_method_10_code 18 = .ok (.bipush 60, 2) := by decide +kernel
theorem d_Model_goTo_20 : decode prog_8_method_10_code 20 = .ok (.if_icmp .le 5, 3) := by decide +kernel
theorem d_Model_goTo_23 : decode prog_8_method_10_code 23 = .ok (.iconst (-1), 1) := by decide +kernel
theorem d_Model_goTo_24 : decode prog_8_method_10_code 24 = .ok (.ireturn, 1) := by decide +kernel
theorem d_Model_goTo_25 : decode prog_8_method_10_code 25 = .ok (.aload_n 0, 1) := by decide +kernel
theorem d_Model_goTo_26 : decode prog_8_method_10_code 26 = .ok (.getfield 20, 3) := by decide +kernel
theorem d_Model_goTo_29 : decode prog_8_method_10_code 29 = .ok (.iload_n 1, 1) := by decide +kernel
theorem d_Model_goTo_30 : decode prog_8_method_10_code 30 = .ok (.iaload, 1) := by decide +kernel
theorem d_Model_goTo_31 : decode prog_8_method_10_code 31 = .ok (.istore_n 3, 1) := by decide +kernel
theorem d_Model_goTo_32 : decode prog_8_method_10_code 32 = .ok (.aload_n 0, 1) := by decide +kernel
theorem d_Model_goTo_33 : decode prog_8_method_10_code 33 = .ok (.getfield 20, 3) := by decide +kernel
theorem d_Model_goTo_36 : decode prog_8_method_10_code 36 = .ok (.iload_n 1, 1) := by decide +kernel
theorem d_Model_goTo_37 : decode prog_8_method_10_code 37 = .ok (.iload_n 2, 1) := by decide +kernel
theorem d_Model_goTo_38 : decode prog_8_method_10_code 38 = .ok (.iastore, 1) := by decide +kernel
theorem d_Model_goTo_39 : decode prog_8_method_10_code 39 = .ok (.iload_n 3, 1) := by decide +kernel
theorem d_Model_goTo_40 : decode prog_8_method_10_code 40 = .ok (.ireturn, 1) := by decide +kernel

def sp_M_goTo (np : Int32) (vgos : Nat → Int32) (x : Int32) (y : Int32) : Int32 := if (sp_M_isParagraph np x) = 0 then (-1) else if y < 0 then (-1) else if y ≤ 60 then vgos x.toNatClampNeg else (-1)
def sp_M_goTo_ad6 (np : Int32) (vgos : Nat → Int32) (x : Int32) (y : Int32) : Nat → Int32 := if (sp_M_isParagraph np x) = 0 then vgos else if y < 0 then vgos else if y ≤ 60 then upd vgos x.toNatClampNeg y else vgos
set_option maxHeartbeats 4000000 in
set_option maxRecDepth 100000 in
theorem c_M_goTo {l : Launch} {H0 : Heap} {D : va_G} {cI cL cQ cB : ClassId} {M : mp} {mo : Nat} {ad : Nat → Nat} (hinj : ∀ i j : Nat, i < 33 → j < 33 → ad i = ad j → i = j) {xcode : Int32} {np : Int32} {ns : Int32} {xsize : Int32} {xmost : Int32} {xend : Int32} {xran : Int32} {yend : Int32} {ysize : Int32} {ymost : Int32} {yran : Int32} {vgos : Nat → Int32} {x : Int32} {y : Int32} (hnp : 0 ≤ np.toInt ∧ np.toInt ≤ 60) (gh0 : M mo = some (.inr (6, [.int xcode, .ref (ad 1), .ref (ad 2), .int np, .int ns, .ref (ad 5), .ref (ad 6), .ref (ad 7), .ref (ad 8), .ref (ad 9), .ref (ad 10), .ref (ad 11), .ref (ad 12), .ref (ad 13), .ref (ad 14), .ref (ad 15), .ref (ad 16), .ref (ad 17), .ref (ad 18), .ref (ad 19), .ref (ad 20), .ref (ad 21), .int xsize, .int xmost, .int xend, .int xran, .ref (ad 26), .int yend, .int ysize, .int ymost, .int yran, .ref (ad 31), .ref (ad 32)]))) (gh1 : M (ad 6) = some (.inl (cI, 61, .inl vgos))) : MC l H0 D cls7 (tysOf cI cL cQ cB) NW ({ cls := "PerformRangesModel", name := "goTo", desc := "(II)I" } : Jvm.MethodName) (Cond.code ({ cls := "PerformRangesModel", name := "goTo", desc := "(II)I" } : Jvm.MethodName) prog_8_method_10_code 4 (Option.some Jvm.ClassFile.FieldType.int) :: GW) ({ frames := 1, cells := 0, slots := 0, locals := 21 }) [.ref mo, .int x, .int y] M (fun v M' => v = some (.int (sp_M_goTo np vgos x y)) ∧ M' mo = some (.inr (6, [.int 0, .ref (ad 1), .ref (ad 2), .int np, .int ns, .ref (ad 5), .ref (ad 6), .ref (ad 7), .ref (ad 8), .ref (ad 9), .ref (ad 10), .ref (ad 11), .ref (ad 12), .ref (ad 13), .ref (ad 14), .ref (ad 15), .ref (ad 16), .ref (ad 17), .ref (ad 18), .ref (ad 19), .ref (ad 20), .ref (ad 21), .int xsize, .int xmost, .int xend, .int xran, .ref (ad 26), .int yend, .int ysize, .int ymost, .int yran, .ref (ad 31), .ref (ad 32)])) ∧ M' (ad 6) = some (.inl (cI, 61, .inl (sp_M_goTo_ad6 np vgos x y))) ∧ (∀ q, q ≠ mo → q ≠ (ad 6) → M' q = M q)) := by
  refine MC.of (cc := prog_8_method_10_code) (nL := 4) (ret := (Option.some Jvm.ClassFile.FieldType.int)) (lv := [(0, .ref mo), (1, .int x), (2, .int y)]) (by decide) rfl (Nat.le_of_ble_eq_true rfl) rfl ?_
  intro p e s m below meth c X hr hlk hnm hK
  refine V.rd (pc' := 1) (fun hl => lv_aload_n X.1 X.2.1 d_Model_goTo_0 rfl (lv_at hl 0 rfl)) ?_
  refine V.go (pc' := 2) (lv_iconst (v := 0) X.1 X.2.1 d_Model_goTo_1 (by decide)) ?_
  refine V.put (pc' := 5) X hK gh0 uw_Model t_Model tok_Model nm_Model rfl 0 (by decide) (mcs wd_167) rfl rfl rfl (Nat.le_of_ble_eq_true rfl) (fs' := [.int 0, .ref (ad 1), .ref (ad 2), .int np, .int ns, .ref (ad 5), .ref (ad 6), .ref (ad 7), .ref (ad 8), .ref (ad 9), .ref (ad 10), .ref (ad 11), .ref (ad 12), .ref (ad 13), .ref (ad 14), .ref (ad 15), .ref (ad 16), .ref (ad 17), .ref (ad 18), .ref (ad 19), .ref (ad 20), .ref (ad 21), .int xsize, .int xmost, .int xend, .int xran, .ref (ad 26), .int yend, .int ysize, .int ymost, .int yran, .ref (ad 31), .ref (ad 32)]) rfl d_Model_goTo_2 rfl (fun M_1 h_2 fr_3 => ?_)
  have h_4 : M_1 (ad 6) = some (.inl (cI, 61, .inl vgos)) := (fr_3 _ (ne_k gh1 gh0 (i := 1061) (j := 6) rfl rfl (by decide))).trans gh1
  refine V.rd (pc' := 6) (fun hl => lv_aload_n X.1 X.2.1 d_Model_goTo_5 rfl (lv_at hl 0 rfl)) ?_
  refine V.rd (pc' := 7) (fun hl => lv_iload_n X.1 X.2.1 d_Model_goTo_6 rfl (lv_at hl 1 rfl)) ?_
  refine V.callV0 (pc' := 10) X hK (c_M_isParagraph hinj (mo := mo) (xcode := 0) (np := np) (ns := ns) (xsize := xsize) (xmost := xmost) (xend := xend) (xran := xran) (yend := yend) (ysize := ysize) (ymost := ymost) (yran := yran) (x := x)   h_2  ) h_2 rfl (cwG (n := 1) X (mcs wd_171) (mcs wd_172) (mcs wd_173) (mcs wd_174) wd_175 (by decide +kernel) (by decide) (by decide)) rfl rfl (Nat.le_of_ble_eq_true rfl) d_Model_goTo_7 ⟨by decide, by decide⟩ rfl (st1 := [.int (sp_M_isParagraph np x)]) rfl ?_
  refine V.br (pc' := 13) (tgt := 23) (P := (sp_M_isParagraph np x) = 0) (lv_if_eq X.1 X.2.1 d_Model_goTo_10 (by decide)) (fun c_6 => ?_) (fun c_6 => ?_)
  · have i_7 := congrArg Int32.toInt c_6
    rw [show (0 : Int32).toInt = 0 from rfl] at i_7
    refine V.go (pc' := 24) (lv_iconst (v := (-1)) X.1 X.2.1 d_Model_goTo_23 (by decide)) ?_
    exact V.iret X hr hlk ⟨(by simp only [sp_M_goTo, if_pos c_6]), h_2, (by simp only [sp_M_goTo_ad6, if_pos c_6]; exact h_4), (fun q n0_ n1_ => (fr_3 q n0_))⟩ d_Model_goTo_24
  · have i_8 := M_isPar_ne c_6
    refine V.rd (pc' := 14) (fun hl => lv_iload_n X.1 X.2.1 d_Model_goTo_13 rfl (lv_at hl 2 rfl)) ?_
    refine V.br (pc' := 17) (tgt := 23) (P := y < 0) (lv_if_lt X.1 X.2.1 d_Model_goTo_14 (by decide)) (fun c_9 => ?_) (fun c_9 => ?_)
    · have i_10 := Int32.lt_iff_toInt_lt.mp c_9
      rw [show (0 : Int32).toInt = 0 from rfl] at i_10
      refine V.go (pc' := 24) (lv_iconst (v := (-1)) X.1 X.2.1 d_Model_goTo_23 (by decide)) ?_
      exact V.iret X hr hlk ⟨(by simp only [sp_M_goTo, if_neg c_6, if_pos c_9]), h_2, (by simp only [sp_M_goTo_ad6, if_neg c_6, if_pos c_9]; exact h_4), (fun q n0_ n1_ => (fr_3 q n0_))⟩ d_Model_goTo_24
    · have i_11 := mt Int32.lt_iff_toInt_lt.mpr c_9
      rw [show (0 : Int32).toInt = 0 from rfl] at i_11
      refine V.rd (pc' := 18) (fun hl => lv_iload_n X.1 X.2.1 d_Model_goTo_17 rfl (lv_at hl 2 rfl)) ?_
      refine V.go (pc' := 20) (lv_bipush (v := 60) X.1 X.2.1 d_Model_goTo_18 (by decide)) ?_
      refine V.br (pc' := 23) (tgt := 25) (P := y ≤ 60) (lv_icmp_le X.1 X.2.1 d_Model_goTo_20 (by decide)) (fun c_12 => ?_) (fun c_12 => ?_)
      · have i_13 := Int32.le_iff_toInt_le.mp c_12
        rw [show (60 : Int32).toInt = 60 from rfl] at i_13
        refine V.rd (pc' := 26) (fun hl => lv_aload_n X.1 X.2.1 d_Model_goTo_25 rfl (lv_at hl 0 rfl)) ?_
        refine V.get (pc' := 29) X hK h_2 uw_Model rfl 6 (by decide) (mcs wd_195) rfl d_Model_goTo_26 rfl ?_
        refine V.rd (pc' := 30) (fun hl => lv_iload_n X.1 X.2.1 d_Model_goTo_29 rfl (lv_at hl 1 rfl)) ?_
        refine V.iald (pc' := 31) X hK 0 h_4 rfl (vin (by omega) (by omega)) d_Model_goTo_30 rfl ?_
        refine V.wr (pc' := 32) (lv' := [(3, .int (vgos x.toNatClampNeg)), (0, .ref mo), (1, .int x), (2, .int y)]) (fun hl => lv_istore_n X.1 X.2.1 d_Model_goTo_31 rfl hl (by decide) rfl) ?_
        refine V.rd (pc' := 33) (fun hl => lv_aload_n X.1 X.2.1 d_Model_goTo_32 rfl (lv_at hl 1 rfl)) ?_
        refine V.get (pc' := 36) X hK h_2 uw_Model rfl 6 (by decide) (mcs wd_195) rfl d_Model_goTo_33 rfl ?_
        refine V.rd (pc' := 37) (fun hl => lv_iload_n X.1 X.2.1 d_Model_goTo_36 rfl (lv_at hl 2 rfl)) ?_
        refine V.rd (pc' := 38) (fun hl => lv_iload_n X.1 X.2.1 d_Model_goTo_37 rfl (lv_at hl 3 rfl)) ?_
        refine V.iast (pc' := 39) X hK 0 h_4 rfl (vin (by omega) (by omega)) d_Model_goTo_38 rfl (fun M_14 h_15 fr_16 => ?_)
        have h_17 : M_14 mo = some (.inr (6, [.int 0, .ref (ad 1), .ref (ad 2), .int np, .int ns, .ref (ad 5), .ref (ad 6), .ref (ad 7), .ref (ad 8), .ref (ad 9), .ref (ad 10), .ref (ad 11), .ref (ad 12), .ref (ad 13), .ref (ad 14), .ref (ad 15), .ref (ad 16), .ref (ad 17), .ref (ad 18), .ref (ad 19), .ref (ad 20), .ref (ad 21), .int xsize, .int xmost, .int xend, .int xran, .ref (ad 26), .int yend, .int ysize, .int ymost, .int yran, .ref (ad 31), .ref (ad 32)])) := (fr_16 _ (ne_k h_2 h_4 (i := 6) (j := 1061) rfl rfl (by decide))).trans h_2
        refine V.rd (pc' := 40) (fun hl => lv_iload_n X.1 X.2.1 d_Model_goTo_39 rfl (lv_at hl 0 rfl)) ?_
        exact V.iret X hr hlk ⟨(by simp only [sp_M_goTo, if_neg c_6, if_neg c_9, if_pos c_12]), h_17, (by simp only [sp_M_goTo_ad6, if_neg c_6, if_neg c_9, if_pos c_12]; exact h_15), (fun q n0_ n1_ => (fr_16 q n1_).trans ((fr_3 q n0_)))⟩ d_Model_goTo_40
      · have i_18 := mt Int32.le_iff_toInt_le.mpr c_12
        rw [show (60 : Int32).toInt = 60 from rfl] at i_18
        refine V.go (pc' := 24) (lv_iconst (v := (-1)) X.1 X.2.1 d_Model_goTo_23 (by decide)) ?_
        exact V.iret X hr hlk ⟨(by simp only [sp_M_goTo, if_neg c_6, if_neg c_9, if_neg c_12]), h_2, (by simp only [sp_M_goTo_ad6, if_neg c_6, if_neg c_9, if_neg c_12]; exact h_4), (fun q n0_ n1_ => (fr_3 q n0_))⟩ d_Model_goTo_24

theorem d_Model_isWhole_0 : decode prog_8_method_11_code 0 = .ok (.aload_n 0, 1) := by decide +kernel
theorem d_Model_isWhole_1 : decode prog_8_method_11_code 1 = .ok (.iload_n 1, 1) := by decide +kernel
theorem d_Model_isWhole_2 : decode prog_8_method_11_code 2 = .ok (.invokevirtual 95, 3) := by decide +kernel
theorem d_Model_isWhole_5 : decode prog_8_method_11_code 5 = .ok (.ifCond .eq 70, 3) := by decide +kernel
theorem d_Model_isWhole_8 : decode prog_8_method_11_code 8 = .ok (.aload_n 0, 1) := by decide +kernel
theorem d_Model_isWhole_9 : decode prog_8_method_11_code 9 = .ok (.getfield 29, 3) := by decide +kernel
theorem d_Model_isWhole_12 : decode prog_8_method_11_code 12 = .ok (.iload_n 1, 1) := by decide +kernel
theorem d_Model_isWhole_13 : decode prog_8_method_11_code 13 = .ok (.iaload, 1) := by decide +kernel
theorem d_Model_isWhole_14 : decode prog_8_method_11_code 14 = .ok (.iconst 2, 1) := by decide +kernel
theorem d_Model_isWhole_15 : decode prog_8_method_11_code 15 = .ok (.if_icmp .lt 56, 3) := by decide +kernel
theorem d_Model_isWhole_18 : decode prog_8_method_11_code 18 = .ok (.aload_n 0, 1) := by decide +kernel
theorem d_Model_isWhole_19 : decode prog_8_method_11_code 19 = .ok (.getfield 29, 3) := by decide +kernel
theorem d_Model_isWhole_22 : decode prog_8_method_11_code 22 = .ok (.iload_n 1, 1) := by decide +kernel
theorem d_Model_isWhole_23 : decode prog_8_method_11_code 23 = .ok (.iaload, 1) := by decide +kernel
theorem d_Model_isWhole_24 : decode prog_8_method_11_code 24 = .ok (.iconst 2, 1) := by decide +kernel
theorem d_Model_isWhole_25 : decode prog_8_method_11_code 25 = .ok (.if_icmp .ne 12, 3) := by decide +kernel
theorem d_Model_isWhole_28 : decode prog_8_method_11_code 28 = .ok (.aload_n 0, 1) := by decide +kernel
theorem d_Model_isWhole_29 : decode prog_8_method_11_code 29 = .ok (.getfield 35, 3) := by decide +kernel
theorem d_Model_isWhole_32 : decode prog_8_method_11_code 32 = .ok (.iload_n 1, 1) := by decide +kernel
theorem d_Model_isWhole_33 : decode prog_8_method_11_code 33 = .ok (.iaload, 1) := by decide +kernel
theorem d_Model_isWhole_34 : decode prog_8_method_11_code 34 = .ok (.ifCond .gt 37, 3) := by decide +kernel
theorem d_Model_isWhole_37 : decode prog_8_method_11_code 37 = .ok (.aload_n 0, 1) := by decide +kernel
theorem d_Model_isWhole_38 : decode prog_8_method_11_code 38 = .ok (.getfield 29, 3) := by decide +kernel
theorem d_Model_isWhole_41 : decode prog_8_method_11_code 41 = .ok (.iload_n 1, 1) := by decide +kernel
theorem d_Model_isWhole_42 : decode prog_8_method_11_code 42 = .ok (.iaload, 1) := by decide +kernel
theorem d_Model_isWhole_43 : decode prog_8_method_11_code 43 = .ok (.iconst 3, 1) := by decide +kernel
theorem d_Model_isWhole_44 : decode prog_8_method_11_code 44 = .ok (.if_icmp .ne 31, 3) := by decide +kernel
theorem d_Model_isWhole_47 : decode prog_8_method_11_code 47 = .ok (.aload_n 0, 1) := by decide +kernel
theorem d_Model_isWhole_48 : decode prog_8_method_11_code 48 = .ok (.getfield 38, 3) := by decide +kernel
theorem d_Model_isWhole_51 : decode prog_8_method_11_code 51 = .ok (.iload_n 1, 1) := by decide +kernel
theorem d_Model_isWhole_52 : decode prog_8_method_11_code 52 = .ok (.iaload, 1) := by decide +kernel
theorem d_Model_isWhole_53 : decode prog_8_method_11_code 53 = .ok (.ifCond .le 22, 3) := by decide +kernel
theorem d_Model_isWhole_56 : decode prog_8_method_11_code 56 = .ok (.aload_n 0, 1) := by decide +kernel
theorem d_Model_isWhole_57 : decode prog_8_method_11_code 57 = .ok (.getfield 35, 3) := by decide +kernel
theorem d_Model_isWhole_60 : decode prog_8_method_11_code 60 = .ok (.iload_n 1, 1) := by decide +kernel
theorem d_Model_isWhole_61 : decode prog_8_method_11_code 61 = .ok (.iaload, 1) := by decide +kernel
theorem d_Model_isWhole_62 : decode prog_8_method_11_code 62 = .ok (.aload_n 0, 1) := by decide +kernel
theorem d_Model_isWhole_63 : decode prog_8_method_11_code 63 = .ok (.getfield 38, 3) := by decide +kernel
theorem d_Model_isWhole_66 : decode prog_8_method_11_code 66 = .ok (.iload_n 1, 1) := by decide +kernel
theorem d_Model_isWhole_67 : decode prog_8_method_11_code 67 = .ok (.iaload, 1) := by decide +kernel
theorem d_Model_isWhole_68 : decode prog_8_method_11_code 68 = .ok (.if_icmp .lt 7, 3) := by decide +kernel
theorem d_Model_isWhole_71 : decode prog_8_method_11_code 71 = .ok (.iconst 1, 1) := by decide +kernel
theorem d_Model_isWhole_72 : decode prog_8_method_11_code 72 = .ok (.goto 4, 3) := by decide +kernel
theorem d_Model_isWhole_75 : decode prog_8_method_11_code 75 = .ok (.iconst 0, 1) := by decide +kernel
theorem d_Model_isWhole_76 : decode prog_8_method_11_code 76 = .ok (.ireturn, 1) := by decide +kernel

def sp_M_isWhole (ns : Int32) (vkind : Nat → Int32) (vcond : Nat → Int32) (vlev : Nat → Int32) (x : Int32) : Int32 := if (sp_M_isStatement ns x) = 0 then 0 else if (vkind x.toNatClampNeg) < 2 then 1 else if (vkind x.toNatClampNeg) = 2 then (if 0 < (vcond x.toNatClampNeg) then 1 else if (vkind x.toNatClampNeg) = 3 then (if (vlev x.toNatClampNeg) ≤ 0 then 0 else if (vcond x.toNatClampNeg) < (vlev x.toNatClampNeg) then 0 else 1) else 0) else if (vkind x.toNatClampNeg) = 3 then (if (vlev x.toNatClampNeg) ≤ 0 then 0 else if (vcond x.toNatClampNeg) < (vlev x.toNatClampNeg) then 0 else 1) else 0
set_option maxHeartbeats 4000000 in
set_option maxRecDepth 100000 in
theorem c_M_isWhole {l : Launch} {H0 : Heap} {D : va_G} {cI cL cQ cB : ClassId} {M : mp} {mo : Nat} {ad : Nat → Nat} (hinj : ∀ i j : Nat, i < 33 → j < 33 → ad i = ad j → i = j) {xcode : Int32} {np : Int32} {ns : Int32} {xsize : Int32} {xmost : Int32} {xend : Int32} {xran : Int32} {yend : Int32} {ysize : Int32} {ymost : Int32} {yran : Int32} {vkind : Nat → Int32} {vcond : Nat → Int32} {vlev : Nat → Int32} {x : Int32} (hns : 0 ≤ ns.toInt ∧ ns.toInt ≤ 60) (gh0 : M mo = some (.inr (6, [.int xcode, .ref (ad 1), .ref (ad 2), .int np, .int ns, .ref (ad 5), .ref (ad 6), .ref (ad 7), .ref (ad 8), .ref (ad 9), .ref (ad 10), .ref (ad 11), .ref (ad 12), .ref (ad 13), .ref (ad 14), .ref (ad 15), .ref (ad 16), .ref (ad 17), .ref (ad 18), .ref (ad 19), .ref (ad 20), .ref (ad 21), .int xsize, .int xmost, .int xend, .int xran, .ref (ad 26), .int yend, .int ysize, .int ymost, .int yran, .ref (ad 31), .ref (ad 32)]))) (gh1 : M (ad 9) = some (.inl (cI, 61, .inl vkind))) (gh2 : M (ad 11) = some (.inl (cI, 61, .inl vcond))) (gh3 : M (ad 12) = some (.inl (cI, 61, .inl vlev))) : MC l H0 D cls7 (tysOf cI cL cQ cB) NW ({ cls := "PerformRangesModel", name := "isWhole", desc := "(I)Z" } : Jvm.MethodName) (Cond.code ({ cls := "PerformRangesModel", name := "isWhole", desc := "(I)Z" } : Jvm.MethodName) prog_8_method_11_code 2 (Option.some Jvm.ClassFile.FieldType.boolean) :: GW) ({ frames := 1, cells := 0, slots := 0, locals := 21 }) [.ref mo, .int x] M (fun v M' => v = some (.int (sp_M_isWhole ns vkind vcond vlev x)) ∧ M' = M) := by
  refine MC.of (cc := prog_8_method_11_code) (nL := 2) (ret := (Option.some Jvm.ClassFile.FieldType.boolean)) (lv := [(0, .ref mo), (1, .int x)]) (by decide) rfl (Nat.le_of_ble_eq_true rfl) rfl ?_
  intro p e s m below meth c X hr hlk hnm hK
  refine V.rd (pc' := 1) (fun hl => lv_aload_n X.1 X.2.1 d_Model_isWhole_0 rfl (lv_at hl 0 rfl)) ?_
  refine V.rd (pc' := 2) (fun hl => lv_iload_n X.1 X.2.1 d_Model_isWhole_1 rfl (lv_at hl 1 rfl)) ?_
  refine V.callV0 (pc' := 5) X hK (c_M_isStatement hinj (mo := mo) (xcode := xcode) (np := np) (ns := ns) (xsize := xsize) (xmost := xmost) (xend := xend) (xran := xran) (yend := yend) (ysize := ysize) (ymost := ymost) (yran := yran) (x := x)   gh0  ) gh0 rfl (cwG (n := 1) X (mcs wd_180) (mcs wd_181) (mcs wd_182) (mcs wd_174) wd_183 (by decide +kernel) (by decide) (by decide)) rfl rfl (Nat.le_of_ble_eq_true rfl) d_Model_isWhole_2 ⟨by decide, by decide⟩ rfl (st1 := [.int (sp_M_isStatement ns x)]) rfl ?_
  refine V.br (pc' := 8) (tgt := 75) (P := (sp_M_isStatement ns x) = 0) (lv_if_eq X.1 X.2.1 d_Model_isWhole_5 (by decide)) (fun c_2 => ?_) (fun c_2 => ?_)
  · have i_3 := congrArg Int32.toInt c_2
    rw [show (0 : Int32).toInt = 0 from rfl] at i_3
    refine V.go (pc' := 76) (lv_iconst (v := 0) X.1 X.2.1 d_Model_isWhole_75 (by decide)) ?_
    exact V.zret X hr hlk rfl ⟨(by simp only [sp_M_isWhole, if_pos c_2]), rfl⟩ d_Model_isWhole_76
  · have i_4 := M_isSta_ne c_2
    refine V.rd (pc' := 9) (fun hl => lv_aload_n X.1 X.2.1 d_Model_isWhole_8 rfl (lv_at hl 0 rfl)) ?_
    refine V.get (pc' := 12) X hK gh0 uw_Model rfl 9 (by decide) (mcs wd_178) rfl d_Model_isWhole_9 rfl ?_
    refine V.rd (pc' := 13) (fun hl => lv_iload_n X.1 X.2.1 d_Model_isWhole_12 rfl (lv_at hl 1 rfl)) ?_
    refine V.iald (pc' := 14) X hK 0 gh1 rfl (vin (by omega) (by omega)) d_Model_isWhole_13 rfl ?_
    refine V.go (pc' := 15) (lv_iconst (v := 2) X.1 X.2.1 d_Model_isWhole_14 (by decide)) ?_
    refine V.br (pc' := 18) (tgt := 71) (P := (vkind x.toNatClampNeg) < 2) (lv_icmp_lt X.1 X.2.1 d_Model_isWhole_15 (by decide)) (fun c_5 => ?_) (fun c_5 => ?_)
    · have i_6 := Int32.lt_iff_toInt_lt.mp c_5
      rw [show (2 : Int32).toInt = 2 from rfl] at i_6
      refine V.go (pc' := 72) (lv_iconst (v := 1) X.1 X.2.1 d_Model_isWhole_71 (by decide)) ?_
      refine V.go (pc' := 76) (lv_goto X.1 X.2.1 d_Model_isWhole_72 (by decide)) ?_
      exact V.zret X hr hlk rfl ⟨(by simp only [sp_M_isWhole, if_neg c_2, if_pos c_5]), rfl⟩ d_Model_isWhole_76
    · have i_7 := mt Int32.lt_iff_toInt_lt.mpr c_5
      rw [show (2 : Int32).toInt = 2 from rfl] at i_7
      refine V.rd (pc' := 19) (fun hl => lv_aload_n X.1 X.2.1 d_Model_isWhole_18 rfl (lv_at hl 0 rfl)) ?_
      refine V.get (pc' := 22) X hK gh0 uw_Model rfl 9 (by decide) (mcs wd_178) rfl d_Model_isWhole_19 rfl ?_
      refine V.rd (pc' := 23) (fun hl => lv_iload_n X.1 X.2.1 d_Model_isWhole_22 rfl (lv_at hl 1 rfl)) ?_
      refine V.iald (pc' := 24) X hK 0 gh1 rfl (vin (by omega) (by omega)) d_Model_isWhole_23 rfl ?_
      refine V.go (pc' := 25) (lv_iconst (v := 2) X.1 X.2.1 d_Model_isWhole_24 (by decide)) ?_
      refine V.bn (pc' := 28) (tgt := 37) (P := (vkind x.toNatClampNeg) = 2) (lv_icmp_ne X.1 X.2.1 d_Model_isWhole_25 (by decide)) (fun c_8 => ?_) (fun c_8 => ?_)
      · have i_9 := congrArg Int32.toInt c_8
        rw [show (2 : Int32).toInt = 2 from rfl] at i_9
        refine V.rd (pc' := 29) (fun hl => lv_aload_n X.1 X.2.1 d_Model_isWhole_28 rfl (lv_at hl 0 rfl)) ?_
        refine V.get (pc' := 32) X hK gh0 uw_Model rfl 11 (by decide) (mcs wd_187) rfl d_Model_isWhole_29 rfl ?_
        refine V.rd (pc' := 33) (fun hl => lv_iload_n X.1 X.2.1 d_Model_isWhole_32 rfl (lv_at hl 1 rfl)) ?_
        refine V.iald (pc' := 34) X hK 0 gh2 rfl (vin (by omega) (by omega)) d_Model_isWhole_33 rfl ?_
        refine V.br (pc' := 37) (tgt := 71) (P := 0 < (vcond x.toNatClampNeg)) (lv_if_gt X.1 X.2.1 d_Model_isWhole_34 (by decide)) (fun c_10 => ?_) (fun c_10 => ?_)
        · have i_11 := Int32.lt_iff_toInt_lt.mp c_10
          rw [show (0 : Int32).toInt = 0 from rfl] at i_11
          refine V.go (pc' := 72) (lv_iconst (v := 1) X.1 X.2.1 d_Model_isWhole_71 (by decide)) ?_
          refine V.go (pc' := 76) (lv_goto X.1 X.2.1 d_Model_isWhole_72 (by decide)) ?_
          exact V.zret X hr hlk rfl ⟨(by simp only [sp_M_isWhole, if_neg c_2, if_neg c_5, if_pos c_8, if_pos c_10]), rfl⟩ d_Model_isWhole_76
        · have i_12 := mt Int32.lt_iff_toInt_lt.mpr c_10
          rw [show (0 : Int32).toInt = 0 from rfl] at i_12
          refine V.rd (pc' := 38) (fun hl => lv_aload_n X.1 X.2.1 d_Model_isWhole_37 rfl (lv_at hl 0 rfl)) ?_
          refine V.get (pc' := 41) X hK gh0 uw_Model rfl 9 (by decide) (mcs wd_178) rfl d_Model_isWhole_38 rfl ?_
          refine V.rd (pc' := 42) (fun hl => lv_iload_n X.1 X.2.1 d_Model_isWhole_41 rfl (lv_at hl 1 rfl)) ?_
          refine V.iald (pc' := 43) X hK 0 gh1 rfl (vin (by omega) (by omega)) d_Model_isWhole_42 rfl ?_
          refine V.go (pc' := 44) (lv_iconst (v := 3) X.1 X.2.1 d_Model_isWhole_43 (by decide)) ?_
          refine V.bn (pc' := 47) (tgt := 75) (P := (vkind x.toNatClampNeg) = 3) (lv_icmp_ne X.1 X.2.1 d_Model_isWhole_44 (by decide)) (fun c_13 => ?_) (fun c_13 => ?_)
          · have i_14 := congrArg Int32.toInt c_13
            rw [show (3 : Int32).toInt = 3 from rfl] at i_14
            refine V.rd (pc' := 48) (fun hl => lv_aload_n X.1 X.2.1 d_Model_isWhole_47 rfl (lv_at hl 0 rfl)) ?_
            refine V.get (pc' := 51) X hK gh0 uw_Model rfl 12 (by decide) (mcs wd_191) rfl d_Model_isWhole_48 rfl ?_
            refine V.rd (pc' := 52) (fun hl => lv_iload_n X.1 X.2.1 d_Model_isWhole_51 rfl (lv_at hl 1 rfl)) ?_
            refine V.iald (pc' := 53) X hK 0 gh3 rfl (vin (by omega) (by omega)) d_Model_isWhole_52 rfl ?_
            refine V.br (pc' := 56) (tgt := 75) (P := (vlev x.toNatClampNeg) ≤ 0) (lv_if_le X.1 X.2.1 d_Model_isWhole_53 (by decide)) (fun c_15 => ?_) (fun c_15 => ?_)
            · have i_16 := Int32.le_iff_toInt_le.mp c_15
              rw [show (0 : Int32).toInt = 0 from rfl] at i_16
              refine V.go (pc' := 76) (lv_iconst (v := 0) X.1 X.2.1 d_Model_isWhole_75 (by decide)) ?_
              exact V.zret X hr hlk rfl ⟨(by simp only [sp_M_isWhole, if_neg c_2, if_neg c_5, if_pos c_8, if_neg c_10, if_pos c_13, if_pos c_15]), rfl⟩ d_Model_isWhole_76
            · have i_17 := mt Int32.le_iff_toInt_le.mpr c_15
              rw [show (0 : Int32).toInt = 0 from rfl] at i_17
              refine V.rd (pc' := 57) (fun hl => lv_aload_n X.1 X.2.1 d_Model_isWhole_56 rfl (lv_at hl 0 rfl)) ?_
              refine V.get (pc' := 60) X hK gh0 uw_Model rfl 11 (by decide) (mcs wd_187) rfl d_Model_isWhole_57 rfl ?_
              refine V.rd (pc' := 61) (fun hl => lv_iload_n X.1 X.2.1 d_Model_isWhole_60 rfl (lv_at hl 1 rfl)) ?_
              refine V.iald (pc' := 62) X hK 0 gh2 rfl (vin (by omega) (by omega)) d_Model_isWhole_61 rfl ?_
              refine V.rd (pc' := 63) (fun hl => lv_aload_n X.1 X.2.1 d_Model_isWhole_62 rfl (lv_at hl 0 rfl)) ?_
              refine V.get (pc' := 66) X hK gh0 uw_Model rfl 12 (by decide) (mcs wd_191) rfl d_Model_isWhole_63 rfl ?_
              refine V.rd (pc' := 67) (fun hl => lv_iload_n X.1 X.2.1 d_Model_isWhole_66 rfl (lv_at hl 1 rfl)) ?_
              refine V.iald (pc' := 68) X hK 0 gh3 rfl (vin (by omega) (by omega)) d_Model_isWhole_67 rfl ?_
              refine V.br (pc' := 71) (tgt := 75) (P := (vcond x.toNatClampNeg) < (vlev x.toNatClampNeg)) (lv_icmp_lt X.1 X.2.1 d_Model_isWhole_68 (by decide)) (fun c_18 => ?_) (fun c_18 => ?_)
              · have i_19 := Int32.lt_iff_toInt_lt.mp c_18
                refine V.go (pc' := 76) (lv_iconst (v := 0) X.1 X.2.1 d_Model_isWhole_75 (by decide)) ?_
                exact V.zret X hr hlk rfl ⟨(by simp only [sp_M_isWhole, if_neg c_2, if_neg c_5, if_pos c_8, if_neg c_10, if_pos c_13, if_neg c_15, if_pos c_18]), rfl⟩ d_Model_isWhole_76
              · have i_20 := mt Int32.lt_iff_toInt_lt.mpr c_18
                refine V.go (pc' := 72) (lv_iconst (v := 1) X.1 X.2.1 d_Model_isWhole_71 (by decide)) ?_
                refine V.go (pc' := 76) (lv_goto X.1 X.2.1 d_Model_isWhole_72 (by decide)) ?_
                exact V.zret X hr hlk rfl ⟨(by simp only [sp_M_isWhole, if_neg c_2, if_neg c_5, if_pos c_8, if_neg c_10, if_pos c_13, if_neg c_15, if_neg c_18]), rfl⟩ d_Model_isWhole_76
          · have i_21 := mt Int32.toInt_inj.mp c_13
            rw [show (3 : Int32).toInt = 3 from rfl] at i_21
            refine V.go (pc' := 76) (lv_iconst (v := 0) X.1 X.2.1 d_Model_isWhole_75 (by decide)) ?_
            exact V.zret X hr hlk rfl ⟨(by simp only [sp_M_isWhole, if_neg c_2, if_neg c_5, if_pos c_8, if_neg c_10, if_neg c_13]), rfl⟩ d_Model_isWhole_76
      · have i_22 := mt Int32.toInt_inj.mp c_8
        rw [show (2 : Int32).toInt = 2 from rfl] at i_22
        refine V.rd (pc' := 38) (fun hl => lv_aload_n X.1 X.2.1 d_Model_isWhole_37 rfl (lv_at hl 0 rfl)) ?_
        refine V.get (pc' := 41) X hK gh0 uw_Model rfl 9 (by decide) (mcs wd_178) rfl d_Model_isWhole_38 rfl ?_
        refine V.rd (pc' := 42) (fun hl => lv_iload_n X.1 X.2.1 d_Model_isWhole_41 rfl (lv_at hl 1 rfl)) ?_
        refine V.iald (pc' := 43) X hK 0 gh1 rfl (vin (by omega) (by omega)) d_Model_isWhole_42 rfl ?_
        refine V.go (pc' := 44) (lv_iconst (v := 3) X.1 X.2.1 d_Model_isWhole_43 (by decide)) ?_
        refine V.bn (pc' := 47) (tgt := 75) (P := (vkind x.toNatClampNeg) = 3) (lv_icmp_ne X.1 X.2.1 d_Model_isWhole_44 (by decide)) (fun c_23 => ?_) (fun c_23 => ?_)
        · have i_24 := congrArg Int32.toInt c_23
          rw [show (3 : Int32).toInt = 3 from rfl] at i_24
          refine V.rd (pc' := 48) (fun hl => lv_aload_n X.1 X.2.1 d_Model_isWhole_47 rfl (lv_at hl 0 rfl)) ?_
          refine V.get (pc' := 51) X hK gh0 uw_Model rfl 12 (by decide) (mcs wd_191) rfl d_Model_isWhole_48 rfl ?_
          refine V.rd (pc' := 52) (fun hl => lv_iload_n X.1 X.2.1 d_Model_isWhole_51 rfl (lv_at hl 1 rfl)) ?_
          refine V.iald (pc' := 53) X hK 0 gh3 rfl (vin (by omega) (by omega)) d_Model_isWhole_52 rfl ?_
          refine V.br (pc' := 56) (tgt := 75) (P := (vlev x.toNatClampNeg) ≤ 0) (lv_if_le X.1 X.2.1 d_Model_isWhole_53 (by decide)) (fun c_25 => ?_) (fun c_25 => ?_)
          · have i_26 := Int32.le_iff_toInt_le.mp c_25
            rw [show (0 : Int32).toInt = 0 from rfl] at i_26
            refine V.go (pc' := 76) (lv_iconst (v := 0) X.1 X.2.1 d_Model_isWhole_75 (by decide)) ?_
            exact V.zret X hr hlk rfl ⟨(by simp only [sp_M_isWhole, if_neg c_2, if_neg c_5, if_neg c_8, if_pos c_23, if_pos c_25]), rfl⟩ d_Model_isWhole_76
          · have i_27 := mt Int32.le_iff_toInt_le.mpr c_25
            rw [show (0 : Int32).toInt = 0 from rfl] at i_27
            refine V.rd (pc' := 57) (fun hl => lv_aload_n X.1 X.2.1 d_Model_isWhole_56 rfl (lv_at hl 0 rfl)) ?_
            refine V.get (pc' := 60) X hK gh0 uw_Model rfl 11 (by decide) (mcs wd_187) rfl d_Model_isWhole_57 rfl ?_
            refine V.rd (pc' := 61) (fun hl => lv_iload_n X.1 X.2.1 d_Model_isWhole_60 rfl (lv_at hl 1 rfl)) ?_
            refine V.iald (pc' := 62) X hK 0 gh2 rfl (vin (by omega) (by omega)) d_Model_isWhole_61 rfl ?_
            refine V.rd (pc' := 63) (fun hl => lv_aload_n X.1 X.2.1 d_Model_isWhole_62 rfl (lv_at hl 0 rfl)) ?_
            refine V.get (pc' := 66) X hK gh0 uw_Model rfl 12 (by decide) (mcs wd_191) rfl d_Model_isWhole_63 rfl ?_
            refine V.rd (pc' := 67) (fun hl => lv_iload_n X.1 X.2.1 d_Model_isWhole_66 rfl (lv_at hl 1 rfl)) ?_
            refine V.iald (pc' := 68) X hK 0 gh3 rfl (vin (by omega) (by omega)) d_Model_isWhole_67 rfl ?_
            refine V.br (pc' := 71) (tgt := 75) (P := (vcond x.toNatClampNeg) < (vlev x.toNatClampNeg)) (lv_icmp_lt X.1 X.2.1 d_Model_isWhole_68 (by decide)) (fun c_28 => ?_) (fun c_28 => ?_)
            · have i_29 := Int32.lt_iff_toInt_lt.mp c_28
              refine V.go (pc' := 76) (lv_iconst (v := 0) X.1 X.2.1 d_Model_isWhole_75 (by decide)) ?_
              exact V.zret X hr hlk rfl ⟨(by simp only [sp_M_isWhole, if_neg c_2, if_neg c_5, if_neg c_8, if_pos c_23, if_neg c_25, if_pos c_28]), rfl⟩ d_Model_isWhole_76
            · have i_30 := mt Int32.lt_iff_toInt_lt.mpr c_28
              refine V.go (pc' := 72) (lv_iconst (v := 1) X.1 X.2.1 d_Model_isWhole_71 (by decide)) ?_
              refine V.go (pc' := 76) (lv_goto X.1 X.2.1 d_Model_isWhole_72 (by decide)) ?_
              exact V.zret X hr hlk rfl ⟨(by simp only [sp_M_isWhole, if_neg c_2, if_neg c_5, if_neg c_8, if_pos c_23, if_neg c_25, if_neg c_28]), rfl⟩ d_Model_isWhole_76
        · have i_31 := mt Int32.toInt_inj.mp c_23
          rw [show (3 : Int32).toInt = 3 from rfl] at i_31
          refine V.go (pc' := 76) (lv_iconst (v := 0) X.1 X.2.1 d_Model_isWhole_75 (by decide)) ?_
          exact V.zret X hr hlk rfl ⟨(by simp only [sp_M_isWhole, if_neg c_2, if_neg c_5, if_neg c_8, if_neg c_23]), rfl⟩ d_Model_isWhole_76

theorem d_Model_holds_0 : decode prog_8_method_12_code 0 = .ok (.bipush 8, 2) := by decide +kernel
theorem d_Model_holds_2 : decode prog_8_method_12_code 2 = .ok (.iload_n 1, 1) := by decide +kernel
theorem d_Model_holds_3 : decode prog_8_method_12_code 3 = .ok (.iconst 1, 1) := by decide +kernel
theorem d_Model_holds_4 : decode prog_8_method_12_code 4 = .ok (.isub, 1) := by decide +kernel
theorem d_Model_holds_5 : decode prog_8_method_12_code 5 = .ok (.imul, 1) := by decide +kernel
theorem d_Model_holds_6 : decode prog_8_method_12_code 6 = .ok (.iload_n 2, 1) := by decide +kernel
theorem d_Model_holds_7 : decode prog_8_method_12_code 7 = .ok (.iadd, 1) := by decide +kernel
theorem d_Model_holds_8 : decode prog_8_method_12_code 8 = .ok (.iconst 1, 1) := by decide +kernel
theorem d_Model_holds_9 : decode prog_8_method_12_code 9 = .ok (.isub, 1) := by decide +kernel
theorem d_Model_holds_10 : decode prog_8_method_12_code 10 = .ok (.istore_n 3, 1) := by decide +kernel
theorem d_Model_holds_11 : decode prog_8_method_12_code 11 = .ok (.aload_n 0, 1) := by decide +kernel
theorem d_Model_holds_12 : decode prog_8_method_12_code 12 = .ok (.getfield 7, 3) := by decide +kernel
theorem d_Model_holds_15 : decode prog_8_method_12_code 15 = .ok (.aload_n 0, 1) := by decide +kernel
theorem d_Model_holds_16 : decode prog_8_method_12_code 16 = .ok (.getfield 45, 3) := by decide +kernel
theorem d_Model_holds_19 : decode prog_8_method_12_code 19 = .ok (.iload_n 3, 1) := by decide +kernel
theorem d_Model_holds_20 : decode prog_8_method_12_code 20 = .ok (.iaload, 1) := by decide +kernel
theorem d_Model_holds_21 : decode prog_8_method_12_code 21 = .ok (.laload, 1) := by decide +kernel
theorem d_Model_holds_22 : decode prog_8_method_12_code 22 = .ok (.aload_n 0, 1) := by decide +kernel
theorem d_Model_holds_23 : decode prog_8_method_12_code 23 = .ok (.getfield 51, 3) := by decide +kernel
theorem d_Model_holds_26 : decode prog_8_method_12_code 26 = .ok (.iload_n 3, 1) := by decide +kernel
theorem d_Model_holds_27 : decode prog_8_method_12_code 27 = .ok (.laload, 1) := by decide +kernel
theorem d_Model_holds_28 : decode prog_8_method_12_code 28 = .ok (.lcmp, 1) := by decide +kernel
theorem d_Model_holds_29 : decode prog_8_method_12_code 29 = .ok (.ifCond .lt 7, 3) := by decide +kernel
theorem d_Model_holds_32 : decode prog_8_method_12_code 32 = .ok (.iconst 1, 1) := by decide +kernel
theorem d_Model_holds_33 : decode prog_8_method_12_code 33 = .ok (.goto 4, 3) := by decide +kernel
theorem d_Model_holds_36 : decode prog_8_method_12_code 36 = .ok (.iconst 0, 1) := by decide +kernel
theorem d_Model_holds_37 : decode prog_8_method_12_code 37 = .ok (.ireturn, 1) := by decide +kernel

def sp_M_holds (vcell : Nat → Int64) (vcc : Nat → Int32) (vleast : Nat → Int64) (x : Int32) (y : Int32) : Int32 := if (lg_cmp (vcell (vcc (((8 * (x - 1)) + y) - 1).toNatClampNeg).toNatClampNeg) (vleast (((8 * (x - 1)) + y) - 1).toNatClampNeg)) < 0 then 0 else 1
set_option maxHeartbeats 4000000 in
set_option maxRecDepth 100000 in
theorem c_M_holds {l : Launch} {H0 : Heap} {D : va_G} {cI cL cQ cB : ClassId} {M : mp} {mo : Nat} {ad : Nat → Nat} (hinj : ∀ i j : Nat, i < 33 → j < 33 → ad i = ad j → i = j) {xcode : Int32} {np : Int32} {ns : Int32} {xsize : Int32} {xmost : Int32} {xend : Int32} {xran : Int32} {yend : Int32} {ysize : Int32} {ymost : Int32} {yran : Int32} {vcell : Nat → Int64} {vcc : Nat → Int32} {vleast : Nat → Int64} {x : Int32} {y : Int32} (hs : 1 ≤ x.toInt ∧ x.toInt ≤ 60) (hlv : 1 ≤ y.toInt ∧ y.toInt ≤ 8) (hcc : ∀ i : Nat, 0 ≤ (vcc i).toInt ∧ (vcc i).toInt ≤ 15) (gh0 : M mo = some (.inr (6, [.int xcode, .ref (ad 1), .ref (ad 2), .int np, .int ns, .ref (ad 5), .ref (ad 6), .ref (ad 7), .ref (ad 8), .ref (ad 9), .ref (ad 10), .ref (ad 11), .ref (ad 12), .ref (ad 13), .ref (ad 14), .ref (ad 15), .ref (ad 16), .ref (ad 17), .ref (ad 18), .ref (ad 19), .ref (ad 20), .ref (ad 21), .int xsize, .int xmost, .int xend, .int xran, .ref (ad 26), .int yend, .int ysize, .int ymost, .int yran, .ref (ad 31), .ref (ad 32)]))) (gh1 : M (ad 1) = some (.inl (cL, 16, .inr (.inl vcell)))) (gh2 : M (ad 14) = some (.inl (cI, 488, .inl vcc))) (gh3 : M (ad 16) = some (.inl (cL, 488, .inr (.inl vleast)))) : MC l H0 D cls7 (tysOf cI cL cQ cB) NW ({ cls := "PerformRangesModel", name := "holds", desc := "(II)Z" } : Jvm.MethodName) (Cond.code ({ cls := "PerformRangesModel", name := "holds", desc := "(II)Z" } : Jvm.MethodName) prog_8_method_12_code 4 (Option.some Jvm.ClassFile.FieldType.boolean) :: GW) ({ frames := 0, cells := 0, slots := 0, locals := 0 }) [.ref mo, .int x, .int y] M (fun v M' => v = some (.int (sp_M_holds vcell vcc vleast x y)) ∧ M' = M) := by
  refine MC.of (cc := prog_8_method_12_code) (nL := 4) (ret := (Option.some Jvm.ClassFile.FieldType.boolean)) (lv := [(0, .ref mo), (1, .int x), (2, .int y)]) (by decide) rfl (Nat.le_of_ble_eq_true rfl) rfl ?_
  intro p e s m below meth c X hr hlk hnm hK
  refine V.go (pc' := 2) (lv_bipush (v := 8) X.1 X.2.1 d_Model_holds_0 (by decide)) ?_
  refine V.rd (pc' := 3) (fun hl => lv_iload_n X.1 X.2.1 d_Model_holds_2 rfl (lv_at hl 1 rfl)) ?_
  refine V.go (pc' := 4) (lv_iconst (v := 1) X.1 X.2.1 d_Model_holds_3 (by decide)) ?_
  refine V.go (pc' := 5) (lv_isub X.1 X.2.1 d_Model_holds_4) ?_
  have s_1 : (x - 1).toInt = x.toInt - 1 := i32_sub1 (by omega)
  refine V.go (pc' := 6) (lv_imul X.1 X.2.1 d_Model_holds_5) ?_
  have s_2 : (8 * (x - 1)).toInt = 8 * (x - 1).toInt := i32_mul8 (by omega) (by omega)
  refine V.rd (pc' := 7) (fun hl => lv_iload_n X.1 X.2.1 d_Model_holds_6 rfl (lv_at hl 2 rfl)) ?_
  refine V.go (pc' := 8) (lv_iadd X.1 X.2.1 d_Model_holds_7) ?_
  have s_3 : ((8 * (x - 1)) + y).toInt = (8 * (x - 1)).toInt + y.toInt := i32_add (by omega) (by omega)
  refine V.go (pc' := 9) (lv_iconst (v := 1) X.1 X.2.1 d_Model_holds_8 (by decide)) ?_
  refine V.go (pc' := 10) (lv_isub X.1 X.2.1 d_Model_holds_9) ?_
  have s_4 : (((8 * (x - 1)) + y) - 1).toInt = ((8 * (x - 1)) + y).toInt - 1 := i32_sub1 (by omega)
  refine V.wr (pc' := 11) (lv' := [(3, .int (((8 * (x - 1)) + y) - 1)), (0, .ref mo), (1, .int x), (2, .int y)]) (fun hl => lv_istore_n X.1 X.2.1 d_Model_holds_10 rfl hl (by decide) rfl) ?_
  refine V.rd (pc' := 12) (fun hl => lv_aload_n X.1 X.2.1 d_Model_holds_11 rfl (lv_at hl 1 rfl)) ?_
  refine V.get (pc' := 15) X hK gh0 uw_Model rfl 1 (by decide) (mcs wd_196) rfl d_Model_holds_12 rfl ?_
  refine V.rd (pc' := 16) (fun hl => lv_aload_n X.1 X.2.1 d_Model_holds_15 rfl (lv_at hl 1 rfl)) ?_
  refine V.get (pc' := 19) X hK gh0 uw_Model rfl 14 (by decide) (mcs wd_189) rfl d_Model_holds_16 rfl ?_
  refine V.rd (pc' := 20) (fun hl => lv_iload_n X.1 X.2.1 d_Model_holds_19 rfl (lv_at hl 0 rfl)) ?_
  refine V.iald (pc' := 21) X hK 0 gh2 rfl (vin (by omega) (by omega)) d_Model_holds_20 rfl ?_
  have q_5 := hcc (((8 * (x - 1)) + y) - 1).toNatClampNeg
  refine V.lald (pc' := 22) X hK 1 gh1 rfl (vin (by omega) (by omega)) d_Model_holds_21 rfl ?_
  refine V.rd (pc' := 23) (fun hl => lv_aload_n X.1 X.2.1 d_Model_holds_22 rfl (lv_at hl 1 rfl)) ?_
  refine V.get (pc' := 26) X hK gh0 uw_Model rfl 16 (by decide) (mcs wd_190) rfl d_Model_holds_23 rfl ?_
  refine V.rd (pc' := 27) (fun hl => lv_iload_n X.1 X.2.1 d_Model_holds_26 rfl (lv_at hl 0 rfl)) ?_
  refine V.lald (pc' := 28) X hK 1 gh3 rfl (vin (by omega) (by omega)) d_Model_holds_27 rfl ?_
  refine V.go (pc' := 29) (W.lcmp X.1 X.2.1 d_Model_holds_28) ?_
  refine V.br (pc' := 32) (tgt := 36) (P := (lg_cmp (vcell (vcc (((8 * (x - 1)) + y) - 1).toNatClampNeg).toNatClampNeg) (vleast (((8 * (x - 1)) + y) - 1).toNatClampNeg)) < 0) (lv_if_lt X.1 X.2.1 d_Model_holds_29 (by decide)) (fun c_6 => ?_) (fun c_6 => ?_)
  · refine V.go (pc' := 37) (lv_iconst (v := 0) X.1 X.2.1 d_Model_holds_36 (by decide)) ?_
    exact V.zret X hr hlk rfl ⟨(by simp only [sp_M_holds, if_pos c_6]), rfl⟩ d_Model_holds_37
  · refine V.go (pc' := 33) (lv_iconst (v := 1) X.1 X.2.1 d_Model_holds_32 (by decide)) ?_
    refine V.go (pc' := 37) (lv_goto X.1 X.2.1 d_Model_holds_33 (by decide)) ?_
    exact V.zret X hr hlk rfl ⟨(by simp only [sp_M_holds, if_neg c_6]), rfl⟩ d_Model_holds_37

theorem d_Model_begin_0 : decode prog_8_method_13_code 0 = .ok (.aload_n 0, 1) := by decide +kernel
theorem d_Model_begin_1 : decode prog_8_method_13_code 1 = .ok (.getfield 7, 3) := by decide +kernel
theorem d_Model_begin_4 : decode prog_8_method_13_code 4 = .ok (.aload_n 0, 1) := by decide +kernel
theorem d_Model_begin_5 : decode prog_8_method_13_code 5 = .ok (.getfield 48, 3) := by decide +kernel
theorem d_Model_begin_8 : decode prog_8_method_13_code 8 = .ok (.bipush 8, 2) := by decide +kernel
theorem d_Model_begin_10 : decode prog_8_method_13_code 10 = .ok (.iload_n 1, 1) := by decide +kernel
theorem d_Model_begin_11 : decode prog_8_method_13_code 11 = .ok (.iconst 1, 1) := by decide +kernel
theorem d_Model_begin_12 : decode prog_8_method_13_code 12 = .ok (.isub, 1) := by decide +kernel
theorem d_Model_begin_13 : decode prog_8_method_13_code 13 = .ok (.imul, 1) := by decide +kernel
theorem d_Model_begin_14 : decode prog_8_method_13_code 14 = .ok (.iload_n 2, 1) := by decide +kernel
theorem d_Model_begin_15 : decode prog_8_method_13_code 15 = .ok (.iadd, 1) := by decide +kernel
theorem d_Model_begin_16 : decode prog_8_method_13_code 16 = .ok (.iconst 1, 1) := by decide +kernel
theorem d_Model_begin_17 : decode prog_8_method_13_code 17 = .ok (.isub, 1) := by decide +kernel
theorem d_Model_begin_18 : decode prog_8_method_13_code 18 = .ok (.iaload, 1) := by decide +kernel
theorem d_Model_begin_19 : decode prog_8_method_13_code 19 = .ok (.aload_n 0, 1) := by decide +kernel
theorem d_Model_begin_20 : decode prog_8_method_13_code 20 = .ok (.getfield 54, 3) := by decide +kernel
theorem d_Model_begin_23 : decode prog_8_method_13_code 23 = .ok (.bipush 8, 2) := by decide +kernel
theorem d_Model_begin_25 : decode prog_8_method_13_code 25 = .ok (.iload_n 1, 1) := by decide +kernel
theorem d_Model_begin_26 : decode prog_8_method_13_code 26 = .ok (.iconst 1, 1) := by decide +kernel
theorem d_Model_begin_27 : decode prog_8_method_13_code 27 = .ok (.isub, 1) := by decide +kernel
theorem d_Model_begin_28 : decode prog_8_method_13_code 28 = .ok (.imul, 1) := by decide +kernel
theorem d_Model_begin_29 : decode prog_8_method_13_code 29 = .ok (.iload_n 2, 1) := by decide +kernel
theorem d_Model_begin_30 : decode prog_8_method_13_code 30 = .ok (.iadd, 1) := by decide +kernel
theorem d_Model_begin_31 : decode prog_8_method_13_code 31 = .ok (.iconst 1, 1) := by decide +kernel
theorem d_Model_begin_32 : decode prog_8_method_13_code 32 = .ok (.isub, 1) := by decide +kernel
theorem d_Model_begin_33 : decode prog_8_method_13_code 33 = .ok (.laload, 1) := by decide +kernel
theorem d_Model_begin_34 : decode prog_8_method_13_code 34 = .ok (.lastore, 1) := by decide +kernel
theorem d_Model_begin_35 : decode prog_8_method_13_code 35 = .ok (.return_, 1) := by decide +kernel

set_option maxHeartbeats 4000000 in
set_option maxRecDepth 100000 in
theorem c_M_begin {l : Launch} {H0 : Heap} {D : va_G} {cI cL cQ cB : ClassId} {M : mp} {mo : Nat} {ad : Nat → Nat} (hinj : ∀ i j : Nat, i < 33 → j < 33 → ad i = ad j → i = j) {xcode : Int32} {np : Int32} {ns : Int32} {xsize : Int32} {xmost : Int32} {xend : Int32} {xran : Int32} {yend : Int32} {ysize : Int32} {ymost : Int32} {yran : Int32} {vcell : Nat → Int64} {vvar : Nat → Int32} {vfirst : Nat → Int64} {x : Int32} {y : Int32} (hs : 1 ≤ x.toInt ∧ x.toInt ≤ 60) (hlv : 1 ≤ y.toInt ∧ y.toInt ≤ 8) (hva : ∀ i : Nat, 0 ≤ (vvar i).toInt ∧ (vvar i).toInt ≤ 15) (gh0 : M mo = some (.inr (6, [.int xcode, .ref (ad 1), .ref (ad 2), .int np, .int ns, .ref (ad 5), .ref (ad 6), .ref (ad 7), .ref (ad 8), .ref (ad 9), .ref (ad 10), .ref (ad 11), .ref (ad 12), .ref (ad 13), .ref (ad 14), .ref (ad 15), .ref (ad 16), .ref (ad 17), .ref (ad 18), .ref (ad 19), .ref (ad 20), .ref (ad 21), .int xsize, .int xmost, .int xend, .int xran, .ref (ad 26), .int yend, .int ysize, .int ymost, .int yran, .ref (ad 31), .ref (ad 32)]))) (gh1 : M (ad 1) = some (.inl (cL, 16, .inr (.inl vcell)))) (gh2 : M (ad 15) = some (.inl (cI, 488, .inl vvar))) (gh3 : M (ad 17) = some (.inl (cL, 488, .inr (.inl vfirst)))) : MC l H0 D cls7 (tysOf cI cL cQ cB) NW ({ cls := "PerformRangesModel", name := "begin", desc := "(II)V" } : Jvm.MethodName) (Cond.code ({ cls := "PerformRangesModel", name := "begin", desc := "(II)V" } : Jvm.MethodName) prog_8_method_13_code 3 (Option.none : Option Jvm.ClassFile.FieldType) :: GW) ({ frames := 0, cells := 0, slots := 0, locals := 0 }) [.ref mo, .int x, .int y] M (fun v M' => v = none ∧ M' (ad 1) = some (.inl (cL, 16, .inr (.inl (vp_updL vcell (vvar (((8 * (x - 1)) + y) - 1).toNatClampNeg).toNatClampNeg (vfirst (((8 * (x - 1)) + y) - 1).toNatClampNeg))))) ∧ (∀ q, q ≠ (ad 1) → M' q = M q)) := by
  refine MC.of (cc := prog_8_method_13_code) (nL := 3) (ret := (Option.none : Option Jvm.ClassFile.FieldType)) (lv := [(0, .ref mo), (1, .int x), (2, .int y)]) (by decide) rfl (Nat.le_of_ble_eq_true rfl) rfl ?_
  intro p e s m below meth c X hr hlk hnm hK
  refine V.rd (pc' := 1) (fun hl => lv_aload_n X.1 X.2.1 d_Model_begin_0 rfl (lv_at hl 0 rfl)) ?_
  refine V.get (pc' := 4) X hK gh0 uw_Model rfl 1 (by decide) (mcs wd_196) rfl d_Model_begin_1 rfl ?_
  refine V.rd (pc' := 5) (fun hl => lv_aload_n X.1 X.2.1 d_Model_begin_4 rfl (lv_at hl 0 rfl)) ?_
  refine V.get (pc' := 8) X hK gh0 uw_Model rfl 15 (by decide) (mcs wd_192) rfl d_Model_begin_5 rfl ?_
  refine V.go (pc' := 10) (lv_bipush (v := 8) X.1 X.2.1 d_Model_begin_8 (by decide)) ?_
  refine V.rd (pc' := 11) (fun hl => lv_iload_n X.1 X.2.1 d_Model_begin_10 rfl (lv_at hl 1 rfl)) ?_
  refine V.go (pc' := 12) (lv_iconst (v := 1) X.1 X.2.1 d_Model_begin_11 (by decide)) ?_
  refine V.go (pc' := 13) (lv_isub X.1 X.2.1 d_Model_begin_12) ?_
  have s_1 : (x - 1).toInt = x.toInt - 1 := i32_sub1 (by omega)
  refine V.go (pc' := 14) (lv_imul X.1 X.2.1 d_Model_begin_13) ?_
  have s_2 : (8 * (x - 1)).toInt = 8 * (x - 1).toInt := i32_mul8 (by omega) (by omega)
  refine V.rd (pc' := 15) (fun hl => lv_iload_n X.1 X.2.1 d_Model_begin_14 rfl (lv_at hl 2 rfl)) ?_
  refine V.go (pc' := 16) (lv_iadd X.1 X.2.1 d_Model_begin_15) ?_
  have s_3 : ((8 * (x - 1)) + y).toInt = (8 * (x - 1)).toInt + y.toInt := i32_add (by omega) (by omega)
  refine V.go (pc' := 17) (lv_iconst (v := 1) X.1 X.2.1 d_Model_begin_16 (by decide)) ?_
  refine V.go (pc' := 18) (lv_isub X.1 X.2.1 d_Model_begin_17) ?_
  have s_4 : (((8 * (x - 1)) + y) - 1).toInt = ((8 * (x - 1)) + y).toInt - 1 := i32_sub1 (by omega)
  refine V.iald (pc' := 19) X hK 0 gh2 rfl (vin (by omega) (by omega)) d_Model_begin_18 rfl ?_
  have q_5 := hva (((8 * (x - 1)) + y) - 1).toNatClampNeg
  refine V.rd (pc' := 20) (fun hl => lv_aload_n X.1 X.2.1 d_Model_begin_19 rfl (lv_at hl 0 rfl)) ?_
  refine V.get (pc' := 23) X hK gh0 uw_Model rfl 17 (by decide) (mcs wd_193) rfl d_Model_begin_20 rfl ?_
  refine V.go (pc' := 25) (lv_bipush (v := 8) X.1 X.2.1 d_Model_begin_23 (by decide)) ?_
  refine V.rd (pc' := 26) (fun hl => lv_iload_n X.1 X.2.1 d_Model_begin_25 rfl (lv_at hl 1 rfl)) ?_
  refine V.go (pc' := 27) (lv_iconst (v := 1) X.1 X.2.1 d_Model_begin_26 (by decide)) ?_
  refine V.go (pc' := 28) (lv_isub X.1 X.2.1 d_Model_begin_27) ?_
  have s_6 : (x - 1).toInt = x.toInt - 1 := i32_sub1 (by omega)
  refine V.go (pc' := 29) (lv_imul X.1 X.2.1 d_Model_begin_28) ?_
  have s_7 : (8 * (x - 1)).toInt = 8 * (x - 1).toInt := i32_mul8 (by omega) (by omega)
  refine V.rd (pc' := 30) (fun hl => lv_iload_n X.1 X.2.1 d_Model_begin_29 rfl (lv_at hl 2 rfl)) ?_
  refine V.go (pc' := 31) (lv_iadd X.1 X.2.1 d_Model_begin_30) ?_
  have s_8 : ((8 * (x - 1)) + y).toInt = (8 * (x - 1)).toInt + y.toInt := i32_add (by omega) (by omega)
  refine V.go (pc' := 32) (lv_iconst (v := 1) X.1 X.2.1 d_Model_begin_31 (by decide)) ?_
  refine V.go (pc' := 33) (lv_isub X.1 X.2.1 d_Model_begin_32) ?_
  have s_9 : (((8 * (x - 1)) + y) - 1).toInt = ((8 * (x - 1)) + y).toInt - 1 := i32_sub1 (by omega)
  refine V.lald (pc' := 34) X hK 1 gh3 rfl (vin (by omega) (by omega)) d_Model_begin_33 rfl ?_
  refine V.last (pc' := 35) X hK 1 gh1 rfl (vin (by omega) (by omega)) d_Model_begin_34 rfl (fun M_10 h_11 fr_12 => ?_)
  have h_13 : M_10 mo = some (.inr (6, [.int xcode, .ref (ad 1), .ref (ad 2), .int np, .int ns, .ref (ad 5), .ref (ad 6), .ref (ad 7), .ref (ad 8), .ref (ad 9), .ref (ad 10), .ref (ad 11), .ref (ad 12), .ref (ad 13), .ref (ad 14), .ref (ad 15), .ref (ad 16), .ref (ad 17), .ref (ad 18), .ref (ad 19), .ref (ad 20), .ref (ad 21), .int xsize, .int xmost, .int xend, .int xran, .ref (ad 26), .int yend, .int ysize, .int ymost, .int yran, .ref (ad 31), .ref (ad 32)])) := (fr_12 _ (ne_k gh0 gh1 (i := 6) (j := 100016) rfl rfl (by decide))).trans gh0
  have h_14 : M_10 (ad 15) = some (.inl (cI, 488, .inl vvar)) := (fr_12 _ (ad_ne hinj (i := 15) (j := 1) (by decide) (by decide) (by decide))).trans gh2
  have h_15 : M_10 (ad 17) = some (.inl (cL, 488, .inr (.inl vfirst))) := (fr_12 _ (ad_ne hinj (i := 17) (j := 1) (by decide) (by decide) (by decide))).trans gh3
  exact V.vret X hr hlk ⟨rfl, h_11, (fun q n0_ => (fr_12 q n0_))⟩ d_Model_begin_35

theorem d_Model_goOn_0 : decode prog_8_method_14_code 0 = .ok (.aload_n 0, 1) := by decide +kernel
theorem d_Model_goOn_1 : decode prog_8_method_14_code 1 = .ok (.getfield 7, 3) := by decide +kernel
theorem d_Model_goOn_4 : decode prog_8_method_14_code 4 = .ok (.aload_n 0, 1) := by decide +kernel
theorem d_Model_goOn_5 : decode prog_8_method_14_code 5 = .ok (.getfield 48, 3) := by decide +kernel
theorem d_Model_goOn_8 : decode prog_8_method_14_code 8 = .ok (.bipush 8, 2) := by decide +kernel
theorem d_Model_goOn_10 : decode prog_8_method_14_code 10 = .ok (.iload_n 1, 1) := by decide +kernel
theorem d_Model_goOn_11 : decode prog_8_method_14_code 11 = .ok (.iconst 1, 1) := by decide +kernel
theorem d_Model_goOn_12 : decode prog_8_method_14_code 12 = .ok (.isub, 1) := by decide +kernel
theorem d_Model_goOn_13 : decode prog_8_method_14_code 13 = .ok (.imul, 1) := by decide +kernel
theorem d_Model_goOn_14 : decode prog_8_method_14_code 14 = .ok (.iload_n 2, 1) := by decide +kernel
theorem d_Model_goOn_15 : decode prog_8_method_14_code 15 = .ok (.iadd, 1) := by decide +kernel
theorem d_Model_goOn_16 : decode prog_8_method_14_code 16 = .ok (.iconst 1, 1) := by decide +kernel
theorem d_Model_goOn_17 : decode prog_8_method_14_code 17 = .ok (.isub, 1) := by decide +kernel
theorem d_Model_goOn_18 : decode prog_8_method_14_code 18 = .ok (.iaload, 1) := by decide +kernel
theorem d_Model_goOn_19 : decode prog_8_method_14_code 19 = .ok (.dup2, 1) := by decide +kernel
theorem d_Model_goOn_20 : decode prog_8_method_14_code 20 = .ok (.laload, 1) := by decide +kernel
theorem d_Model_goOn_21 : decode prog_8_method_14_code 21 = .ok (.aload_n 0, 1) := by decide +kernel
theorem d_Model_goOn_22 : decode prog_8_method_14_code 22 = .ok (.getfield 57, 3) := by decide +kernel
theorem d_Model_goOn_25 : decode prog_8_method_14_code 25 = .ok (.bipush 8, 2) := by decide +kernel
theorem d_Model_goOn_27 : decode prog_8_method_14_code 27 = .ok (.iload_n 1, 1) := by decide +kernel
theorem d_Model_goOn_28 : decode prog_8_method_14_code 28 = .ok (.iconst 1, 1) := by decide +kernel
theorem d_Model_goOn_29 : decode prog_8_method_14_code 29 = .ok (.isub, 1) := by decide +kernel
theorem d_Model_goOn_30 : decode prog_8_method_14_code 30 = .ok (.imul, 1) := by decide +kernel
theorem d_Model_goOn_31 : decode prog_8_method_14_code 31 = .ok (.iload_n 2, 1) := by decide +kernel
theorem d_Model_goOn_32 : decode prog_8_method_14_code 32 = .ok (.iadd, 1) := by decide +kernel
theorem d_Model_goOn_33 : decode prog_8_method_14_code 33 = .ok (.iconst 1, 1) := by decide +kernel
theorem d_Model_goOn_34 : decode prog_8_method_14_code 34 = .ok (.isub, 1) := by decide +kernel
theorem d_Model_goOn_35 : decode prog_8_method_14_code 35 = .ok (.laload, 1) := by decide +kernel
theorem d_Model_goOn_36 : decode prog_8_method_14_code 36 = .ok (.ladd, 1) := by decide +kernel
theorem d_Model_goOn_37 : decode prog_8_method_14_code 37 = .ok (.lastore, 1) := by decide +kernel
theorem d_Model_goOn_38 : decode prog_8_method_14_code 38 = .ok (.return_, 1) := by decide +kernel

set_option maxHeartbeats 4000000 in
set_option maxRecDepth 100000 in
theorem c_M_goOn {l : Launch} {H0 : Heap} {D : va_G} {cI cL cQ cB : ClassId} {M : mp} {mo : Nat} {ad : Nat → Nat} (hinj : ∀ i j : Nat, i < 33 → j < 33 → ad i = ad j → i = j) {xcode : Int32} {np : Int32} {ns : Int32} {xsize : Int32} {xmost : Int32} {xend : Int32} {xran : Int32} {yend : Int32} {ysize : Int32} {ymost : Int32} {yran : Int32} {vcell : Nat → Int64} {vvar : Nat → Int32} {vstep : Nat → Int64} {x : Int32} {y : Int32} (hs : 1 ≤ x.toInt ∧ x.toInt ≤ 60) (hlv : 1 ≤ y.toInt ∧ y.toInt ≤ 8) (hva : ∀ i : Nat, 0 ≤ (vvar i).toInt ∧ (vvar i).toInt ≤ 15) (gh0 : M mo = some (.inr (6, [.int xcode, .ref (ad 1), .ref (ad 2), .int np, .int ns, .ref (ad 5), .ref (ad 6), .ref (ad 7), .ref (ad 8), .ref (ad 9), .ref (ad 10), .ref (ad 11), .ref (ad 12), .ref (ad 13), .ref (ad 14), .ref (ad 15), .ref (ad 16), .ref (ad 17), .ref (ad 18), .ref (ad 19), .ref (ad 20), .ref (ad 21), .int xsize, .int xmost, .int xend, .int xran, .ref (ad 26), .int yend, .int ysize, .int ymost, .int yran, .ref (ad 31), .ref (ad 32)]))) (gh1 : M (ad 1) = some (.inl (cL, 16, .inr (.inl vcell)))) (gh2 : M (ad 15) = some (.inl (cI, 488, .inl vvar))) (gh3 : M (ad 18) = some (.inl (cL, 488, .inr (.inl vstep)))) : MC l H0 D cls7 (tysOf cI cL cQ cB) NW ({ cls := "PerformRangesModel", name := "goOn", desc := "(II)V" } : Jvm.MethodName) (Cond.code ({ cls := "PerformRangesModel", name := "goOn", desc := "(II)V" } : Jvm.MethodName) prog_8_method_14_code 3 (Option.none : Option Jvm.ClassFile.FieldType) :: GW) ({ frames := 0, cells := 0, slots := 0, locals := 0 }) [.ref mo, .int x, .int y] M (fun v M' => v = none ∧ M' (ad 1) = some (.inl (cL, 16, .inr (.inl (vp_updL vcell (vvar (((8 * (x - 1)) + y) - 1).toNatClampNeg).toNatClampNeg ((vcell (vvar (((8 * (x - 1)) + y) - 1).toNatClampNeg).toNatClampNeg) + (vstep (((8 * (x - 1)) + y) - 1).toNatClampNeg)))))) ∧ (∀ q, q ≠ (ad 1) → M' q = M q)) := by
  refine MC.of (cc := prog_8_method_14_code) (nL := 3) (ret := (Option.none : Option Jvm.ClassFile.FieldType)) (lv := [(0, .ref mo), (1, .int x), (2, .int y)]) (by decide) rfl (Nat.le_of_ble_eq_true rfl) rfl ?_
  intro p e s m below meth c X hr hlk hnm hK
  refine V.rd (pc' := 1) (fun hl => lv_aload_n X.1 X.2.1 d_Model_goOn_0 rfl (lv_at hl 0 rfl)) ?_
  refine V.get (pc' := 4) X hK gh0 uw_Model rfl 1 (by decide) (mcs wd_196) rfl d_Model_goOn_1 rfl ?_
  refine V.rd (pc' := 5) (fun hl => lv_aload_n X.1 X.2.1 d_Model_goOn_4 rfl (lv_at hl 0 rfl)) ?_
  refine V.get (pc' := 8) X hK gh0 uw_Model rfl 15 (by decide) (mcs wd_192) rfl d_Model_goOn_5 rfl ?_
  refine V.go (pc' := 10) (lv_bipush (v := 8) X.1 X.2.1 d_Model_goOn_8 (by decide)) ?_
  refine V.rd (pc' := 11) (fun hl => lv_iload_n X.1 X.2.1 d_Model_goOn_10 rfl (lv_at hl 1 rfl)) ?_
  refine V.go (pc' := 12) (lv_iconst (v := 1) X.1 X.2.1 d_Model_goOn_11 (by decide)) ?_
  refine V.go (pc' := 13) (lv_isub X.1 X.2.1 d_Model_goOn_12) ?_
  have s_1 : (x - 1).toInt = x.toInt - 1 := i32_sub1 (by omega)
  refine V.go (pc' := 14) (lv_imul X.1 X.2.1 d_Model_goOn_13) ?_
  have s_2 : (8 * (x - 1)).toInt = 8 * (x - 1).toInt := i32_mul8 (by omega) (by omega)
  refine V.rd (pc' := 15) (fun hl => lv_iload_n X.1 X.2.1 d_Model_goOn_14 rfl (lv_at hl 2 rfl)) ?_
  refine V.go (pc' := 16) (lv_iadd X.1 X.2.1 d_Model_goOn_15) ?_
  have s_3 : ((8 * (x - 1)) + y).toInt = (8 * (x - 1)).toInt + y.toInt := i32_add (by omega) (by omega)
  refine V.go (pc' := 17) (lv_iconst (v := 1) X.1 X.2.1 d_Model_goOn_16 (by decide)) ?_
  refine V.go (pc' := 18) (lv_isub X.1 X.2.1 d_Model_goOn_17) ?_
  have s_4 : (((8 * (x - 1)) + y) - 1).toInt = ((8 * (x - 1)) + y).toInt - 1 := i32_sub1 (by omega)
  refine V.iald (pc' := 19) X hK 0 gh2 rfl (vin (by omega) (by omega)) d_Model_goOn_18 rfl ?_
  have q_5 := hva (((8 * (x - 1)) + y) - 1).toNatClampNeg
  refine V.go (pc' := 20) (lv_dup2_11 X.1 X.2.1 d_Model_goOn_19 rfl rfl) ?_
  refine V.lald (pc' := 21) X hK 1 gh1 rfl (vin (by omega) (by omega)) d_Model_goOn_20 rfl ?_
  refine V.rd (pc' := 22) (fun hl => lv_aload_n X.1 X.2.1 d_Model_goOn_21 rfl (lv_at hl 0 rfl)) ?_
  refine V.get (pc' := 25) X hK gh0 uw_Model rfl 18 (by decide) (mcs wd_194) rfl d_Model_goOn_22 rfl ?_
  refine V.go (pc' := 27) (lv_bipush (v := 8) X.1 X.2.1 d_Model_goOn_25 (by decide)) ?_
  refine V.rd (pc' := 28) (fun hl => lv_iload_n X.1 X.2.1 d_Model_goOn_27 rfl (lv_at hl 1 rfl)) ?_
  refine V.go (pc' := 29) (lv_iconst (v := 1) X.1 X.2.1 d_Model_goOn_28 (by decide)) ?_
  refine V.go (pc' := 30) (lv_isub X.1 X.2.1 d_Model_goOn_29) ?_
  have s_6 : (x - 1).toInt = x.toInt - 1 := i32_sub1 (by omega)
  refine V.go (pc' := 31) (lv_imul X.1 X.2.1 d_Model_goOn_30) ?_
  have s_7 : (8 * (x - 1)).toInt = 8 * (x - 1).toInt := i32_mul8 (by omega) (by omega)
  refine V.rd (pc' := 32) (fun hl => lv_iload_n X.1 X.2.1 d_Model_goOn_31 rfl (lv_at hl 2 rfl)) ?_
  refine V.go (pc' := 33) (lv_iadd X.1 X.2.1 d_Model_goOn_32) ?_
  have s_8 : ((8 * (x - 1)) + y).toInt = (8 * (x - 1)).toInt + y.toInt := i32_add (by omega) (by omega)
  refine V.go (pc' := 34) (lv_iconst (v := 1) X.1 X.2.1 d_Model_goOn_33 (by decide)) ?_
  refine V.go (pc' := 35) (lv_isub X.1 X.2.1 d_Model_goOn_34) ?_
  have s_9 : (((8 * (x - 1)) + y) - 1).toInt = ((8 * (x - 1)) + y).toInt - 1 := i32_sub1 (by omega)
  refine V.lald (pc' := 36) X hK 1 gh3 rfl (vin (by omega) (by omega)) d_Model_goOn_35 rfl ?_
  refine V.go (pc' := 37) (lv_ladd X.1 X.2.1 d_Model_goOn_36) ?_
  refine V.last (pc' := 38) X hK 1 gh1 rfl (vin (by omega) (by omega)) d_Model_goOn_37 rfl (fun M_10 h_11 fr_12 => ?_)
  have h_13 : M_10 mo = some (.inr (6, [.int xcode, .ref (ad 1), .ref (ad 2), .int np, .int ns, .ref (ad 5), .ref (ad 6), .ref (ad 7), .ref (ad 8), .ref (ad 9), .ref (ad 10), .ref (ad 11), .ref (ad 12), .ref (ad 13), .ref (ad 14), .ref (ad 15), .ref (ad 16), .ref (ad 17), .ref (ad 18), .ref (ad 19), .ref (ad 20), .ref (ad 21), .int xsize, .int xmost, .int xend, .int xran, .ref (ad 26), .int yend, .int ysize, .int ymost, .int yran, .ref (ad 31), .ref (ad 32)])) := (fr_12 _ (ne_k gh0 gh1 (i := 6) (j := 100016) rfl rfl (by decide))).trans gh0
  have h_14 : M_10 (ad 15) = some (.inl (cI, 488, .inl vvar)) := (fr_12 _ (ad_ne hinj (i := 15) (j := 1) (by decide) (by decide) (by decide))).trans gh2
  have h_15 : M_10 (ad 18) = some (.inl (cL, 488, .inr (.inl vstep))) := (fr_12 _ (ad_ne hinj (i := 18) (j := 1) (by decide) (by decide) (by decide))).trans gh3
  exact V.vret X hr hlk ⟨rfl, h_11, (fun q n0_ => (fr_12 q n0_))⟩ d_Model_goOn_38
