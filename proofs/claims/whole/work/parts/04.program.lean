theorem wd_1 : (Jvm.Cond.fieldLink "PerformRanges$Program" (24 : Nat) "PerformRanges$Program" "paragraphs" "I") ∈ GW := gw_of (i := 62) (by decide +kernel) (by decide +kernel)
theorem wd_2 : (Jvm.Cond.fieldLink "PerformRanges$Program" (36 : Nat) "PerformRanges$Program" "statements" "I") ∈ GW := gw_of (i := 64) (by decide +kernel) (by decide +kernel)
theorem wd_3 : (Jvm.Cond.fieldLink "PerformRanges$Program" (9 : Nat) "PerformRanges$Program" "doings" "[I") ∈ GW := gw_of (i := 59) (by decide +kernel) (by decide +kernel)
theorem wd_4 : (Jvm.Cond.methodLink "PerformRanges$Program" (28 : Nat) ({ cls := "PerformRanges$Program", name := "isParagraph", desc := "(I)Z" } : Jvm.MethodName)) ∈ GW := gw_of (i := 257) (by decide +kernel) (by decide +kernel)
theorem wd_5 : (Jvm.Cond.instanceMethod ({ cls := "PerformRanges$Program", name := "isParagraph", desc := "(I)Z" } : Jvm.MethodName)) ∈ GW := gw_of (i := 165) (by decide +kernel) (by decide +kernel)
theorem wd_6 : (Jvm.Cond.selects "PerformRanges$Program" ({ cls := "PerformRanges$Program", name := "isParagraph", desc := "(I)Z" } : Jvm.MethodName) ({ cls := "PerformRanges$Program", name := "isParagraph", desc := "(I)Z" } : Jvm.MethodName)) ∈ GW := gw_of (i := 166) (by decide +kernel) (by decide +kernel)
theorem wd_7 : (Jvm.Cond.initialized "PerformRanges$Program") ∈ GW := gw_of (i := 32) (by decide +kernel) (by decide +kernel)
theorem wd_8 : (Jvm.Cond.code ({ cls := "PerformRanges$Program", name := "isParagraph", desc := "(I)Z" } : Jvm.MethodName) prog_5_method_2_code (2 : Nat) (Option.some Jvm.ClassFile.FieldType.boolean)) ∈ GW := gw_of (i := 167) (by decide +kernel) (by decide +kernel)
theorem wd_9 : (Jvm.Cond.methodLink "PerformRanges$Program" (32 : Nat) ({ cls := "PerformRanges$Program", name := "doingOf", desc := "(I)I" } : Jvm.MethodName)) ∈ GW := gw_of (i := 351) (by decide +kernel) (by decide +kernel)
theorem wd_10 : (Jvm.Cond.instanceMethod ({ cls := "PerformRanges$Program", name := "doingOf", desc := "(I)I" } : Jvm.MethodName)) ∈ GW := gw_of (i := 352) (by decide +kernel) (by decide +kernel)
theorem wd_11 : (Jvm.Cond.selects "PerformRanges$Program" ({ cls := "PerformRanges$Program", name := "doingOf", desc := "(I)I" } : Jvm.MethodName) ({ cls := "PerformRanges$Program", name := "doingOf", desc := "(I)I" } : Jvm.MethodName)) ∈ GW := gw_of (i := 353) (by decide +kernel) (by decide +kernel)
theorem wd_12 : (Jvm.Cond.code ({ cls := "PerformRanges$Program", name := "doingOf", desc := "(I)I" } : Jvm.MethodName) prog_5_method_4_code (2 : Nat) (Option.some Jvm.ClassFile.FieldType.int)) ∈ GW := gw_of (i := 354) (by decide +kernel) (by decide +kernel)
theorem wd_13 : (Jvm.Cond.fieldLink "PerformRanges$Program" (15 : Nat) "PerformRanges$Program" "goings" "[I") ∈ GW := gw_of (i := 60) (by decide +kernel) (by decide +kernel)
theorem d_Program_isParagraph_0 : decode prog_5_method_2_code 0 = .ok (.iload_n 1, 1) := by decide +kernel
theorem d_Program_isParagraph_1 : decode prog_5_method_2_code 1 = .ok (.iconst 1, 1) := by decide +kernel
theorem d_Program_isParagraph_2 : decode prog_5_method_2_code 2 = .ok (.if_icmp .lt 21, 3) := by decide +kernel
theorem d_Program_isParagraph_5 : decode prog_5_method_2_code 5 = .ok (.iload_n 1, 1) := by decide +kernel
theorem d_Program_isParagraph_6 : decode prog_5_method_2_code 6 = .ok (.aload_n 0, 1) := by decide +kernel
theorem d_Program_isParagraph_7 : decode prog_5_method_2_code 7 = .ok (.getfield 24, 3) := by decide +kernel
theorem d_Program_isParagraph_10 : decode prog_5_method_2_code 10 = .ok (.if_icmp .gt 13, 3) := by decide +kernel
theorem d_Program_isParagraph_13 : decode prog_5_method_2_code 13 = .ok (.iload_n 1, 1) := by decide +kernel
theorem d_Program_isParagraph_14 : decode prog_5_method_2_code 14 = .ok (.bipush 60, 2) := by decide +kernel
theorem d_Program_isParagraph_16 : decode prog_5_method_2_code 16 = .ok (.if_icmp .gt 7, 3) := by decide +kernel
theorem d_Program_isParagraph_19 : decode prog_5_method_2_code 19 = .ok (.iconst 1, 1) := by decide +kernel
theorem d_Program_isParagraph_20 : decode prog_5_method_2_code 20 = .ok (.goto 4, 3) := by decide +kernel
theorem d_Program_isParagraph_23 : decode prog_5_method_2_code 23 = .ok (.iconst 0, 1) := by decide +kernel
theorem d_Program_isParagraph_24 : decode prog_5_method_2_code 24 = .ok (.ireturn, 1) := by decide +kernel

def sp_isParagraph (np : Int32) (x : Int32) : Int32 := if x < 1 then 0 else if np < x then 0 else if 60 < x then 0 else 1
set_option maxHeartbeats 4000000 in
set_option maxRecDepth 100000 in
theorem c_isParagraph {l : Launch} {H0 : Heap} {D : va_G} {cI cL cQ cB : ClassId} {M : mp} {pg dg gg tg0 : Nat} {np : Int32} {ns : Int32} {x : Int32} (gh0 : M pg = some (.inr (3, [.ref dg, .ref gg, .ref tg0, .int np, .int ns]))) : MC l H0 D cls7 (tysOf cI cL cQ cB) NW ({ cls := "PerformRanges$Program", name := "isParagraph", desc := "(I)Z" } : Jvm.MethodName) (Cond.code ({ cls := "PerformRanges$Program", name := "isParagraph", desc := "(I)Z" } : Jvm.MethodName) prog_5_method_2_code 2 (Option.some Jvm.ClassFile.FieldType.boolean) :: GW) ({ frames := 0, cells := 0, slots := 0, locals := 0 }) [.ref pg, .int x] M (fun v M' => v = some (.int (sp_isParagraph np x)) ∧ M' = M) := by
  refine MC.of (cc := prog_5_method_2_code) (nL := 2) (ret := (Option.some Jvm.ClassFile.FieldType.boolean)) (lv := [(0, .ref pg), (1, .int x)]) (by decide) rfl (Nat.le_of_ble_eq_true rfl) rfl ?_
  intro p e s m below meth c X hr hlk hnm hK
  refine V.rd (pc' := 1) (fun hl => lv_iload_n X.1 X.2.1 d_Program_isParagraph_0 rfl (lv_at hl 1 rfl)) ?_
  refine V.go (pc' := 2) (lv_iconst (v := 1) X.1 X.2.1 d_Program_isParagraph_1 (by decide)) ?_
  refine V.br (pc' := 5) (tgt := 23) (P := x < 1) (lv_icmp_lt X.1 X.2.1 d_Program_isParagraph_2 (by decide)) (fun c_1 => ?_) (fun c_1 => ?_)
  · have i_2 := Int32.lt_iff_toInt_lt.mp c_1
    rw [show (1 : Int32).toInt = 1 from rfl] at i_2
    refine V.go (pc' := 24) (lv_iconst (v := 0) X.1 X.2.1 d_Program_isParagraph_23 (by decide)) ?_
    exact V.zret X hr hlk rfl ⟨(by simp only [sp_isParagraph, if_pos c_1]), rfl⟩ d_Program_isParagraph_24
  · have i_3 := mt Int32.lt_iff_toInt_lt.mpr c_1
    rw [show (1 : Int32).toInt = 1 from rfl] at i_3
    refine V.rd (pc' := 6) (fun hl => lv_iload_n X.1 X.2.1 d_Program_isParagraph_5 rfl (lv_at hl 1 rfl)) ?_
    refine V.rd (pc' := 7) (fun hl => lv_aload_n X.1 X.2.1 d_Program_isParagraph_6 rfl (lv_at hl 0 rfl)) ?_
    refine V.get (pc' := 10) X hK gh0 uw_Program rfl 3 (by decide) (mcs wd_1) rfl d_Program_isParagraph_7 rfl ?_
    refine V.br (pc' := 13) (tgt := 23) (P := np < x) (lv_icmp_gt X.1 X.2.1 d_Program_isParagraph_10 (by decide)) (fun c_4 => ?_) (fun c_4 => ?_)
    · have i_5 := Int32.lt_iff_toInt_lt.mp c_4
      refine V.go (pc' := 24) (lv_iconst (v := 0) X.1 X.2.1 d_Program_isParagraph_23 (by decide)) ?_
      exact V.zret X hr hlk rfl ⟨(by simp only [sp_isParagraph, if_neg c_1, if_pos c_4]), rfl⟩ d_Program_isParagraph_24
    · have i_6 := mt Int32.lt_iff_toInt_lt.mpr c_4
      refine V.rd (pc' := 14) (fun hl => lv_iload_n X.1 X.2.1 d_Program_isParagraph_13 rfl (lv_at hl 1 rfl)) ?_
      refine V.go (pc' := 16) (lv_bipush (v := 60) X.1 X.2.1 d_Program_isParagraph_14 (by decide)) ?_
      refine V.br (pc' := 19) (tgt := 23) (P := 60 < x) (lv_icmp_gt X.1 X.2.1 d_Program_isParagraph_16 (by decide)) (fun c_7 => ?_) (fun c_7 => ?_)
      · have i_8 := Int32.lt_iff_toInt_lt.mp c_7
        rw [show (60 : Int32).toInt = 60 from rfl] at i_8
        refine V.go (pc' := 24) (lv_iconst (v := 0) X.1 X.2.1 d_Program_isParagraph_23 (by decide)) ?_
        exact V.zret X hr hlk rfl ⟨(by simp only [sp_isParagraph, if_neg c_1, if_neg c_4, if_pos c_7]), rfl⟩ d_Program_isParagraph_24
      · have i_9 := mt Int32.lt_iff_toInt_lt.mpr c_7
        rw [show (60 : Int32).toInt = 60 from rfl] at i_9
        refine V.go (pc' := 20) (lv_iconst (v := 1) X.1 X.2.1 d_Program_isParagraph_19 (by decide)) ?_
        refine V.go (pc' := 24) (lv_goto X.1 X.2.1 d_Program_isParagraph_20 (by decide)) ?_
        exact V.zret X hr hlk rfl ⟨(by simp only [sp_isParagraph, if_neg c_1, if_neg c_4, if_neg c_7]), rfl⟩ d_Program_isParagraph_24

theorem isPar_ne {np x : Int32} (h : ¬ sp_isParagraph np x = 0) : 1 ≤ x.toInt ∧ x.toInt ≤ np.toInt ∧ x.toInt ≤ 60 := by
  unfold sp_isParagraph at h
  have k1 : (1 : Int32).toInt = 1 := rfl
  have k60 : (60 : Int32).toInt = 60 := rfl
  by_cases h1 : x < 1
  · rw [if_pos h1] at h
    exact absurd rfl h
  · rw [if_neg h1] at h
    by_cases h2 : np < x
    · rw [if_pos h2] at h
      exact absurd rfl h
    · rw [if_neg h2] at h
      by_cases h3 : (60 : Int32) < x
      · rw [if_pos h3] at h
        exact absurd rfl h
      · have a1 := mt Int32.lt_iff_toInt_lt.mpr h1
        have a2 := mt Int32.lt_iff_toInt_lt.mpr h2
        have a3 := mt Int32.lt_iff_toInt_lt.mpr h3
        refine ⟨?_, ?_, ?_⟩ <;> omega

theorem d_Program_isFullOfStatements_0 : decode prog_5_method_8_code 0 = .ok (.aload_n 0, 1) := by decide +kernel
theorem d_Program_isFullOfStatements_1 : decode prog_5_method_8_code 1 = .ok (.getfield 36, 3) := by decide +kernel
theorem d_Program_isFullOfStatements_4 : decode prog_5_method_8_code 4 = .ok (.bipush 60, 2) := by decide +kernel
theorem d_Program_isFullOfStatements_6 : decode prog_5_method_8_code 6 = .ok (.if_icmp .lt 7, 3) := by decide +kernel
theorem d_Program_isFullOfStatements_9 : decode prog_5_method_8_code 9 = .ok (.iconst 1, 1) := by decide +kernel
theorem d_Program_isFullOfStatements_10 : decode prog_5_method_8_code 10 = .ok (.goto 4, 3) := by decide +kernel
theorem d_Program_isFullOfStatements_13 : decode prog_5_method_8_code 13 = .ok (.iconst 0, 1) := by decide +kernel
theorem d_Program_isFullOfStatements_14 : decode prog_5_method_8_code 14 = .ok (.ireturn, 1) := by decide +kernel

def sp_isFullOfStatements (ns : Int32) : Int32 := if ns < 60 then 0 else 1
set_option maxHeartbeats 4000000 in
set_option maxRecDepth 100000 in
theorem c_isFullOfStatements {l : Launch} {H0 : Heap} {D : va_G} {cI cL cQ cB : ClassId} {M : mp} {pg dg gg tg0 : Nat} {np : Int32} {ns : Int32} (gh0 : M pg = some (.inr (3, [.ref dg, .ref gg, .ref tg0, .int np, .int ns]))) : MC l H0 D cls7 (tysOf cI cL cQ cB) NW ({ cls := "PerformRanges$Program", name := "isFullOfStatements", desc := "()Z" } : Jvm.MethodName) (Cond.code ({ cls := "PerformRanges$Program", name := "isFullOfStatements", desc := "()Z" } : Jvm.MethodName) prog_5_method_8_code 1 (Option.some Jvm.ClassFile.FieldType.boolean) :: GW) ({ frames := 0, cells := 0, slots := 0, locals := 0 }) [.ref pg] M (fun v M' => v = some (.int (sp_isFullOfStatements ns)) ∧ M' = M) := by
  refine MC.of (cc := prog_5_method_8_code) (nL := 1) (ret := (Option.some Jvm.ClassFile.FieldType.boolean)) (lv := [(0, .ref pg)]) (by decide) rfl (Nat.le_of_ble_eq_true rfl) rfl ?_
  intro p e s m below meth c X hr hlk hnm hK
  refine V.rd (pc' := 1) (fun hl => lv_aload_n X.1 X.2.1 d_Program_isFullOfStatements_0 rfl (lv_at hl 0 rfl)) ?_
  refine V.get (pc' := 4) X hK gh0 uw_Program rfl 4 (by decide) (mcs wd_2) rfl d_Program_isFullOfStatements_1 rfl ?_
  refine V.go (pc' := 6) (lv_bipush (v := 60) X.1 X.2.1 d_Program_isFullOfStatements_4 (by decide)) ?_
  refine V.br (pc' := 9) (tgt := 13) (P := ns < 60) (lv_icmp_lt X.1 X.2.1 d_Program_isFullOfStatements_6 (by decide)) (fun c_1 => ?_) (fun c_1 => ?_)
  · have i_2 := Int32.lt_iff_toInt_lt.mp c_1
    rw [show (60 : Int32).toInt = 60 from rfl] at i_2
    refine V.go (pc' := 14) (lv_iconst (v := 0) X.1 X.2.1 d_Program_isFullOfStatements_13 (by decide)) ?_
    exact V.zret X hr hlk rfl ⟨(by simp only [sp_isFullOfStatements, if_pos c_1]), rfl⟩ d_Program_isFullOfStatements_14
  · have i_3 := mt Int32.lt_iff_toInt_lt.mpr c_1
    rw [show (60 : Int32).toInt = 60 from rfl] at i_3
    refine V.go (pc' := 10) (lv_iconst (v := 1) X.1 X.2.1 d_Program_isFullOfStatements_9 (by decide)) ?_
    refine V.go (pc' := 14) (lv_goto X.1 X.2.1 d_Program_isFullOfStatements_10 (by decide)) ?_
    exact V.zret X hr hlk rfl ⟨(by simp only [sp_isFullOfStatements, if_neg c_1]), rfl⟩ d_Program_isFullOfStatements_14

theorem d_Program_addParagraph_0 : decode prog_5_method_3_code 0 = .ok (.iload_n 1, 1) := by decide +kernel
theorem d_Program_addParagraph_1 : decode prog_5_method_3_code 1 = .ok (.ifCond .lt 20, 3) := by decide +kernel
theorem d_Program_addParagraph_4 : decode prog_5_method_3_code 4 = .ok (.iload_n 1, 1) := by decide +kernel
theorem d_Program_addParagraph_5 : decode prog_5_method_3_code 5 = .ok (.bipush 8, 2) := by decide +kernel
theorem d_Program_addParagraph_7 : decode prog_5_method_3_code 7 = .ok (.irem, 1) := by decide +kernel
theorem d_Program_addParagraph_8 : decode prog_5_method_3_code 8 = .ok (.iconst 4, 1) := by decide +kernel
theorem d_Program_addParagraph_9 : decode prog_5_method_3_code 9 = .ok (.if_icmp .gt 12, 3) := by decide +kernel
theorem d_Program_addParagraph_12 : decode prog_5_method_3_code 12 = .ok (.aload_n 0, 1) := by decide +kernel
theorem d_Program_addParagraph_13 : decode prog_5_method_3_code 13 = .ok (.getfield 24, 3) := by decide +kernel
theorem d_Program_addParagraph_16 : decode prog_5_method_3_code 16 = .ok (.bipush 60, 2) := by decide +kernel
theorem d_Program_addParagraph_18 : decode prog_5_method_3_code 18 = .ok (.if_icmp .lt 5, 3) := by decide +kernel
theorem d_Program_addParagraph_21 : decode prog_5_method_3_code 21 = .ok (.iconst (-1), 1) := by decide +kernel
theorem d_Program_addParagraph_22 : decode prog_5_method_3_code 22 = .ok (.ireturn, 1) := by decide +kernel
theorem d_Program_addParagraph_23 : decode prog_5_method_3_code 23 = .ok (.aload_n 0, 1) := by decide +kernel
theorem d_Program_addParagraph_24 : decode prog_5_method_3_code 24 = .ok (.getfield 9, 3) := by decide +kernel
theorem d_Program_addParagraph_27 : decode prog_5_method_3_code 27 = .ok (.aload_n 0, 1) := by decide +kernel
theorem d_Program_addParagraph_28 : decode prog_5_method_3_code 28 = .ok (.getfield 24, 3) := by decide +kernel
theorem d_Program_addParagraph_31 : decode prog_5_method_3_code 31 = .ok (.iload_n 1, 1) := by decide +kernel
theorem d_Program_addParagraph_32 : decode prog_5_method_3_code 32 = .ok (.iastore, 1) := by decide +kernel
theorem d_Program_addParagraph_33 : decode prog_5_method_3_code 33 = .ok (.aload_n 0, 1) := by decide +kernel
theorem d_Program_addParagraph_34 : decode prog_5_method_3_code 34 = .ok (.dup, 1) := by decide +kernel
theorem d_Program_addParagraph_35 : decode prog_5_method_3_code 35 = .ok (.getfield 24, 3) := by decide +kernel
theorem d_Program_addParagraph_38 : decode prog_5_method_3_code 38 = .ok (.iconst 1, 1) := by decide +kernel
theorem d_Program_addParagraph_39 : decode prog_5_method_3_code 39 = .ok (.iadd, 1) := by decide +kernel
theorem d_Program_addParagraph_40 : decode prog_5_method_3_code 40 = .ok (.putfield 24, 3) := by decide +kernel
theorem d_Program_addParagraph_43 : decode prog_5_method_3_code 43 = .ok (.aload_n 0, 1) := by decide +kernel
theorem d_Program_addParagraph_44 : decode prog_5_method_3_code 44 = .ok (.getfield 24, 3) := by decide +kernel
theorem d_Program_addParagraph_47 : decode prog_5_method_3_code 47 = .ok (.ireturn, 1) := by decide +kernel

def sp_addParagraph (np : Int32) (x : Int32) : Int32 := if x < 0 then (-1) else if 4 < (x - x / 8 * 8) then (-1) else if np < 60 then np + 1 else (-1)
def sp_addParagraph_dg (np : Int32) (dd : Nat → Int32) (x : Int32) : Nat → Int32 := if x < 0 then dd else if 4 < (x - x / 8 * 8) then dd else if np < 60 then upd dd np.toNatClampNeg x else dd
def sp_addParagraph_pg_3 (np : Int32) (x : Int32) : Int32 := if x < 0 then np else if 4 < (x - x / 8 * 8) then np else if np < 60 then np + 1 else np
set_option maxHeartbeats 4000000 in
set_option maxRecDepth 100000 in
theorem c_addParagraph {l : Launch} {H0 : Heap} {D : va_G} {cI cL cQ cB : ClassId} {M : mp} {pg dg gg tg0 : Nat} {np : Int32} {ns : Int32} {dd : Nat → Int32} {x : Int32} (hnp : 0 ≤ np.toInt) (gh0 : M pg = some (.inr (3, [.ref dg, .ref gg, .ref tg0, .int np, .int ns]))) (gh1 : M dg = some (.inl (cI, 60, .inl dd))) : MC l H0 D cls7 (tysOf cI cL cQ cB) NW ({ cls := "PerformRanges$Program", name := "addParagraph", desc := "(I)I" } : Jvm.MethodName) (Cond.code ({ cls := "PerformRanges$Program", name := "addParagraph", desc := "(I)I" } : Jvm.MethodName) prog_5_method_3_code 2 (Option.some Jvm.ClassFile.FieldType.int) :: GW) ({ frames := 0, cells := 0, slots := 0, locals := 0 }) [.ref pg, .int x] M (fun v M' => v = some (.int (sp_addParagraph np x)) ∧ M' dg = some (.inl (cI, 60, .inl (sp_addParagraph_dg np dd x))) ∧ M' pg = some (.inr (3, [.ref dg, .ref gg, .ref tg0, .int (sp_addParagraph_pg_3 np x), .int ns])) ∧ (∀ q, q ≠ dg → q ≠ pg → M' q = M q)) := by
  refine MC.of (cc := prog_5_method_3_code) (nL := 2) (ret := (Option.some Jvm.ClassFile.FieldType.int)) (lv := [(0, .ref pg), (1, .int x)]) (by decide) rfl (Nat.le_of_ble_eq_true rfl) rfl ?_
  intro p e s m below meth c X hr hlk hnm hK
  refine V.rd (pc' := 1) (fun hl => lv_iload_n X.1 X.2.1 d_Program_addParagraph_0 rfl (lv_at hl 1 rfl)) ?_
  refine V.br (pc' := 4) (tgt := 21) (P := x < 0) (lv_if_lt X.1 X.2.1 d_Program_addParagraph_1 (by decide)) (fun c_1 => ?_) (fun c_1 => ?_)
  · have i_2 := Int32.lt_iff_toInt_lt.mp c_1
    rw [show (0 : Int32).toInt = 0 from rfl] at i_2
    refine V.go (pc' := 22) (lv_iconst (v := (-1)) X.1 X.2.1 d_Program_addParagraph_21 (by decide)) ?_
    exact V.iret X hr hlk ⟨(by simp only [sp_addParagraph, if_pos c_1]), (by simp only [sp_addParagraph_dg, if_pos c_1]; exact gh1), (by simp only [sp_addParagraph_pg_3, if_pos c_1]; exact gh0), (fun q n0_ n1_ => rfl)⟩ d_Program_addParagraph_22
  · have i_3 := mt Int32.lt_iff_toInt_lt.mpr c_1
    rw [show (0 : Int32).toInt = 0 from rfl] at i_3
    refine V.rd (pc' := 5) (fun hl => lv_iload_n X.1 X.2.1 d_Program_addParagraph_4 rfl (lv_at hl 1 rfl)) ?_
    refine V.go (pc' := 7) (lv_bipush (v := 8) X.1 X.2.1 d_Program_addParagraph_5 (by decide)) ?_
    refine V.go (pc' := 8) (lv_irem X.1 X.2.1 d_Program_addParagraph_7 (by decide)) ?_
    refine V.go (pc' := 9) (lv_iconst (v := 4) X.1 X.2.1 d_Program_addParagraph_8 (by decide)) ?_
    refine V.br (pc' := 12) (tgt := 21) (P := 4 < (x - x / 8 * 8)) (lv_icmp_gt X.1 X.2.1 d_Program_addParagraph_9 (by decide)) (fun c_4 => ?_) (fun c_4 => ?_)
    · have i_5 := Int32.lt_iff_toInt_lt.mp c_4
      rw [show (4 : Int32).toInt = 4 from rfl] at i_5
      refine V.go (pc' := 22) (lv_iconst (v := (-1)) X.1 X.2.1 d_Program_addParagraph_21 (by decide)) ?_
      exact V.iret X hr hlk ⟨(by simp only [sp_addParagraph, if_neg c_1, if_pos c_4]), (by simp only [sp_addParagraph_dg, if_neg c_1, if_pos c_4]; exact gh1), (by simp only [sp_addParagraph_pg_3, if_neg c_1, if_pos c_4]; exact gh0), (fun q n0_ n1_ => rfl)⟩ d_Program_addParagraph_22
    · have i_6 := mt Int32.lt_iff_toInt_lt.mpr c_4
      rw [show (4 : Int32).toInt = 4 from rfl] at i_6
      refine V.rd (pc' := 13) (fun hl => lv_aload_n X.1 X.2.1 d_Program_addParagraph_12 rfl (lv_at hl 0 rfl)) ?_
      refine V.get (pc' := 16) X hK gh0 uw_Program rfl 3 (by decide) (mcs wd_1) rfl d_Program_addParagraph_13 rfl ?_
      refine V.go (pc' := 18) (lv_bipush (v := 60) X.1 X.2.1 d_Program_addParagraph_16 (by decide)) ?_
      refine V.br (pc' := 21) (tgt := 23) (P := np < 60) (lv_icmp_lt X.1 X.2.1 d_Program_addParagraph_18 (by decide)) (fun c_7 => ?_) (fun c_7 => ?_)
      · have i_8 := Int32.lt_iff_toInt_lt.mp c_7
        rw [show (60 : Int32).toInt = 60 from rfl] at i_8
        refine V.rd (pc' := 24) (fun hl => lv_aload_n X.1 X.2.1 d_Program_addParagraph_23 rfl (lv_at hl 0 rfl)) ?_
        refine V.get (pc' := 27) X hK gh0 uw_Program rfl 0 (by decide) (mcs wd_3) rfl d_Program_addParagraph_24 rfl ?_
        refine V.rd (pc' := 28) (fun hl => lv_aload_n X.1 X.2.1 d_Program_addParagraph_27 rfl (lv_at hl 0 rfl)) ?_
        refine V.get (pc' := 31) X hK gh0 uw_Program rfl 3 (by decide) (mcs wd_1) rfl d_Program_addParagraph_28 rfl ?_
        refine V.rd (pc' := 32) (fun hl => lv_iload_n X.1 X.2.1 d_Program_addParagraph_31 rfl (lv_at hl 1 rfl)) ?_
        refine V.iast (pc' := 33) X hK 0 gh1 rfl (vin (by omega) (by omega)) d_Program_addParagraph_32 rfl (fun M_9 h_10 fr_11 => ?_)
        have h_12 : M_9 pg = some (.inr (3, [.ref dg, .ref gg, .ref tg0, .int np, .int ns])) := (fr_11 _ (ne_k gh0 gh1 (i := 3) (j := 1060) rfl rfl (by decide))).trans gh0
        refine V.rd (pc' := 34) (fun hl => lv_aload_n X.1 X.2.1 d_Program_addParagraph_33 rfl (lv_at hl 0 rfl)) ?_
        refine V.go (pc' := 35) (lv_dup X.1 X.2.1 d_Program_addParagraph_34 rfl) ?_
        refine V.get (pc' := 38) X hK h_12 uw_Program rfl 3 (by decide) (mcs wd_1) rfl d_Program_addParagraph_35 rfl ?_
        refine V.go (pc' := 39) (lv_iconst (v := 1) X.1 X.2.1 d_Program_addParagraph_38 (by decide)) ?_
        refine V.go (pc' := 40) (lv_iadd X.1 X.2.1 d_Program_addParagraph_39) ?_
        have s_13 : (np + 1).toInt = np.toInt + 1 := i32_add1 (by omega)
        refine V.put (pc' := 43) X hK h_12 uw_Program t_Program tok_Program nm_Program rfl 3 (by decide) (mcs wd_1) rfl rfl rfl (Nat.le_of_ble_eq_true rfl) (fs' := [.ref dg, .ref gg, .ref tg0, .int (np + 1), .int ns]) rfl d_Program_addParagraph_40 rfl (fun M_14 h_15 fr_16 => ?_)
        have h_17 : M_14 dg = some (.inl (cI, 60, .inl (upd dd np.toNatClampNeg x))) := (fr_16 _ (ne_k h_10 h_12 (i := 1060) (j := 3) rfl rfl (by decide))).trans h_10
        refine V.rd (pc' := 44) (fun hl => lv_aload_n X.1 X.2.1 d_Program_addParagraph_43 rfl (lv_at hl 0 rfl)) ?_
        refine V.get (pc' := 47) X hK h_15 uw_Program rfl 3 (by decide) (mcs wd_1) rfl d_Program_addParagraph_44 rfl ?_
        exact V.iret X hr hlk ⟨(by simp only [sp_addParagraph, if_neg c_1, if_neg c_4, if_pos c_7]), (by simp only [sp_addParagraph_dg, if_neg c_1, if_neg c_4, if_pos c_7]; exact h_17), (by simp only [sp_addParagraph_pg_3, if_neg c_1, if_neg c_4, if_pos c_7]; exact h_15), (fun q n0_ n1_ => (fr_16 q n1_).trans ((fr_11 q n0_)))⟩ d_Program_addParagraph_47
      · have i_18 := mt Int32.lt_iff_toInt_lt.mpr c_7
        rw [show (60 : Int32).toInt = 60 from rfl] at i_18
        refine V.go (pc' := 22) (lv_iconst (v := (-1)) X.1 X.2.1 d_Program_addParagraph_21 (by decide)) ?_
        exact V.iret X hr hlk ⟨(by simp only [sp_addParagraph, if_neg c_1, if_neg c_4, if_neg c_7]), (by simp only [sp_addParagraph_dg, if_neg c_1, if_neg c_4, if_neg c_7]; exact gh1), (by simp only [sp_addParagraph_pg_3, if_neg c_1, if_neg c_4, if_neg c_7]; exact gh0), (fun q n0_ n1_ => rfl)⟩ d_Program_addParagraph_22

theorem d_Program_doingOf_0 : decode prog_5_method_4_code 0 = .ok (.aload_n 0, 1) := by decide +kernel
theorem d_Program_doingOf_1 : decode prog_5_method_4_code 1 = .ok (.iload_n 1, 1) := by decide +kernel
theorem d_Program_doingOf_2 : decode prog_5_method_4_code 2 = .ok (.invokevirtual 28, 3) := by decide +kernel
theorem d_Program_doingOf_5 : decode prog_5_method_4_code 5 = .ok (.ifCond .eq 14, 3) := by decide +kernel
theorem d_Program_doingOf_8 : decode prog_5_method_4_code 8 = .ok (.aload_n 0, 1) := by decide +kernel
theorem d_Program_doingOf_9 : decode prog_5_method_4_code 9 = .ok (.getfield 9, 3) := by decide +kernel
theorem d_Program_doingOf_12 : decode prog_5_method_4_code 12 = .ok (.iload_n 1, 1) := by decide +kernel
theorem d_Program_doingOf_13 : decode prog_5_method_4_code 13 = .ok (.iconst 1, 1) := by decide +kernel
theorem d_Program_doingOf_14 : decode prog_5_method_4_code 14 = .ok (.isub, 1) := by decide +kernel
theorem d_Program_doingOf_15 : decode prog_5_method_4_code 15 = .ok (.iaload, 1) := by decide +kernel
theorem d_Program_doingOf_16 : decode prog_5_method_4_code 16 = .ok (.goto 4, 3) := by decide +kernel
theorem d_Program_doingOf_19 : decode prog_5_method_4_code 19 = .ok (.iconst 0, 1) := by decide +kernel
theorem d_Program_doingOf_20 : decode prog_5_method_4_code 20 = .ok (.ireturn, 1) := by decide +kernel

def sp_doingOf (np : Int32) (dd : Nat → Int32) (x : Int32) : Int32 := if (sp_isParagraph np x) = 0 then 0 else dd (x - 1).toNatClampNeg
set_option maxHeartbeats 4000000 in
set_option maxRecDepth 100000 in
theorem c_doingOf {l : Launch} {H0 : Heap} {D : va_G} {cI cL cQ cB : ClassId} {M : mp} {pg dg gg tg0 : Nat} {np : Int32} {ns : Int32} {dd : Nat → Int32} {x : Int32} (gh0 : M pg = some (.inr (3, [.ref dg, .ref gg, .ref tg0, .int np, .int ns]))) (gh1 : M dg = some (.inl (cI, 60, .inl dd))) : MC l H0 D cls7 (tysOf cI cL cQ cB) NW ({ cls := "PerformRanges$Program", name := "doingOf", desc := "(I)I" } : Jvm.MethodName) (Cond.code ({ cls := "PerformRanges$Program", name := "doingOf", desc := "(I)I" } : Jvm.MethodName) prog_5_method_4_code 2 (Option.some Jvm.ClassFile.FieldType.int) :: GW) ({ frames := 1, cells := 0, slots := 0, locals := 21 }) [.ref pg, .int x] M (fun v M' => v = some (.int (sp_doingOf np dd x)) ∧ M' = M) := by
  refine MC.of (cc := prog_5_method_4_code) (nL := 2) (ret := (Option.some Jvm.ClassFile.FieldType.int)) (lv := [(0, .ref pg), (1, .int x)]) (by decide) rfl (Nat.le_of_ble_eq_true rfl) rfl ?_
  intro p e s m below meth c X hr hlk hnm hK
  refine V.rd (pc' := 1) (fun hl => lv_aload_n X.1 X.2.1 d_Program_doingOf_0 rfl (lv_at hl 0 rfl)) ?_
  refine V.rd (pc' := 2) (fun hl => lv_iload_n X.1 X.2.1 d_Program_doingOf_1 rfl (lv_at hl 1 rfl)) ?_
  refine V.callV0 (pc' := 5) X hK (c_isParagraph  (pg := pg) (dg := dg) (gg := gg) (tg0 := tg0) (np := np) (ns := ns) (x := x)   gh0  ) gh0 rfl (cwG (n := 1) X (mcs wd_4) (mcs wd_5) (mcs wd_6) (mcs wd_7) wd_8 (by decide +kernel) (by decide) (by decide)) rfl rfl (Nat.le_of_ble_eq_true rfl) d_Program_doingOf_2 ⟨by decide, by decide⟩ rfl (st1 := [.int (sp_isParagraph np x)]) rfl ?_
  refine V.br (pc' := 8) (tgt := 19) (P := (sp_isParagraph np x) = 0) (lv_if_eq X.1 X.2.1 d_Program_doingOf_5 (by decide)) (fun c_2 => ?_) (fun c_2 => ?_)
  · have i_3 := congrArg Int32.toInt c_2
    rw [show (0 : Int32).toInt = 0 from rfl] at i_3
    refine V.go (pc' := 20) (lv_iconst (v := 0) X.1 X.2.1 d_Program_doingOf_19 (by decide)) ?_
    exact V.iret X hr hlk ⟨(by simp only [sp_doingOf, if_pos c_2]), rfl⟩ d_Program_doingOf_20
  · have i_4 := isPar_ne c_2
    refine V.rd (pc' := 9) (fun hl => lv_aload_n X.1 X.2.1 d_Program_doingOf_8 rfl (lv_at hl 0 rfl)) ?_
    refine V.get (pc' := 12) X hK gh0 uw_Program rfl 0 (by decide) (mcs wd_3) rfl d_Program_doingOf_9 rfl ?_
    refine V.rd (pc' := 13) (fun hl => lv_iload_n X.1 X.2.1 d_Program_doingOf_12 rfl (lv_at hl 1 rfl)) ?_
    refine V.go (pc' := 14) (lv_iconst (v := 1) X.1 X.2.1 d_Program_doingOf_13 (by decide)) ?_
    refine V.go (pc' := 15) (lv_isub X.1 X.2.1 d_Program_doingOf_14) ?_
    have s_5 : (x - 1).toInt = x.toInt - 1 := i32_sub1 (by omega)
    refine V.iald (pc' := 16) X hK 0 gh1 rfl (vin (by omega) (by omega)) d_Program_doingOf_15 rfl ?_
    refine V.go (pc' := 20) (lv_goto X.1 X.2.1 d_Program_doingOf_16 (by decide)) ?_
    exact V.iret X hr hlk ⟨(by simp only [sp_doingOf, if_neg c_2]), rfl⟩ d_Program_doingOf_20

theorem d_Program_performedBy_0 : decode prog_5_method_5_code 0 = .ok (.aload_n 0, 1) := by decide +kernel
theorem d_Program_performedBy_1 : decode prog_5_method_5_code 1 = .ok (.iload_n 1, 1) := by decide +kernel
theorem d_Program_performedBy_2 : decode prog_5_method_5_code 2 = .ok (.invokevirtual 32, 3) := by decide +kernel
theorem d_Program_performedBy_5 : decode prog_5_method_5_code 5 = .ok (.istore_n 2, 1) := by decide +kernel
theorem d_Program_performedBy_6 : decode prog_5_method_5_code 6 = .ok (.iload_n 2, 1) := by decide +kernel
theorem d_Program_performedBy_7 : decode prog_5_method_5_code 7 = .ok (.bipush 8, 2) := by decide +kernel
theorem d_Program_performedBy_9 : decode prog_5_method_5_code 9 = .ok (.irem, 1) := by decide +kernel
theorem d_Program_performedBy_10 : decode prog_5_method_5_code 10 = .ok (.iconst 2, 1) := by decide +kernel
theorem d_Program_performedBy_11 : decode prog_5_method_5_code 11 = .ok (.if_icmp .ne 10, 3) := by decide +kernel
theorem d_Program_performedBy_14 : decode prog_5_method_5_code 14 = .ok (.iload_n 2, 1) := by decide +kernel
theorem d_Program_performedBy_15 : decode prog_5_method_5_code 15 = .ok (.bipush 8, 2) := by decide +kernel
theorem d_Program_performedBy_17 : decode prog_5_method_5_code 17 = .ok (.idiv, 1) := by decide +kernel
theorem d_Program_performedBy_18 : decode prog_5_method_5_code 18 = .ok (.goto 4, 3) := by decide +kernel
theorem d_Program_performedBy_21 : decode prog_5_method_5_code 21 = .ok (.iconst (-1), 1) := by decide +kernel
theorem d_Program_performedBy_22 : decode prog_5_method_5_code 22 = .ok (.ireturn, 1) := by decide +kernel

def sp_performedBy (np : Int32) (dd : Nat → Int32) (x : Int32) : Int32 := if ((sp_doingOf np dd x) - (sp_doingOf np dd x) / 8 * 8) = 2 then (sp_doingOf np dd x) / 8 else (-1)
set_option maxHeartbeats 4000000 in
set_option maxRecDepth 100000 in
theorem c_performedBy {l : Launch} {H0 : Heap} {D : va_G} {cI cL cQ cB : ClassId} {M : mp} {pg dg gg tg0 : Nat} {np : Int32} {ns : Int32} {dd : Nat → Int32} {x : Int32} (gh0 : M pg = some (.inr (3, [.ref dg, .ref gg, .ref tg0, .int np, .int ns]))) (gh1 : M dg = some (.inl (cI, 60, .inl dd))) : MC l H0 D cls7 (tysOf cI cL cQ cB) NW ({ cls := "PerformRanges$Program", name := "performedBy", desc := "(I)I" } : Jvm.MethodName) (Cond.code ({ cls := "PerformRanges$Program", name := "performedBy", desc := "(I)I" } : Jvm.MethodName) prog_5_method_5_code 3 (Option.some Jvm.ClassFile.FieldType.int) :: GW) ({ frames := 2, cells := 0, slots := 0, locals := 42 }) [.ref pg, .int x] M (fun v M' => v = some (.int (sp_performedBy np dd x)) ∧ M' = M) := by
  refine MC.of (cc := prog_5_method_5_code) (nL := 3) (ret := (Option.some Jvm.ClassFile.FieldType.int)) (lv := [(0, .ref pg), (1, .int x)]) (by decide) rfl (Nat.le_of_ble_eq_true rfl) rfl ?_
  intro p e s m below meth c X hr hlk hnm hK
  refine V.rd (pc' := 1) (fun hl => lv_aload_n X.1 X.2.1 d_Program_performedBy_0 rfl (lv_at hl 0 rfl)) ?_
  refine V.rd (pc' := 2) (fun hl => lv_iload_n X.1 X.2.1 d_Program_performedBy_1 rfl (lv_at hl 1 rfl)) ?_
  refine V.callV0 (pc' := 5) X hK (c_doingOf  (pg := pg) (dg := dg) (gg := gg) (tg0 := tg0) (np := np) (ns := ns) (dd := dd) (x := x)   gh0 gh1  ) gh0 rfl (cwG (n := 1) X (mcs wd_9) (mcs wd_10) (mcs wd_11) (mcs wd_7) wd_12 (by decide +kernel) (by decide) (by decide)) rfl rfl (Nat.le_of_ble_eq_true rfl) d_Program_performedBy_2 ⟨by decide, by decide⟩ rfl (st1 := [.int (sp_doingOf np dd x)]) rfl ?_
  refine V.wr (pc' := 6) (lv' := [(2, .int (sp_doingOf np dd x)), (0, .ref pg), (1, .int x)]) (fun hl => lv_istore_n X.1 X.2.1 d_Program_performedBy_5 rfl hl (by decide) rfl) ?_
  refine V.rd (pc' := 7) (fun hl => lv_iload_n X.1 X.2.1 d_Program_performedBy_6 rfl (lv_at hl 0 rfl)) ?_
  refine V.go (pc' := 9) (lv_bipush (v := 8) X.1 X.2.1 d_Program_performedBy_7 (by decide)) ?_
  refine V.go (pc' := 10) (lv_irem X.1 X.2.1 d_Program_performedBy_9 (by decide)) ?_
  refine V.go (pc' := 11) (lv_iconst (v := 2) X.1 X.2.1 d_Program_performedBy_10 (by decide)) ?_
  refine V.bn (pc' := 14) (tgt := 21) (P := ((sp_doingOf np dd x) - (sp_doingOf np dd x) / 8 * 8) = 2) (lv_icmp_ne X.1 X.2.1 d_Program_performedBy_11 (by decide)) (fun c_2 => ?_) (fun c_2 => ?_)
  · have i_3 := congrArg Int32.toInt c_2
    rw [show (2 : Int32).toInt = 2 from rfl] at i_3
    refine V.rd (pc' := 15) (fun hl => lv_iload_n X.1 X.2.1 d_Program_performedBy_14 rfl (lv_at hl 0 rfl)) ?_
    refine V.go (pc' := 17) (lv_bipush (v := 8) X.1 X.2.1 d_Program_performedBy_15 (by decide)) ?_
    refine V.go (pc' := 18) (lv_idiv X.1 X.2.1 d_Program_performedBy_17 (by decide)) ?_
    refine V.go (pc' := 22) (lv_goto X.1 X.2.1 d_Program_performedBy_18 (by decide)) ?_
    exact V.iret X hr hlk ⟨(by simp only [sp_performedBy, if_pos c_2]), rfl⟩ d_Program_performedBy_22
  · have i_4 := mt Int32.toInt_inj.mp c_2
    rw [show (2 : Int32).toInt = 2 from rfl] at i_4
    refine V.go (pc' := 22) (lv_iconst (v := (-1)) X.1 X.2.1 d_Program_performedBy_21 (by decide)) ?_
    exact V.iret X hr hlk ⟨(by simp only [sp_performedBy, if_neg c_2]), rfl⟩ d_Program_performedBy_22

theorem d_Program_tellGoing_0 : decode prog_5_method_6_code 0 = .ok (.aload_n 0, 1) := by decide +kernel
theorem d_Program_tellGoing_1 : decode prog_5_method_6_code 1 = .ok (.iload_n 1, 1) := by decide +kernel
theorem d_Program_tellGoing_2 : decode prog_5_method_6_code 2 = .ok (.invokevirtual 28, 3) := by decide +kernel
theorem d_Program_tellGoing_5 : decode prog_5_method_6_code 5 = .ok (.ifCond .ne 5, 3) := by decide +kernel
theorem d_Program_tellGoing_8 : decode prog_5_method_6_code 8 = .ok (.iconst (-1), 1) := by decide +kernel
theorem d_Program_tellGoing_9 : decode prog_5_method_6_code 9 = .ok (.ireturn, 1) := by decide +kernel
theorem d_Program_tellGoing_10 : decode prog_5_method_6_code 10 = .ok (.aload_n 0, 1) := by decide +kernel
theorem d_Program_tellGoing_11 : decode prog_5_method_6_code 11 = .ok (.getfield 15, 3) := by decide +kernel
theorem d_Program_tellGoing_14 : decode prog_5_method_6_code 14 = .ok (.iload_n 1, 1) := by decide +kernel
theorem d_Program_tellGoing_15 : decode prog_5_method_6_code 15 = .ok (.iconst 1, 1) := by decide +kernel
theorem d_Program_tellGoing_16 : decode prog_5_method_6_code 16 = .ok (.isub, 1) := by decide +kernel
theorem d_Program_tellGoing_17 : decode prog_5_method_6_code 17 = .ok (.iaload, 1) := by decide +kernel
theorem d_Program_tellGoing_18 : decode prog_5_method_6_code 18 = .ok (.istore_n 3, 1) := by decide +kernel
theorem d_Program_tellGoing_19 : decode prog_5_method_6_code 19 = .ok (.aload_n 0, 1) := by decide +kernel
theorem d_Program_tellGoing_20 : decode prog_5_method_6_code 20 = .ok (.getfield 15, 3) := by decide +kernel
theorem d_Program_tellGoing_23 : decode prog_5_method_6_code 23 = .ok (.iload_n 1, 1) := by decide +kernel
theorem d_Program_tellGoing_24 : decode prog_5_method_6_code 24 = .ok (.iconst 1, 1) := by decide +kernel
theorem d_Program_tellGoing_25 : decode prog_5_method_6_code 25 = .ok (.isub, 1) := by decide +kernel
theorem d_Program_tellGoing_26 : decode prog_5_method_6_code 26 = .ok (.iload_n 2, 1) := by decide +kernel
theorem d_Program_tellGoing_27 : decode prog_5_method_6_code 27 = .ok (.iastore, 1) := by decide +kernel
theorem d_Program_tellGoing_28 : decode prog_5_method_6_code 28 = .ok (.iload_n 3, 1) := by decide +kernel
theorem d_Program_tellGoing_29 : decode prog_5_method_6_code 29 = .ok (.ireturn, 1) := by decide +kernel

def sp_tellGoing (np : Int32) (gd : Nat → Int32) (x : Int32) : Int32 := if (sp_isParagraph np x) = 0 then (-1) else gd (x - 1).toNatClampNeg
def sp_tellGoing_gg (np : Int32) (gd : Nat → Int32) (x : Int32) (y : Int32) : Nat → Int32 := if (sp_isParagraph np x) = 0 then gd else upd gd (x - 1).toNatClampNeg y
set_option maxHeartbeats 4000000 in
set_option maxRecDepth 100000 in
theorem c_tellGoing {l : Launch} {H0 : Heap} {D : va_G} {cI cL cQ cB : ClassId} {M : mp} {pg dg gg tg0 : Nat} {np : Int32} {ns : Int32} {gd : Nat → Int32} {x : Int32} {y : Int32} (gh0 : M pg = some (.inr (3, [.ref dg, .ref gg, .ref tg0, .int np, .int ns]))) (gh1 : M gg = some (.inl (cI, 60, .inl gd))) : MC l H0 D cls7 (tysOf cI cL cQ cB) NW ({ cls := "PerformRanges$Program", name := "tellGoing", desc := "(II)I" } : Jvm.MethodName) (Cond.code ({ cls := "PerformRanges$Program", name := "tellGoing", desc := "(II)I" } : Jvm.MethodName) prog_5_method_6_code 4 (Option.some Jvm.ClassFile.FieldType.int) :: GW) ({ frames := 1, cells := 0, slots := 0, locals := 21 }) [.ref pg, .int x, .int y] M (fun v M' => v = some (.int (sp_tellGoing np gd x)) ∧ M' gg = some (.inl (cI, 60, .inl (sp_tellGoing_gg np gd x y))) ∧ (∀ q, q ≠ gg → M' q = M q)) := by
  refine MC.of (cc := prog_5_method_6_code) (nL := 4) (ret := (Option.some Jvm.ClassFile.FieldType.int)) (lv := [(0, .ref pg), (1, .int x), (2, .int y)]) (by decide) rfl (Nat.le_of_ble_eq_true rfl) rfl ?_
  intro p e s m below meth c X hr hlk hnm hK
  refine V.rd (pc' := 1) (fun hl => lv_aload_n X.1 X.2.1 d_Program_tellGoing_0 rfl (lv_at hl 0 rfl)) ?_
  refine V.rd (pc' := 2) (fun hl => lv_iload_n X.1 X.2.1 d_Program_tellGoing_1 rfl (lv_at hl 1 rfl)) ?_
  refine V.callV0 (pc' := 5) X hK (c_isParagraph  (pg := pg) (dg := dg) (gg := gg) (tg0 := tg0) (np := np) (ns := ns) (x := x)   gh0  ) gh0 rfl (cwG (n := 1) X (mcs wd_4) (mcs wd_5) (mcs wd_6) (mcs wd_7) wd_8 (by decide +kernel) (by decide) (by decide)) rfl rfl (Nat.le_of_ble_eq_true rfl) d_Program_tellGoing_2 ⟨by decide, by decide⟩ rfl (st1 := [.int (sp_isParagraph np x)]) rfl ?_
  refine V.bn (pc' := 8) (tgt := 10) (P := (sp_isParagraph np x) = 0) (lv_if_ne X.1 X.2.1 d_Program_tellGoing_5 (by decide)) (fun c_2 => ?_) (fun c_2 => ?_)
  · have i_3 := congrArg Int32.toInt c_2
    rw [show (0 : Int32).toInt = 0 from rfl] at i_3
    refine V.go (pc' := 9) (lv_iconst (v := (-1)) X.1 X.2.1 d_Program_tellGoing_8 (by decide)) ?_
    exact V.iret X hr hlk ⟨(by simp only [sp_tellGoing, if_pos c_2]), (by simp only [sp_tellGoing_gg, if_pos c_2]; exact gh1), (fun q n0_ => rfl)⟩ d_Program_tellGoing_9
  · have i_4 := isPar_ne c_2
    refine V.rd (pc' := 11) (fun hl => lv_aload_n X.1 X.2.1 d_Program_tellGoing_10 rfl (lv_at hl 0 rfl)) ?_
    refine V.get (pc' := 14) X hK gh0 uw_Program rfl 1 (by decide) (mcs wd_13) rfl d_Program_tellGoing_11 rfl ?_
    refine V.rd (pc' := 15) (fun hl => lv_iload_n X.1 X.2.1 d_Program_tellGoing_14 rfl (lv_at hl 1 rfl)) ?_
    refine V.go (pc' := 16) (lv_iconst (v := 1) X.1 X.2.1 d_Program_tellGoing_15 (by decide)) ?_
    refine V.go (pc' := 17) (lv_isub X.1 X.2.1 d_Program_tellGoing_16) ?_
    have s_5 : (x - 1).toInt = x.toInt - 1 := i32_sub1 (by omega)
    refine V.iald (pc' := 18) X hK 0 gh1 rfl (vin (by omega) (by omega)) d_Program_tellGoing_17 rfl ?_
    refine V.wr (pc' := 19) (lv' := [(3, .int (gd (x - 1).toNatClampNeg)), (0, .ref pg), (1, .int x), (2, .int y)]) (fun hl => lv_istore_n X.1 X.2.1 d_Program_tellGoing_18 rfl hl (by decide) rfl) ?_
    refine V.rd (pc' := 20) (fun hl => lv_aload_n X.1 X.2.1 d_Program_tellGoing_19 rfl (lv_at hl 1 rfl)) ?_
    refine V.get (pc' := 23) X hK gh0 uw_Program rfl 1 (by decide) (mcs wd_13) rfl d_Program_tellGoing_20 rfl ?_
    refine V.rd (pc' := 24) (fun hl => lv_iload_n X.1 X.2.1 d_Program_tellGoing_23 rfl (lv_at hl 2 rfl)) ?_
    refine V.go (pc' := 25) (lv_iconst (v := 1) X.1 X.2.1 d_Program_tellGoing_24 (by decide)) ?_
    refine V.go (pc' := 26) (lv_isub X.1 X.2.1 d_Program_tellGoing_25) ?_
    have s_6 : (x - 1).toInt = x.toInt - 1 := i32_sub1 (by omega)
    refine V.rd (pc' := 27) (fun hl => lv_iload_n X.1 X.2.1 d_Program_tellGoing_26 rfl (lv_at hl 3 rfl)) ?_
    refine V.iast (pc' := 28) X hK 0 gh1 rfl (vin (by omega) (by omega)) d_Program_tellGoing_27 rfl (fun M_7 h_8 fr_9 => ?_)
    have h_10 : M_7 pg = some (.inr (3, [.ref dg, .ref gg, .ref tg0, .int np, .int ns])) := (fr_9 _ (ne_k gh0 gh1 (i := 3) (j := 1060) rfl rfl (by decide))).trans gh0
    refine V.rd (pc' := 29) (fun hl => lv_iload_n X.1 X.2.1 d_Program_tellGoing_28 rfl (lv_at hl 0 rfl)) ?_
    exact V.iret X hr hlk ⟨(by simp only [sp_tellGoing, if_neg c_2]), (by simp only [sp_tellGoing_gg, if_neg c_2]; exact h_8), (fun q n0_ => (fr_9 q n0_))⟩ d_Program_tellGoing_29

theorem d_Program_goingOf_0 : decode prog_5_method_7_code 0 = .ok (.aload_n 0, 1) := by decide +kernel
theorem d_Program_goingOf_1 : decode prog_5_method_7_code 1 = .ok (.iload_n 1, 1) := by decide +kernel
theorem d_Program_goingOf_2 : decode prog_5_method_7_code 2 = .ok (.invokevirtual 28, 3) := by decide +kernel
theorem d_Program_goingOf_5 : decode prog_5_method_7_code 5 = .ok (.ifCond .eq 14, 3) := by decide +kernel
theorem d_Program_goingOf_8 : decode prog_5_method_7_code 8 = .ok (.aload_n 0, 1) := by decide +kernel
theorem d_Program_goingOf_9 : decode prog_5_method_7_code 9 = .ok (.getfield 15, 3) := by decide +kernel
theorem d_Program_goingOf_12 : decode prog_5_method_7_code 12 = .ok (.iload_n 1, 1) := by decide +kernel
theorem d_Program_goingOf_13 : decode prog_5_method_7_code 13 = .ok (.iconst 1, 1) := by decide +kernel
theorem d_Program_goingOf_14 : decode prog_5_method_7_code 14 = .ok (.isub, 1) := by decide +kernel
theorem d_Program_goingOf_15 : decode prog_5_method_7_code 15 = .ok (.iaload, 1) := by decide +kernel
theorem d_Program_goingOf_16 : decode prog_5_method_7_code 16 = .ok (.goto 4, 3) := by decide +kernel
theorem d_Program_goingOf_19 : decode prog_5_method_7_code 19 = .ok (.iconst 0, 1) := by decide +kernel
theorem d_Program_goingOf_20 : decode prog_5_method_7_code 20 = .ok (.ireturn, 1) := by decide +kernel

def sp_goingOf (np : Int32) (gd : Nat → Int32) (x : Int32) : Int32 := if (sp_isParagraph np x) = 0 then 0 else gd (x - 1).toNatClampNeg
set_option maxHeartbeats 4000000 in
set_option maxRecDepth 100000 in
theorem c_goingOf {l : Launch} {H0 : Heap} {D : va_G} {cI cL cQ cB : ClassId} {M : mp} {pg dg gg tg0 : Nat} {np : Int32} {ns : Int32} {gd : Nat → Int32} {x : Int32} (gh0 : M pg = some (.inr (3, [.ref dg, .ref gg, .ref tg0, .int np, .int ns]))) (gh1 : M gg = some (.inl (cI, 60, .inl gd))) : MC l H0 D cls7 (tysOf cI cL cQ cB) NW ({ cls := "PerformRanges$Program", name := "goingOf", desc := "(I)I" } : Jvm.MethodName) (Cond.code ({ cls := "PerformRanges$Program", name := "goingOf", desc := "(I)I" } : Jvm.MethodName) prog_5_method_7_code 2 (Option.some Jvm.ClassFile.FieldType.int) :: GW) ({ frames := 1, cells := 0, slots := 0, locals := 21 }) [.ref pg, .int x] M (fun v M' => v = some (.int (sp_goingOf np gd x)) ∧ M' = M) := by
  refine MC.of (cc := prog_5_method_7_code) (nL := 2) (ret := (Option.some Jvm.ClassFile.FieldType.int)) (lv := [(0, .ref pg), (1, .int x)]) (by decide) rfl (Nat.le_of_ble_eq_true rfl) rfl ?_
  intro p e s m below meth c X hr hlk hnm hK
  refine V.rd (pc' := 1) (fun hl => lv_aload_n X.1 X.2.1 d_Program_goingOf_0 rfl (lv_at hl 0 rfl)) ?_
  refine V.rd (pc' := 2) (fun hl => lv_iload_n X.1 X.2.1 d_Program_goingOf_1 rfl (lv_at hl 1 rfl)) ?_
  refine V.callV0 (pc' := 5) X hK (c_isParagraph  (pg := pg) (dg := dg) (gg := gg) (tg0 := tg0) (np := np) (ns := ns) (x := x)   gh0  ) gh0 rfl (cwG (n := 1) X (mcs wd_4) (mcs wd_5) (mcs wd_6) (mcs wd_7) wd_8 (by decide +kernel) (by decide) (by decide)) rfl rfl (Nat.le_of_ble_eq_true rfl) d_Program_goingOf_2 ⟨by decide, by decide⟩ rfl (st1 := [.int (sp_isParagraph np x)]) rfl ?_
  refine V.br (pc' := 8) (tgt := 19) (P := (sp_isParagraph np x) = 0) (lv_if_eq X.1 X.2.1 d_Program_goingOf_5 (by decide)) (fun c_2 => ?_) (fun c_2 => ?_)
  · have i_3 := congrArg Int32.toInt c_2
    rw [show (0 : Int32).toInt = 0 from rfl] at i_3
    refine V.go (pc' := 20) (lv_iconst (v := 0) X.1 X.2.1 d_Program_goingOf_19 (by decide)) ?_
    exact V.iret X hr hlk ⟨(by simp only [sp_goingOf, if_pos c_2]), rfl⟩ d_Program_goingOf_20
  · have i_4 := isPar_ne c_2
    refine V.rd (pc' := 9) (fun hl => lv_aload_n X.1 X.2.1 d_Program_goingOf_8 rfl (lv_at hl 0 rfl)) ?_
    refine V.get (pc' := 12) X hK gh0 uw_Program rfl 1 (by decide) (mcs wd_13) rfl d_Program_goingOf_9 rfl ?_
    refine V.rd (pc' := 13) (fun hl => lv_iload_n X.1 X.2.1 d_Program_goingOf_12 rfl (lv_at hl 1 rfl)) ?_
    refine V.go (pc' := 14) (lv_iconst (v := 1) X.1 X.2.1 d_Program_goingOf_13 (by decide)) ?_
    refine V.go (pc' := 15) (lv_isub X.1 X.2.1 d_Program_goingOf_14) ?_
    have s_5 : (x - 1).toInt = x.toInt - 1 := i32_sub1 (by omega)
    refine V.iald (pc' := 16) X hK 0 gh1 rfl (vin (by omega) (by omega)) d_Program_goingOf_15 rfl ?_
    refine V.go (pc' := 20) (lv_goto X.1 X.2.1 d_Program_goingOf_16 (by decide)) ?_
    exact V.iret X hr hlk ⟨(by simp only [sp_goingOf, if_neg c_2]), rfl⟩ d_Program_goingOf_20
