theorem wd_69 : (Jvm.Cond.fieldLink "PerformRanges$Program" (20 : Nat) "PerformRanges$Program" "told" "[LPerformRanges$Statement;") ∈ GW := gw_of (i := 61) (by decide +kernel) (by decide +kernel)
theorem wd_70 : (Jvm.Cond.methodLink "PerformRanges$Program" (43 : Nat) ({ cls := "PerformRanges$Program", name := "statementAt", desc := "(I)LPerformRanges$Statement;" } : Jvm.MethodName)) ∈ GW := gw_of (i := 270) (by decide +kernel) (by decide +kernel)
theorem wd_71 : (Jvm.Cond.instanceMethod ({ cls := "PerformRanges$Program", name := "statementAt", desc := "(I)LPerformRanges$Statement;" } : Jvm.MethodName)) ∈ GW := gw_of (i := 228) (by decide +kernel) (by decide +kernel)
theorem wd_72 : (Jvm.Cond.selects "PerformRanges$Program" ({ cls := "PerformRanges$Program", name := "statementAt", desc := "(I)LPerformRanges$Statement;" } : Jvm.MethodName) ({ cls := "PerformRanges$Program", name := "statementAt", desc := "(I)LPerformRanges$Statement;" } : Jvm.MethodName)) ∈ GW := gw_of (i := 229) (by decide +kernel) (by decide +kernel)
theorem wd_73 : (Jvm.Cond.code ({ cls := "PerformRanges$Program", name := "statementAt", desc := "(I)LPerformRanges$Statement;" } : Jvm.MethodName) prog_5_method_10_code (2 : Nat) (Option.some (Jvm.ClassFile.FieldType.object "PerformRanges$Statement"))) ∈ GW := gw_of (i := 230) (by decide +kernel) (by decide +kernel)
theorem wd_74 : (Jvm.Cond.methodLink "PerformRanges$Program" (47 : Nat) ({ cls := "PerformRanges$Statement", name := "isWhole", desc := "()Z" } : Jvm.MethodName)) ∈ GW := gw_of (i := 271) (by decide +kernel) (by decide +kernel)
theorem wd_75 : (Jvm.Cond.instanceMethod ({ cls := "PerformRanges$Statement", name := "isWhole", desc := "()Z" } : Jvm.MethodName)) ∈ GW := gw_of (i := 272) (by decide +kernel) (by decide +kernel)
theorem wd_76 : (Jvm.Cond.selects "PerformRanges$Statement" ({ cls := "PerformRanges$Statement", name := "isWhole", desc := "()Z" } : Jvm.MethodName) ({ cls := "PerformRanges$Statement", name := "isWhole", desc := "()Z" } : Jvm.MethodName)) ∈ GW := gw_of (i := 273) (by decide +kernel) (by decide +kernel)
theorem wd_77 : (Jvm.Cond.code ({ cls := "PerformRanges$Statement", name := "isWhole", desc := "()Z" } : Jvm.MethodName) prog_6_method_4_code (1 : Nat) (Option.some Jvm.ClassFile.FieldType.boolean)) ∈ GW := gw_of (i := 274) (by decide +kernel) (by decide +kernel)
theorem wd_78 : (Jvm.Cond.methodLink "PerformRanges$Pile" (28 : Nat) ({ cls := "PerformRanges$Pile", name := "isFull", desc := "()Z" } : Jvm.MethodName)) ∈ GW := gw_of (i := 301) (by decide +kernel) (by decide +kernel)
theorem wd_79 : (Jvm.Cond.instanceMethod ({ cls := "PerformRanges$Pile", name := "isFull", desc := "()Z" } : Jvm.MethodName)) ∈ GW := gw_of (i := 294) (by decide +kernel) (by decide +kernel)
theorem wd_80 : (Jvm.Cond.selects "PerformRanges$Pile" ({ cls := "PerformRanges$Pile", name := "isFull", desc := "()Z" } : Jvm.MethodName) ({ cls := "PerformRanges$Pile", name := "isFull", desc := "()Z" } : Jvm.MethodName)) ∈ GW := gw_of (i := 295) (by decide +kernel) (by decide +kernel)
theorem wd_81 : (Jvm.Cond.initialized "PerformRanges$Pile") ∈ GW := gw_of (i := 35) (by decide +kernel) (by decide +kernel)
theorem wd_82 : (Jvm.Cond.code ({ cls := "PerformRanges$Pile", name := "isFull", desc := "()Z" } : Jvm.MethodName) prog_4_method_3_code (1 : Nat) (Option.some Jvm.ClassFile.FieldType.boolean)) ∈ GW := gw_of (i := 296) (by decide +kernel) (by decide +kernel)
theorem wd_83 : (Jvm.Cond.fieldLink "PerformRanges$Pile" (11 : Nat) "PerformRanges$Pile" "laid" "[LPerformRanges$Statement;") ∈ GW := gw_of (i := 102) (by decide +kernel) (by decide +kernel)
theorem wd_84 : (Jvm.Cond.fieldLink "PerformRanges$Pile" (32 : Nat) "PerformRanges$Pile" "highest" "I") ∈ GW := gw_of (i := 107) (by decide +kernel) (by decide +kernel)
theorem wd_85 : (Jvm.Cond.methodLink "PerformRanges$Pile" (35 : Nat) ({ cls := "java/lang/Math", name := "max", desc := "(II)I" } : Jvm.MethodName)) ∈ GW := gw_of (i := 302) (by decide +kernel) (by decide +kernel)
theorem d_Program_statementAt_0 : decode prog_5_method_10_code 0 = .ok (.iload_n 1, 1) := by decide +kernel
theorem d_Program_statementAt_1 : decode prog_5_method_10_code 1 = .ok (.iconst 1, 1) := by decide +kernel
theorem d_Program_statementAt_2 : decode prog_5_method_10_code 2 = .ok (.if_icmp .lt 17, 3) := by decide +kernel
theorem d_Program_statementAt_5 : decode prog_5_method_10_code 5 = .ok (.iload_n 1, 1) := by decide +kernel
theorem d_Program_statementAt_6 : decode prog_5_method_10_code 6 = .ok (.aload_n 0, 1) := by decide +kernel
theorem d_Program_statementAt_7 : decode prog_5_method_10_code 7 = .ok (.getfield 36, 3) := by decide +kernel
theorem d_Program_statementAt_10 : decode prog_5_method_10_code 10 = .ok (.if_icmp .gt 9, 3) := by decide +kernel
theorem d_Program_statementAt_13 : decode prog_5_method_10_code 13 = .ok (.iload_n 1, 1) := by decide +kernel
theorem d_Program_statementAt_14 : decode prog_5_method_10_code 14 = .ok (.bipush 60, 2) := by decide +kernel
theorem d_Program_statementAt_16 : decode prog_5_method_10_code 16 = .ok (.if_icmp .le 5, 3) := by decide +kernel
theorem d_Program_statementAt_19 : decode prog_5_method_10_code 19 = .ok (.aconst_null, 1) := by decide +kernel
theorem d_Program_statementAt_20 : decode prog_5_method_10_code 20 = .ok (.areturn, 1) := by decide +kernel
theorem d_Program_statementAt_21 : decode prog_5_method_10_code 21 = .ok (.aload_n 0, 1) := by decide +kernel
theorem d_Program_statementAt_22 : decode prog_5_method_10_code 22 = .ok (.getfield 20, 3) := by decide +kernel
theorem d_Program_statementAt_25 : decode prog_5_method_10_code 25 = .ok (.iload_n 1, 1) := by decide +kernel
theorem d_Program_statementAt_26 : decode prog_5_method_10_code 26 = .ok (.iconst 1, 1) := by decide +kernel
theorem d_Program_statementAt_27 : decode prog_5_method_10_code 27 = .ok (.isub, 1) := by decide +kernel
theorem d_Program_statementAt_28 : decode prog_5_method_10_code 28 = .ok (.aaload, 1) := by decide +kernel
theorem d_Program_statementAt_29 : decode prog_5_method_10_code 29 = .ok (.areturn, 1) := by decide +kernel

def sp_stAt (ns : Int32) (x : Int32) : Option Nat := if x < 1 then none else if ns < x then none else if x ≤ 60 then some ((x - 1).toNatClampNeg) else none
set_option maxHeartbeats 4000000 in
set_option maxRecDepth 100000 in
theorem c_stAt {l : Launch} {H0 : Heap} {D : va_G} {cI cL cQ cB : ClassId} {M : mp} {pg dg gg tg0 : Nat} {sa : Nat → Nat} {np : Int32} {ns : Int32} {x : Int32} (gh0 : M pg = some (.inr (3, [.ref dg, .ref gg, .ref tg0, .int np, .int ns]))) (gh1 : M tg0 = some (.inl (cQ, 60, .inr (.inr (.inr (.inr (tdOf ns sa))))))) : MC l H0 D cls7 (tysOf cI cL cQ cB) NW ({ cls := "PerformRanges$Program", name := "statementAt", desc := "(I)LPerformRanges$Statement;" } : Jvm.MethodName) (Cond.code ({ cls := "PerformRanges$Program", name := "statementAt", desc := "(I)LPerformRanges$Statement;" } : Jvm.MethodName) prog_5_method_10_code 2 (Option.some (Jvm.ClassFile.FieldType.object "PerformRanges$Statement")) :: GW) ({ frames := 0, cells := 0, slots := 0, locals := 0 }) [.ref pg, .int x] M (fun v M' => v = some (va_rf (Option.map sa (sp_stAt ns x))) ∧ M' = M) := by
  refine MC.of (cc := prog_5_method_10_code) (nL := 2) (ret := (Option.some (Jvm.ClassFile.FieldType.object "PerformRanges$Statement"))) (lv := [(0, .ref pg), (1, .int x)]) (by decide) rfl (Nat.le_of_ble_eq_true rfl) rfl ?_
  intro p e s m below meth c X hr hlk hnm hK
  refine V.rd (pc' := 1) (fun hl => lv_iload_n X.1 X.2.1 d_Program_statementAt_0 rfl (lv_at hl 1 rfl)) ?_
  refine V.go (pc' := 2) (lv_iconst (v := 1) X.1 X.2.1 d_Program_statementAt_1 (by decide)) ?_
  refine V.br (pc' := 5) (tgt := 19) (P := x < 1) (lv_icmp_lt X.1 X.2.1 d_Program_statementAt_2 (by decide)) (fun c_1 => ?_) (fun c_1 => ?_)
  · have i_2 := Int32.lt_iff_toInt_lt.mp c_1
    rw [show (1 : Int32).toInt = 1 from rfl] at i_2
    refine V.go (pc' := 20) (lv_null X.1 X.2.1 d_Program_statementAt_19) ?_
    exact V.aret X hr hlk (Or.inl rfl) ⟨(opt_ok (o' := none) (by simp only [sp_stAt, if_pos c_1]) rfl), rfl⟩ d_Program_statementAt_20
  · have i_3 := mt Int32.lt_iff_toInt_lt.mpr c_1
    rw [show (1 : Int32).toInt = 1 from rfl] at i_3
    refine V.rd (pc' := 6) (fun hl => lv_iload_n X.1 X.2.1 d_Program_statementAt_5 rfl (lv_at hl 1 rfl)) ?_
    refine V.rd (pc' := 7) (fun hl => lv_aload_n X.1 X.2.1 d_Program_statementAt_6 rfl (lv_at hl 0 rfl)) ?_
    refine V.get (pc' := 10) X hK gh0 uw_Program rfl 4 (by decide) (mcs wd_2) rfl d_Program_statementAt_7 rfl ?_
    refine V.br (pc' := 13) (tgt := 19) (P := ns < x) (lv_icmp_gt X.1 X.2.1 d_Program_statementAt_10 (by decide)) (fun c_4 => ?_) (fun c_4 => ?_)
    · have i_5 := Int32.lt_iff_toInt_lt.mp c_4
      refine V.go (pc' := 20) (lv_null X.1 X.2.1 d_Program_statementAt_19) ?_
      exact V.aret X hr hlk (Or.inl rfl) ⟨(opt_ok (o' := none) (by simp only [sp_stAt, if_neg c_1, if_pos c_4]) rfl), rfl⟩ d_Program_statementAt_20
    · have i_6 := mt Int32.lt_iff_toInt_lt.mpr c_4
      refine V.rd (pc' := 14) (fun hl => lv_iload_n X.1 X.2.1 d_Program_statementAt_13 rfl (lv_at hl 1 rfl)) ?_
      refine V.go (pc' := 16) (lv_bipush (v := 60) X.1 X.2.1 d_Program_statementAt_14 (by decide)) ?_
      refine V.br (pc' := 19) (tgt := 21) (P := x ≤ 60) (lv_icmp_le X.1 X.2.1 d_Program_statementAt_16 (by decide)) (fun c_7 => ?_) (fun c_7 => ?_)
      · have i_8 := Int32.le_iff_toInt_le.mp c_7
        rw [show (60 : Int32).toInt = 60 from rfl] at i_8
        refine V.rd (pc' := 22) (fun hl => lv_aload_n X.1 X.2.1 d_Program_statementAt_21 rfl (lv_at hl 0 rfl)) ?_
        refine V.get (pc' := 25) X hK gh0 uw_Program rfl 2 (by decide) (mcs wd_69) rfl d_Program_statementAt_22 rfl ?_
        refine V.rd (pc' := 26) (fun hl => lv_iload_n X.1 X.2.1 d_Program_statementAt_25 rfl (lv_at hl 1 rfl)) ?_
        refine V.go (pc' := 27) (lv_iconst (v := 1) X.1 X.2.1 d_Program_statementAt_26 (by decide)) ?_
        refine V.go (pc' := 28) (lv_isub X.1 X.2.1 d_Program_statementAt_27) ?_
        have s_9 : (x - 1).toInt = x.toInt - 1 := i32_sub1 (by omega)
        refine V.aald (pc' := 29) X hK 2 gh1 rfl (vin (by omega) (by omega)) d_Program_statementAt_28 rfl ?_
        exact V.aret X hr hlk (va_rf_or _) ⟨(opt_ok (o' := some ((x - 1).toNatClampNeg)) (by simp only [sp_stAt, if_neg c_1, if_neg c_4, if_pos c_7]) (by rw [tdOf_lt (by rw [clampI (by omega)]; omega)]; rfl)), rfl⟩ d_Program_statementAt_29
      · have i_10 := mt Int32.le_iff_toInt_le.mpr c_7
        rw [show (60 : Int32).toInt = 60 from rfl] at i_10
        refine V.go (pc' := 20) (lv_null X.1 X.2.1 d_Program_statementAt_19) ?_
        exact V.aret X hr hlk (Or.inl rfl) ⟨(opt_ok (o' := none) (by simp only [sp_stAt, if_neg c_1, if_neg c_4, if_neg c_7]) rfl), rfl⟩ d_Program_statementAt_20

theorem stAt_lt {ns x : Int32} {i : Nat} (h : sp_stAt ns x = some i) : (i : Int) < ns.toInt := by
  unfold sp_stAt at h
  have k1 : (1 : Int32).toInt = 1 := rfl
  by_cases h1 : x < 1
  · rw [if_pos h1] at h
    cases h
  · rw [if_neg h1] at h
    by_cases h2 : ns < x
    · rw [if_pos h2] at h
      cases h
    · rw [if_neg h2] at h
      by_cases h3 : x ≤ (60 : Int32)
      · rw [if_pos h3] at h
        cases h
        have a1 := mt Int32.lt_iff_toInt_lt.mpr h1
        have a2 := mt Int32.lt_iff_toInt_lt.mpr h2
        have a3 : (x - 1).toInt = x.toInt - 1 := i32_sub1 (by omega)
        rw [clampI (by omega)]
        omega
      · rw [if_neg h3] at h
        cases h

theorem d_Program_wholeStatementAt_0 : decode prog_5_method_11_code 0 = .ok (.aload_n 0, 1) := by decide +kernel
theorem d_Program_wholeStatementAt_1 : decode prog_5_method_11_code 1 = .ok (.iload_n 1, 1) := by decide +kernel
theorem d_Program_wholeStatementAt_2 : decode prog_5_method_11_code 2 = .ok (.invokevirtual 43, 3) := by decide +kernel
theorem d_Program_wholeStatementAt_5 : decode prog_5_method_11_code 5 = .ok (.astore_n 2, 1) := by decide +kernel
theorem d_Program_wholeStatementAt_6 : decode prog_5_method_11_code 6 = .ok (.aload_n 2, 1) := by decide +kernel
theorem d_Program_wholeStatementAt_7 : decode prog_5_method_11_code 7 = .ok (.ifnull 14, 3) := by decide +kernel
theorem d_Program_wholeStatementAt_10 : decode prog_5_method_11_code 10 = .ok (.aload_n 2, 1) := by decide +kernel
theorem d_Program_wholeStatementAt_11 : decode prog_5_method_11_code 11 = .ok (.invokevirtual 47, 3) := by decide +kernel
theorem d_Program_wholeStatementAt_14 : decode prog_5_method_11_code 14 = .ok (.ifCond .eq 7, 3) := by decide +kernel
theorem d_Program_wholeStatementAt_17 : decode prog_5_method_11_code 17 = .ok (.aload_n 2, 1) := by decide +kernel
theorem d_Program_wholeStatementAt_18 : decode prog_5_method_11_code 18 = .ok (.goto 4, 3) := by decide +kernel
theorem d_Program_wholeStatementAt_21 : decode prog_5_method_11_code 21 = .ok (.aconst_null, 1) := by decide +kernel
theorem d_Program_wholeStatementAt_22 : decode prog_5_method_11_code 22 = .ok (.areturn, 1) := by decide +kernel

def sp_whole (ns : Int32) (x : Int32) (σ : Nat → Stm) : Option Nat := oc (sp_stAt ns x) none (fun i_3 => if (sp_isWhole (st_k (σ i_3)) (st_c (σ i_3)) (st_l (σ i_3))) = 0 then none else some i_3)
set_option maxHeartbeats 4000000 in
set_option maxRecDepth 100000 in
theorem c_whole {l : Launch} {H0 : Heap} {D : va_G} {cI cL cQ cB : ClassId} {M : mp} {pg dg gg tg0 : Nat} {sa u1 u2 u3 u4 u5 : Nat → Nat} {σ : Nat → Stm} {np : Int32} {ns : Int32} {x : Int32} (gh0 : M pg = some (.inr (3, [.ref dg, .ref gg, .ref tg0, .int np, .int ns]))) (gh1 : M tg0 = some (.inl (cQ, 60, .inr (.inr (.inr (.inr (tdOf ns sa))))))) (hp : SP cI cL M ns sa u1 u2 u3 u4 u5 σ) (hσ : ∀ i : Nat, (i : Int) < ns.toInt → (st_l (σ i)).toInt ≤ 7) : MC l H0 D cls7 (tysOf cI cL cQ cB) NW ({ cls := "PerformRanges$Program", name := "wholeStatementAt", desc := "(I)LPerformRanges$Statement;" } : Jvm.MethodName) (Cond.code ({ cls := "PerformRanges$Program", name := "wholeStatementAt", desc := "(I)LPerformRanges$Statement;" } : Jvm.MethodName) prog_5_method_11_code 3 (Option.some (Jvm.ClassFile.FieldType.object "PerformRanges$Statement")) :: GW) ({ frames := 1, cells := 0, slots := 0, locals := 21 }) [.ref pg, .int x] M (fun v M' => v = some (va_rf (Option.map sa (sp_whole ns x σ))) ∧ M' = M) := by
  refine MC.of (cc := prog_5_method_11_code) (nL := 3) (ret := (Option.some (Jvm.ClassFile.FieldType.object "PerformRanges$Statement"))) (lv := [(0, .ref pg), (1, .int x)]) (by decide) rfl (Nat.le_of_ble_eq_true rfl) rfl ?_
  intro p e s m below meth c X hr hlk hnm hK
  refine V.rd (pc' := 1) (fun hl => lv_aload_n X.1 X.2.1 d_Program_wholeStatementAt_0 rfl (lv_at hl 0 rfl)) ?_
  refine V.rd (pc' := 2) (fun hl => lv_iload_n X.1 X.2.1 d_Program_wholeStatementAt_1 rfl (lv_at hl 1 rfl)) ?_
  refine V.callV0 (pc' := 5) X hK (c_stAt  (pg := pg) (dg := dg) (gg := gg) (tg0 := tg0) (np := np) (ns := ns) (x := x)   gh0 gh1  ) gh0 rfl (cwG (n := 1) X (mcs wd_70) (mcs wd_71) (mcs wd_72) (mcs wd_7) wd_73 (by decide +kernel) (by decide) (by decide)) rfl rfl (Nat.le_of_ble_eq_true rfl) d_Program_wholeStatementAt_2 ⟨by decide, by decide⟩ rfl (st1 := [va_rf (Option.map sa (sp_stAt ns x))]) rfl ?_
  refine V.sp (o := sp_stAt ns x) (fun c_2 => ?_) (fun i_3 c_2 => ?_)
  · refine V.wr (pc' := 6) (lv' := [(2, .null), (0, .ref pg), (1, .int x)]) (fun hl => lv_astore_nN X.1 X.2.1 d_Program_wholeStatementAt_5 rfl hl (by decide) rfl) ?_
    refine V.rd (pc' := 7) (fun hl => lv_aload_nN X.1 X.2.1 d_Program_wholeStatementAt_6 rfl (lv_at hl 0 rfl)) ?_
    refine V.go (pc' := 21) (lv_ifnullN X.1 X.2.1 d_Program_wholeStatementAt_7 (by decide)) ?_
    refine V.go (pc' := 22) (lv_null X.1 X.2.1 d_Program_wholeStatementAt_21) ?_
    exact V.aret X hr hlk (Or.inl rfl) ⟨(opt_ok (o' := none) (by simp only [sp_whole, c_2, oc_none]) rfl), rfl⟩ d_Program_wholeStatementAt_22
  · have hlt_10 : (i_3 : Int) < ns.toInt := stAt_lt c_2
    have hs_11 := hσ i_3 hlt_10
    obtain ⟨h_4, h_5, h_6, h_7, h_8, h_9⟩ := hp i_3 hlt_10
    refine V.wr (pc' := 6) (lv' := [(2, .ref (sa i_3)), (0, .ref pg), (1, .int x)]) (fun hl => lv_astore_n X.1 X.2.1 d_Program_wholeStatementAt_5 rfl hl (by decide) rfl) ?_
    refine V.rd (pc' := 7) (fun hl => lv_aload_n X.1 X.2.1 d_Program_wholeStatementAt_6 rfl (lv_at hl 0 rfl)) ?_
    refine V.go (pc' := 10) (lv_ifnull X.1 X.2.1 d_Program_wholeStatementAt_7) ?_
    refine V.rd (pc' := 11) (fun hl => lv_aload_n X.1 X.2.1 d_Program_wholeStatementAt_10 rfl (lv_at hl 0 rfl)) ?_
    refine V.callV0 (pc' := 14) X hK (c_isWhole  (sm := sa i_3) (acc := u1 i_3) (acv := u2 i_3) (alc := u3 i_3) (afv := u4 i_3) (als := u5 i_3) (sf := st_f (σ i_3)) (sto := st_t (σ i_3)) (sk := st_k (σ i_3)) (sn := st_n (σ i_3)) (saf := st_a (σ i_3)) (sc := st_c (σ i_3)) (sl := st_l (σ i_3))   h_4  ) h_4 rfl (cwG (n := 0) X (mcs wd_74) (mcs wd_75) (mcs wd_76) (mcs wd_46) wd_77 (by decide +kernel) (by decide) (by decide)) rfl rfl (Nat.le_of_ble_eq_true rfl) d_Program_wholeStatementAt_11 ⟨by decide, by decide⟩ rfl (st1 := [.int (sp_isWhole (st_k (σ i_3)) (st_c (σ i_3)) (st_l (σ i_3)))]) rfl ?_
    refine V.br (pc' := 17) (tgt := 21) (P := (sp_isWhole (st_k (σ i_3)) (st_c (σ i_3)) (st_l (σ i_3))) = 0) (lv_if_eq X.1 X.2.1 d_Program_wholeStatementAt_14 (by decide)) (fun c_13 => ?_) (fun c_13 => ?_)
    · have i_14 := congrArg Int32.toInt c_13
      rw [show (0 : Int32).toInt = 0 from rfl] at i_14
      refine V.go (pc' := 22) (lv_null X.1 X.2.1 d_Program_wholeStatementAt_21) ?_
      exact V.aret X hr hlk (Or.inl rfl) ⟨(opt_ok (o' := none) (by simp only [sp_whole, c_2, oc_some, if_pos c_13]) rfl), rfl⟩ d_Program_wholeStatementAt_22
    · have i_15 := mt Int32.toInt_inj.mp c_13
      rw [show (0 : Int32).toInt = 0 from rfl] at i_15
      refine V.rd (pc' := 18) (fun hl => lv_aload_n X.1 X.2.1 d_Program_wholeStatementAt_17 rfl (lv_at hl 0 rfl)) ?_
      refine V.go (pc' := 22) (lv_goto X.1 X.2.1 d_Program_wholeStatementAt_18 (by decide)) ?_
      exact V.aret X hr hlk (Or.inr ⟨_, rfl⟩) ⟨(opt_ok (o' := some i_3) (by simp only [sp_whole, c_2, oc_some, if_neg c_13]) rfl), rfl⟩ d_Program_wholeStatementAt_22

theorem whole_lt {ns x : Int32} {σ : Nat → Stm} {i : Nat} (h : sp_whole ns x σ = some i) : (i : Int) < ns.toInt := by
  unfold sp_whole at h
  cases hc : sp_stAt ns x with
  | none =>
    rw [hc, oc_none] at h
    cases h
  | some j =>
    rw [hc, oc_some] at h
    split at h
    · cases h
    · cases h
      exact stAt_lt hc

theorem d_Pile_lay_0 : decode prog_4_method_4_code 0 = .ok (.aload_n 0, 1) := by decide +kernel
theorem d_Pile_lay_1 : decode prog_4_method_4_code 1 = .ok (.invokevirtual 28, 3) := by decide +kernel
theorem d_Pile_lay_4 : decode prog_4_method_4_code 4 = .ok (.ifCond .ne 10, 3) := by decide +kernel
theorem d_Pile_lay_7 : decode prog_4_method_4_code 7 = .ok (.aload_n 0, 1) := by decide +kernel
theorem d_Pile_lay_8 : decode prog_4_method_4_code 8 = .ok (.getfield 24, 3) := by decide +kernel
theorem d_Pile_lay_11 : decode prog_4_method_4_code 11 = .ok (.ifCond .ge 4, 3) := by decide +kernel
theorem d_Pile_lay_14 : decode prog_4_method_4_code 14 = .ok (.return_, 1) := by decide +kernel
theorem d_Pile_lay_15 : decode prog_4_method_4_code 15 = .ok (.aload_n 0, 1) := by decide +kernel
theorem d_Pile_lay_16 : decode prog_4_method_4_code 16 = .ok (.getfield 11, 3) := by decide +kernel
theorem d_Pile_lay_19 : decode prog_4_method_4_code 19 = .ok (.aload_n 0, 1) := by decide +kernel
theorem d_Pile_lay_20 : decode prog_4_method_4_code 20 = .ok (.getfield 24, 3) := by decide +kernel
theorem d_Pile_lay_23 : decode prog_4_method_4_code 23 = .ok (.aload_n 1, 1) := by decide +kernel
theorem d_Pile_lay_24 : decode prog_4_method_4_code 24 = .ok (.aastore, 1) := by decide +kernel
theorem d_Pile_lay_25 : decode prog_4_method_4_code 25 = .ok (.aload_n 0, 1) := by decide +kernel
theorem d_Pile_lay_26 : decode prog_4_method_4_code 26 = .ok (.getfield 17, 3) := by decide +kernel
theorem d_Pile_lay_29 : decode prog_4_method_4_code 29 = .ok (.aload_n 0, 1) := by decide +kernel
theorem d_Pile_lay_30 : decode prog_4_method_4_code 30 = .ok (.getfield 24, 3) := by decide +kernel
theorem d_Pile_lay_33 : decode prog_4_method_4_code 33 = .ok (.iload_n 2, 1) := by decide +kernel
theorem d_Pile_lay_34 : decode prog_4_method_4_code 34 = .ok (.iastore, 1) := by decide +kernel
theorem d_Pile_lay_35 : decode prog_4_method_4_code 35 = .ok (.aload_n 0, 1) := by decide +kernel
theorem d_Pile_lay_36 : decode prog_4_method_4_code 36 = .ok (.getfield 21, 3) := by decide +kernel
theorem d_Pile_lay_39 : decode prog_4_method_4_code 39 = .ok (.aload_n 0, 1) := by decide +kernel
theorem d_Pile_lay_40 : decode prog_4_method_4_code 40 = .ok (.getfield 24, 3) := by decide +kernel
theorem d_Pile_lay_43 : decode prog_4_method_4_code 43 = .ok (.iconst 0, 1) := by decide +kernel
theorem d_Pile_lay_44 : decode prog_4_method_4_code 44 = .ok (.iastore, 1) := by decide +kernel
theorem d_Pile_lay_45 : decode prog_4_method_4_code 45 = .ok (.aload_n 0, 1) := by decide +kernel
theorem d_Pile_lay_46 : decode prog_4_method_4_code 46 = .ok (.dup, 1) := by decide +kernel
theorem d_Pile_lay_47 : decode prog_4_method_4_code 47 = .ok (.getfield 24, 3) := by decide +kernel
theorem d_Pile_lay_50 : decode prog_4_method_4_code 50 = .ok (.iconst 1, 1) := by decide +kernel
theorem d_Pile_lay_51 : decode prog_4_method_4_code 51 = .ok (.iadd, 1) := by decide +kernel
theorem d_Pile_lay_52 : decode prog_4_method_4_code 52 = .ok (.putfield 24, 3) := by decide +kernel
theorem d_Pile_lay_55 : decode prog_4_method_4_code 55 = .ok (.aload_n 0, 1) := by decide +kernel
theorem d_Pile_lay_56 : decode prog_4_method_4_code 56 = .ok (.aload_n 0, 1) := by decide +kernel
theorem d_Pile_lay_57 : decode prog_4_method_4_code 57 = .ok (.getfield 32, 3) := by decide +kernel
theorem d_Pile_lay_60 : decode prog_4_method_4_code 60 = .ok (.aload_n 0, 1) := by decide +kernel
theorem d_Pile_lay_61 : decode prog_4_method_4_code 61 = .ok (.getfield 24, 3) := by decide +kernel
theorem d_Pile_lay_64 : decode prog_4_method_4_code 64 = .ok (.invokestatic 35, 3) := by decide +kernel
theorem d_Pile_lay_67 : decode prog_4_method_4_code 67 = .ok (.putfield 32, 3) := by decide +kernel
theorem d_Pile_lay_70 : decode prog_4_method_4_code 70 = .ok (.return_, 1) := by decide +kernel

def sp_lay_la (hh : Int32) (lo : Nat → Option Nat) (i0 : Nat) : Nat → Option Nat := if (sp_Pile_isFull hh) = 0 then (if 0 ≤ hh then va_up lo hh.toNatClampNeg (some i0) else lo) else lo
def sp_lay_pe (hh : Int32) (pd : Nat → Int32) (x : Int32) : Nat → Int32 := if (sp_Pile_isFull hh) = 0 then (if 0 ≤ hh then upd pd hh.toNatClampNeg x else pd) else pd
def sp_lay_tu (hh : Int32) (ud : Nat → Int32) : Nat → Int32 := if (sp_Pile_isFull hh) = 0 then (if 0 ≤ hh then upd ud hh.toNatClampNeg 0 else ud) else ud
def sp_lay_pi_3 (hh : Int32) : Int32 := if (sp_Pile_isFull hh) = 0 then (if 0 ≤ hh then hh + 1 else hh) else hh
def sp_lay_pi_4 (hh : Int32) (hi : Int32) : Int32 := if (sp_Pile_isFull hh) = 0 then (if 0 ≤ hh then imax hi (hh + 1) else hi) else hi
set_option maxHeartbeats 4000000 in
set_option maxRecDepth 100000 in
theorem c_lay {l : Launch} {H0 : Heap} {D : va_G} {cI cL cQ cB : ClassId} {M : mp} {pi la pe tu : Nat} {sa : Nat → Nat} {hh : Int32} {hi : Int32} {lo : Nat → Option Nat} {pd : Nat → Int32} {ud : Nat → Int32} {i0 : Nat} {vs : List Value} {x : Int32} (ne0 : pe ≠ tu) (gh0 : M pi = some (.inr (2, [.ref la, .ref pe, .ref tu, .int hh, .int hi]))) (gh1 : M la = some (.inl (cQ, 100, .inr (.inr (.inr (.inr (lq lo sa))))))) (gh2 : M pe = some (.inl (cI, 100, .inl pd))) (gh3 : M tu = some (.inl (cI, 100, .inl ud))) (gh4 : M (sa i0) = some (.inr (4, vs))) : MC l H0 D cls7 (tysOf cI cL cQ cB) NW ({ cls := "PerformRanges$Pile", name := "lay", desc := "(LPerformRanges$Statement;I)V" } : Jvm.MethodName) (Cond.code ({ cls := "PerformRanges$Pile", name := "lay", desc := "(LPerformRanges$Statement;I)V" } : Jvm.MethodName) prog_4_method_4_code 3 (Option.none : Option Jvm.ClassFile.FieldType) :: GW) ({ frames := 1, cells := 0, slots := 0, locals := 21 }) [.ref pi, .ref (sa i0), .int x] M (fun v M' => v = none ∧ M' la = some (.inl (cQ, 100, .inr (.inr (.inr (.inr (lq (sp_lay_la hh lo i0) sa)))))) ∧ M' pe = some (.inl (cI, 100, .inl (sp_lay_pe hh pd x))) ∧ M' tu = some (.inl (cI, 100, .inl (sp_lay_tu hh ud))) ∧ M' pi = some (.inr (2, [.ref la, .ref pe, .ref tu, .int (sp_lay_pi_3 hh), .int (sp_lay_pi_4 hh hi)])) ∧ (∀ q, q ≠ la → q ≠ pe → q ≠ tu → q ≠ pi → M' q = M q)) := by
  refine MC.of (cc := prog_4_method_4_code) (nL := 3) (ret := (Option.none : Option Jvm.ClassFile.FieldType)) (lv := [(0, .ref pi), (1, .ref (sa i0)), (2, .int x)]) (by decide) rfl (Nat.le_of_ble_eq_true rfl) rfl ?_
  intro p e s m below meth c X hr hlk hnm hK
  refine V.rd (pc' := 1) (fun hl => lv_aload_n X.1 X.2.1 d_Pile_lay_0 rfl (lv_at hl 0 rfl)) ?_
  refine V.callV0 (pc' := 4) X hK (c_Pile_isFull  (pi := pi) (la := la) (pe := pe) (tu := tu) (hh := hh) (hi := hi)   gh0  ) gh0 rfl (cwG (n := 0) X (mcs wd_78) (mcs wd_79) (mcs wd_80) (mcs wd_81) wd_82 (by decide +kernel) (by decide) (by decide)) rfl rfl (Nat.le_of_ble_eq_true rfl) d_Pile_lay_1 ⟨by decide, by decide⟩ rfl (st1 := [.int (sp_Pile_isFull hh)]) rfl ?_
  refine V.bn (pc' := 7) (tgt := 14) (P := (sp_Pile_isFull hh) = 0) (lv_if_ne X.1 X.2.1 d_Pile_lay_4 (by decide)) (fun c_2 => ?_) (fun c_2 => ?_)
  · have i_3 := isFull_0 c_2
    refine V.rd (pc' := 8) (fun hl => lv_aload_n X.1 X.2.1 d_Pile_lay_7 rfl (lv_at hl 0 rfl)) ?_
    refine V.get (pc' := 11) X hK gh0 uw_Pile rfl 3 (by decide) (mcs wd_14) rfl d_Pile_lay_8 rfl ?_
    refine V.br (pc' := 14) (tgt := 15) (P := 0 ≤ hh) (lv_if_ge X.1 X.2.1 d_Pile_lay_11 (by decide)) (fun c_4 => ?_) (fun c_4 => ?_)
    · have i_5 := Int32.le_iff_toInt_le.mp c_4
      rw [show (0 : Int32).toInt = 0 from rfl] at i_5
      refine V.rd (pc' := 16) (fun hl => lv_aload_n X.1 X.2.1 d_Pile_lay_15 rfl (lv_at hl 0 rfl)) ?_
      refine V.get (pc' := 19) X hK gh0 uw_Pile rfl 0 (by decide) (mcs wd_83) rfl d_Pile_lay_16 rfl ?_
      refine V.rd (pc' := 20) (fun hl => lv_aload_n X.1 X.2.1 d_Pile_lay_19 rfl (lv_at hl 0 rfl)) ?_
      refine V.get (pc' := 23) X hK gh0 uw_Pile rfl 3 (by decide) (mcs wd_14) rfl d_Pile_lay_20 rfl ?_
      refine V.rd (pc' := 24) (fun hl => lv_aload_n X.1 X.2.1 d_Pile_lay_23 rfl (lv_at hl 1 rfl)) ?_
      refine V.aast (pc' := 25) X hK 2 4 gh1 rfl gh4 rfl (vin (by omega) (by omega)) d_Pile_lay_24 rfl (fun M_6 h_7 fr_8 => ?_)
      rw [lq_up] at h_7
      have h_9 : M_6 pi = some (.inr (2, [.ref la, .ref pe, .ref tu, .int hh, .int hi])) := (fr_8 _ (ne_k gh0 gh1 (i := 2) (j := 10000100) rfl rfl (by decide))).trans gh0
      have h_10 : M_6 pe = some (.inl (cI, 100, .inl pd)) := (fr_8 _ (ne_k gh2 gh1 (i := 1100) (j := 10000100) rfl rfl (by decide))).trans gh2
      have h_11 : M_6 tu = some (.inl (cI, 100, .inl ud)) := (fr_8 _ (ne_k gh3 gh1 (i := 1100) (j := 10000100) rfl rfl (by decide))).trans gh3
      have h_12 : M_6 (sa i0) = some (.inr (4, vs)) := (fr_8 _ (ne_k gh4 gh1 (i := 4) (j := 10000100) rfl rfl (by decide))).trans gh4
      refine V.rd (pc' := 26) (fun hl => lv_aload_n X.1 X.2.1 d_Pile_lay_25 rfl (lv_at hl 0 rfl)) ?_
      refine V.get (pc' := 29) X hK h_9 uw_Pile rfl 1 (by decide) (mcs wd_16) rfl d_Pile_lay_26 rfl ?_
      refine V.rd (pc' := 30) (fun hl => lv_aload_n X.1 X.2.1 d_Pile_lay_29 rfl (lv_at hl 0 rfl)) ?_
      refine V.get (pc' := 33) X hK h_9 uw_Pile rfl 3 (by decide) (mcs wd_14) rfl d_Pile_lay_30 rfl ?_
      refine V.rd (pc' := 34) (fun hl => lv_iload_n X.1 X.2.1 d_Pile_lay_33 rfl (lv_at hl 2 rfl)) ?_
      refine V.iast (pc' := 35) X hK 0 h_10 rfl (vin (by omega) (by omega)) d_Pile_lay_34 rfl (fun M_13 h_14 fr_15 => ?_)
      have h_16 : M_13 pi = some (.inr (2, [.ref la, .ref pe, .ref tu, .int hh, .int hi])) := (fr_15 _ (ne_k h_9 h_10 (i := 2) (j := 1100) rfl rfl (by decide))).trans h_9
      have h_17 : M_13 tu = some (.inl (cI, 100, .inl ud)) := (fr_15 _ (Ne.symm ne0)).trans h_11
      have h_18 : M_13 (sa i0) = some (.inr (4, vs)) := (fr_15 _ (ne_k h_12 h_10 (i := 4) (j := 1100) rfl rfl (by decide))).trans h_12
      have h_19 : M_13 la = some (.inl (cQ, 100, .inr (.inr (.inr (.inr (lq (va_up lo hh.toNatClampNeg (some i0)) sa)))))) := (fr_15 _ (ne_k h_7 h_10 (i := 10000100) (j := 1100) rfl rfl (by decide))).trans h_7
      refine V.rd (pc' := 36) (fun hl => lv_aload_n X.1 X.2.1 d_Pile_lay_35 rfl (lv_at hl 0 rfl)) ?_
      refine V.get (pc' := 39) X hK h_16 uw_Pile rfl 2 (by decide) (mcs wd_15) rfl d_Pile_lay_36 rfl ?_
      refine V.rd (pc' := 40) (fun hl => lv_aload_n X.1 X.2.1 d_Pile_lay_39 rfl (lv_at hl 0 rfl)) ?_
      refine V.get (pc' := 43) X hK h_16 uw_Pile rfl 3 (by decide) (mcs wd_14) rfl d_Pile_lay_40 rfl ?_
      refine V.go (pc' := 44) (lv_iconst (v := 0) X.1 X.2.1 d_Pile_lay_43 (by decide)) ?_
      refine V.iast (pc' := 45) X hK 0 h_17 rfl (vin (by omega) (by omega)) d_Pile_lay_44 rfl (fun M_20 h_21 fr_22 => ?_)
      have h_23 : M_20 pi = some (.inr (2, [.ref la, .ref pe, .ref tu, .int hh, .int hi])) := (fr_22 _ (ne_k h_16 h_17 (i := 2) (j := 1100) rfl rfl (by decide))).trans h_16
      have h_24 : M_20 (sa i0) = some (.inr (4, vs)) := (fr_22 _ (ne_k h_18 h_17 (i := 4) (j := 1100) rfl rfl (by decide))).trans h_18
      have h_25 : M_20 la = some (.inl (cQ, 100, .inr (.inr (.inr (.inr (lq (va_up lo hh.toNatClampNeg (some i0)) sa)))))) := (fr_22 _ (ne_k h_19 h_17 (i := 10000100) (j := 1100) rfl rfl (by decide))).trans h_19
      have h_26 : M_20 pe = some (.inl (cI, 100, .inl (upd pd hh.toNatClampNeg x))) := (fr_22 _ ne0).trans h_14
      refine V.rd (pc' := 46) (fun hl => lv_aload_n X.1 X.2.1 d_Pile_lay_45 rfl (lv_at hl 0 rfl)) ?_
      refine V.go (pc' := 47) (lv_dup X.1 X.2.1 d_Pile_lay_46 rfl) ?_
      refine V.get (pc' := 50) X hK h_23 uw_Pile rfl 3 (by decide) (mcs wd_14) rfl d_Pile_lay_47 rfl ?_
      refine V.go (pc' := 51) (lv_iconst (v := 1) X.1 X.2.1 d_Pile_lay_50 (by decide)) ?_
      refine V.go (pc' := 52) (lv_iadd X.1 X.2.1 d_Pile_lay_51) ?_
      have s_27 : (hh + 1).toInt = hh.toInt + 1 := i32_add1 (by omega)
      refine V.put (pc' := 55) X hK h_23 uw_Pile t_Pile tok_Pile nm_Pile rfl 3 (by decide) (mcs wd_14) rfl rfl rfl (Nat.le_of_ble_eq_true rfl) (fs' := [.ref la, .ref pe, .ref tu, .int (hh + 1), .int hi]) rfl d_Pile_lay_52 rfl (fun M_28 h_29 fr_30 => ?_)
      have h_31 : M_28 (sa i0) = some (.inr (4, vs)) := (fr_30 _ (ne_k h_24 h_23 (i := 4) (j := 2) rfl rfl (by decide))).trans h_24
      have h_32 : M_28 la = some (.inl (cQ, 100, .inr (.inr (.inr (.inr (lq (va_up lo hh.toNatClampNeg (some i0)) sa)))))) := (fr_30 _ (ne_k h_25 h_23 (i := 10000100) (j := 2) rfl rfl (by decide))).trans h_25
      have h_33 : M_28 pe = some (.inl (cI, 100, .inl (upd pd hh.toNatClampNeg x))) := (fr_30 _ (ne_k h_26 h_23 (i := 1100) (j := 2) rfl rfl (by decide))).trans h_26
      have h_34 : M_28 tu = some (.inl (cI, 100, .inl (upd ud hh.toNatClampNeg 0))) := (fr_30 _ (ne_k h_21 h_23 (i := 1100) (j := 2) rfl rfl (by decide))).trans h_21
      refine V.rd (pc' := 56) (fun hl => lv_aload_n X.1 X.2.1 d_Pile_lay_55 rfl (lv_at hl 0 rfl)) ?_
      refine V.rd (pc' := 57) (fun hl => lv_aload_n X.1 X.2.1 d_Pile_lay_56 rfl (lv_at hl 0 rfl)) ?_
      refine V.get (pc' := 60) X hK h_29 uw_Pile rfl 4 (by decide) (mcs wd_84) rfl d_Pile_lay_57 rfl ?_
      refine V.rd (pc' := 61) (fun hl => lv_aload_n X.1 X.2.1 d_Pile_lay_60 rfl (lv_at hl 0 rfl)) ?_
      refine V.get (pc' := 64) X hK h_29 uw_Pile rfl 3 (by decide) (mcs wd_14) rfl d_Pile_lay_61 rfl ?_
      refine V.mmax (pc' := 67) X (mcs wd_85) (mcs wd_36) (mcs wd_37) (mcs wd_38) (Nat.le_of_ble_eq_true rfl) (by decide) (by decide) (by decide) (by decide) d_Pile_lay_64 rfl ?_
      refine V.put (pc' := 70) X hK h_29 uw_Pile t_Pile tok_Pile nm_Pile rfl 4 (by decide) (mcs wd_84) rfl rfl rfl (Nat.le_of_ble_eq_true rfl) (fs' := [.ref la, .ref pe, .ref tu, .int (hh + 1), .int (imax hi (hh + 1))]) rfl d_Pile_lay_67 rfl (fun M_35 h_36 fr_37 => ?_)
      have h_38 : M_35 (sa i0) = some (.inr (4, vs)) := (fr_37 _ (ne_k h_31 h_29 (i := 4) (j := 2) rfl rfl (by decide))).trans h_31
      have h_39 : M_35 la = some (.inl (cQ, 100, .inr (.inr (.inr (.inr (lq (va_up lo hh.toNatClampNeg (some i0)) sa)))))) := (fr_37 _ (ne_k h_32 h_29 (i := 10000100) (j := 2) rfl rfl (by decide))).trans h_32
      have h_40 : M_35 pe = some (.inl (cI, 100, .inl (upd pd hh.toNatClampNeg x))) := (fr_37 _ (ne_k h_33 h_29 (i := 1100) (j := 2) rfl rfl (by decide))).trans h_33
      have h_41 : M_35 tu = some (.inl (cI, 100, .inl (upd ud hh.toNatClampNeg 0))) := (fr_37 _ (ne_k h_34 h_29 (i := 1100) (j := 2) rfl rfl (by decide))).trans h_34
      exact V.vret X hr hlk ⟨rfl, (by simp only [sp_lay_la, if_pos c_2, if_pos c_4]; exact h_39), (by simp only [sp_lay_pe, if_pos c_2, if_pos c_4]; exact h_40), (by simp only [sp_lay_tu, if_pos c_2, if_pos c_4]; exact h_41), (by simp only [sp_lay_pi_3, sp_lay_pi_4, if_pos c_2, if_pos c_4]; exact h_36), (fun q n0_ n1_ n2_ n3_ => (fr_37 q n3_).trans ((fr_30 q n3_).trans ((fr_22 q n2_).trans ((fr_15 q n1_).trans ((fr_8 q n0_))))))⟩ d_Pile_lay_70
    · have i_42 := mt Int32.le_iff_toInt_le.mpr c_4
      rw [show (0 : Int32).toInt = 0 from rfl] at i_42
      exact V.vret X hr hlk ⟨rfl, (by simp only [sp_lay_la, if_pos c_2, if_neg c_4]; exact gh1), (by simp only [sp_lay_pe, if_pos c_2, if_neg c_4]; exact gh2), (by simp only [sp_lay_tu, if_pos c_2, if_neg c_4]; exact gh3), (by simp only [sp_lay_pi_3, sp_lay_pi_4, if_pos c_2, if_neg c_4]; exact gh0), (fun q n0_ n1_ n2_ n3_ => rfl)⟩ d_Pile_lay_14
  · have i_43 := mt Int32.toInt_inj.mp c_2
    rw [show (0 : Int32).toInt = 0 from rfl] at i_43
    exact V.vret X hr hlk ⟨rfl, (by simp only [sp_lay_la, if_neg c_2]; exact gh1), (by simp only [sp_lay_pe, if_neg c_2]; exact gh2), (by simp only [sp_lay_tu, if_neg c_2]; exact gh3), (by simp only [sp_lay_pi_3, sp_lay_pi_4, if_neg c_2]; exact gh0), (fun q n0_ n1_ n2_ n3_ => rfl)⟩ d_Pile_lay_14

theorem d_Pile_top_0 : decode prog_4_method_5_code 0 = .ok (.aload_n 0, 1) := by decide +kernel
theorem d_Pile_top_1 : decode prog_4_method_5_code 1 = .ok (.getfield 24, 3) := by decide +kernel
theorem d_Pile_top_4 : decode prog_4_method_5_code 4 = .ok (.ifCond .le 26, 3) := by decide +kernel
theorem d_Pile_top_7 : decode prog_4_method_5_code 7 = .ok (.aload_n 0, 1) := by decide +kernel
theorem d_Pile_top_8 : decode prog_4_method_5_code 8 = .ok (.getfield 24, 3) := by decide +kernel
theorem d_Pile_top_11 : decode prog_4_method_5_code 11 = .ok (.bipush 100, 2) := by decide +kernel
theorem d_Pile_top_13 : decode prog_4_method_5_code 13 = .ok (.if_icmp .gt 17, 3) := by decide +kernel
theorem d_Pile_top_16 : decode prog_4_method_5_code 16 = .ok (.aload_n 0, 1) := by decide +kernel
theorem d_Pile_top_17 : decode prog_4_method_5_code 17 = .ok (.getfield 11, 3) := by decide +kernel
theorem d_Pile_top_20 : decode prog_4_method_5_code 20 = .ok (.aload_n 0, 1) := by decide +kernel
theorem d_Pile_top_21 : decode prog_4_method_5_code 21 = .ok (.getfield 24, 3) := by decide +kernel
theorem d_Pile_top_24 : decode prog_4_method_5_code 24 = .ok (.iconst 1, 1) := by decide +kernel
theorem d_Pile_top_25 : decode prog_4_method_5_code 25 = .ok (.isub, 1) := by decide +kernel
theorem d_Pile_top_26 : decode prog_4_method_5_code 26 = .ok (.aaload, 1) := by decide +kernel
theorem d_Pile_top_27 : decode prog_4_method_5_code 27 = .ok (.goto 4, 3) := by decide +kernel
theorem d_Pile_top_30 : decode prog_4_method_5_code 30 = .ok (.aconst_null, 1) := by decide +kernel
theorem d_Pile_top_31 : decode prog_4_method_5_code 31 = .ok (.areturn, 1) := by decide +kernel

def sp_top (hh : Int32) (lo : Nat → Option Nat) : Option Nat := if hh ≤ 0 then none else if 100 < hh then none else lo (hh - 1).toNatClampNeg
set_option maxHeartbeats 4000000 in
set_option maxRecDepth 100000 in
theorem c_top {l : Launch} {H0 : Heap} {D : va_G} {cI cL cQ cB : ClassId} {M : mp} {pi la pe tu : Nat} {sa : Nat → Nat} {hh : Int32} {hi : Int32} {lo : Nat → Option Nat} (gh0 : M pi = some (.inr (2, [.ref la, .ref pe, .ref tu, .int hh, .int hi]))) (gh1 : M la = some (.inl (cQ, 100, .inr (.inr (.inr (.inr (lq lo sa))))))) : MC l H0 D cls7 (tysOf cI cL cQ cB) NW ({ cls := "PerformRanges$Pile", name := "top", desc := "()LPerformRanges$Statement;" } : Jvm.MethodName) (Cond.code ({ cls := "PerformRanges$Pile", name := "top", desc := "()LPerformRanges$Statement;" } : Jvm.MethodName) prog_4_method_5_code 1 (Option.some (Jvm.ClassFile.FieldType.object "PerformRanges$Statement")) :: GW) ({ frames := 0, cells := 0, slots := 0, locals := 0 }) [.ref pi] M (fun v M' => v = some (va_rf (Option.map sa (sp_top hh lo))) ∧ M' = M) := by
  refine MC.of (cc := prog_4_method_5_code) (nL := 1) (ret := (Option.some (Jvm.ClassFile.FieldType.object "PerformRanges$Statement"))) (lv := [(0, .ref pi)]) (by decide) rfl (Nat.le_of_ble_eq_true rfl) rfl ?_
  intro p e s m below meth c X hr hlk hnm hK
  refine V.rd (pc' := 1) (fun hl => lv_aload_n X.1 X.2.1 d_Pile_top_0 rfl (lv_at hl 0 rfl)) ?_
  refine V.get (pc' := 4) X hK gh0 uw_Pile rfl 3 (by decide) (mcs wd_14) rfl d_Pile_top_1 rfl ?_
  refine V.br (pc' := 7) (tgt := 30) (P := hh ≤ 0) (lv_if_le X.1 X.2.1 d_Pile_top_4 (by decide)) (fun c_1 => ?_) (fun c_1 => ?_)
  · have i_2 := Int32.le_iff_toInt_le.mp c_1
    rw [show (0 : Int32).toInt = 0 from rfl] at i_2
    refine V.go (pc' := 31) (lv_null X.1 X.2.1 d_Pile_top_30) ?_
    exact V.aret X hr hlk (Or.inl rfl) ⟨(opt_ok (o' := none) (by simp only [sp_top, if_pos c_1]) rfl), rfl⟩ d_Pile_top_31
  · have i_3 := mt Int32.le_iff_toInt_le.mpr c_1
    rw [show (0 : Int32).toInt = 0 from rfl] at i_3
    refine V.rd (pc' := 8) (fun hl => lv_aload_n X.1 X.2.1 d_Pile_top_7 rfl (lv_at hl 0 rfl)) ?_
    refine V.get (pc' := 11) X hK gh0 uw_Pile rfl 3 (by decide) (mcs wd_14) rfl d_Pile_top_8 rfl ?_
    refine V.go (pc' := 13) (lv_bipush (v := 100) X.1 X.2.1 d_Pile_top_11 (by decide)) ?_
    refine V.br (pc' := 16) (tgt := 30) (P := 100 < hh) (lv_icmp_gt X.1 X.2.1 d_Pile_top_13 (by decide)) (fun c_4 => ?_) (fun c_4 => ?_)
    · have i_5 := Int32.lt_iff_toInt_lt.mp c_4
      rw [show (100 : Int32).toInt = 100 from rfl] at i_5
      refine V.go (pc' := 31) (lv_null X.1 X.2.1 d_Pile_top_30) ?_
      exact V.aret X hr hlk (Or.inl rfl) ⟨(opt_ok (o' := none) (by simp only [sp_top, if_neg c_1, if_pos c_4]) rfl), rfl⟩ d_Pile_top_31
    · have i_6 := mt Int32.lt_iff_toInt_lt.mpr c_4
      rw [show (100 : Int32).toInt = 100 from rfl] at i_6
      refine V.rd (pc' := 17) (fun hl => lv_aload_n X.1 X.2.1 d_Pile_top_16 rfl (lv_at hl 0 rfl)) ?_
      refine V.get (pc' := 20) X hK gh0 uw_Pile rfl 0 (by decide) (mcs wd_83) rfl d_Pile_top_17 rfl ?_
      refine V.rd (pc' := 21) (fun hl => lv_aload_n X.1 X.2.1 d_Pile_top_20 rfl (lv_at hl 0 rfl)) ?_
      refine V.get (pc' := 24) X hK gh0 uw_Pile rfl 3 (by decide) (mcs wd_14) rfl d_Pile_top_21 rfl ?_
      refine V.go (pc' := 25) (lv_iconst (v := 1) X.1 X.2.1 d_Pile_top_24 (by decide)) ?_
      refine V.go (pc' := 26) (lv_isub X.1 X.2.1 d_Pile_top_25) ?_
      have s_7 : (hh - 1).toInt = hh.toInt - 1 := i32_sub1 (by omega)
      refine V.aald (pc' := 27) X hK 2 gh1 rfl (vin (by omega) (by omega)) d_Pile_top_26 rfl ?_
      refine V.go (pc' := 31) (lv_goto X.1 X.2.1 d_Pile_top_27 (by decide)) ?_
      exact V.aret X hr hlk (va_rf_or _) ⟨(opt_ok (o' := lo (hh - 1).toNatClampNeg) (by simp only [sp_top, if_neg c_1, if_neg c_4]) rfl), rfl⟩ d_Pile_top_31

theorem top_lt {ns hh : Int32} {lo : Nat → Option Nat} {i : Nat} (hlo : ∀ k j : Nat, lo k = some j → (j : Int) < ns.toInt) (h : sp_top hh lo = some i) : (i : Int) < ns.toInt := by
  unfold sp_top at h
  split at h
  · cases h
  · split at h
    · cases h
    · exact hlo _ _ h

theorem d_Pile_endingAt_0 : decode prog_4_method_8_code 0 = .ok (.iconst 0, 1) := by decide +kernel
theorem d_Pile_endingAt_1 : decode prog_4_method_8_code 1 = .ok (.istore_n 2, 1) := by decide +kernel
theorem d_Pile_endingAt_2 : decode prog_4_method_8_code 2 = .ok (.iconst 0, 1) := by decide +kernel
theorem d_Pile_endingAt_3 : decode prog_4_method_8_code 3 = .ok (.istore_n 3, 1) := by decide +kernel
theorem d_Pile_endingAt_4 : decode prog_4_method_8_code 4 = .ok (.iload_n 3, 1) := by decide +kernel
theorem d_Pile_endingAt_5 : decode prog_4_method_8_code 5 = .ok (.aload_n 0, 1) := by decide +kernel
theorem d_Pile_endingAt_6 : decode prog_4_method_8_code 6 = .ok (.getfield 24, 3) := by decide +kernel
theorem d_Pile_endingAt_9 : decode prog_4_method_8_code 9 = .ok (.if_icmp .ge 40, 3) := by decide +kernel
theorem d_Pile_endingAt_12 : decode prog_4_method_8_code 12 = .ok (.iload_n 3, 1) := by decide +kernel
theorem d_Pile_endingAt_13 : decode prog_4_method_8_code 13 = .ok (.bipush 100, 2) := by decide +kernel
theorem d_Pile_endingAt_15 : decode prog_4_method_8_code 15 = .ok (.if_icmp .ge 34, 3) := by decide +kernel
theorem d_Pile_endingAt_18 : decode prog_4_method_8_code 18 = .ok (.aload_n 0, 1) := by decide +kernel
theorem d_Pile_endingAt_19 : decode prog_4_method_8_code 19 = .ok (.getfield 11, 3) := by decide +kernel
theorem d_Pile_endingAt_22 : decode prog_4_method_8_code 22 = .ok (.iload_n 3, 1) := by decide +kernel
theorem d_Pile_endingAt_23 : decode prog_4_method_8_code 23 = .ok (.aaload, 1) := by decide +kernel
theorem d_Pile_endingAt_24 : decode prog_4_method_8_code 24 = .ok (.astore 4, 2) := by decide +kernel
theorem d_Pile_endingAt_26 : decode prog_4_method_8_code 26 = .ok (.aload 4, 2) := by decide +kernel
theorem d_Pile_endingAt_28 : decode prog_4_method_8_code 28 = .ok (.ifnull 15, 3) := by decide +kernel
theorem d_Pile_endingAt_31 : decode prog_4_method_8_code 31 = .ok (.aload 4, 2) := by decide +kernel
theorem d_Pile_endingAt_33 : decode prog_4_method_8_code 33 = .ok (.getfield 41, 3) := by decide +kernel
theorem d_Pile_endingAt_36 : decode prog_4_method_8_code 36 = .ok (.iload_n 1, 1) := by decide +kernel
theorem d_Pile_endingAt_37 : decode prog_4_method_8_code 37 = .ok (.if_icmp .ne 6, 3) := by decide +kernel
theorem d_Pile_endingAt_40 : decode prog_4_method_8_code 40 = .ok (.iinc 2 1, 3) := by decide +kernel
theorem d_Pile_endingAt_43 : decode prog_4_method_8_code 43 = .ok (.iinc 3 1, 3) := by decide +kernel
theorem d_Pile_endingAt_46 : decode prog_4_method_8_code 46 = .ok (.goto (-42), 3) := by decide +kernel
theorem d_Pile_endingAt_49 : decode prog_4_method_8_code 49 = .ok (.iload_n 2, 1) := by decide +kernel
theorem d_Pile_endingAt_50 : decode prog_4_method_8_code 50 = .ok (.ireturn, 1) := by decide +kernel

def lp_endingAt (hh : Int32) (lo : Nat → Option Nat) (x : Int32) (σ : Nat → Stm) : Nat → Int32 → Int32 → Int32
  | 0, _, _ => 0
  | n_ + 1, fd, k => if hh ≤ k then fd else if 100 ≤ k then fd else oc (lo k.toNatClampNeg) (lp_endingAt hh lo x σ n_ fd (k + 1)) (fun i_10 => if (st_t (σ i_10)) = x then lp_endingAt hh lo x σ n_ (fd + 1) (k + 1) else lp_endingAt hh lo x σ n_ fd (k + 1))
set_option maxHeartbeats 4000000 in
set_option maxRecDepth 100000 in
theorem c_endingAt {l : Launch} {H0 : Heap} {D : va_G} {cI cL cQ cB : ClassId} {M : mp} {pi la pe tu : Nat} {sa u1 u2 u3 u4 u5 : Nat → Nat} {σ : Nat → Stm} {hh : Int32} {hi : Int32} {ns : Int32} {lo : Nat → Option Nat} {x : Int32} (gh0 : M pi = some (.inr (2, [.ref la, .ref pe, .ref tu, .int hh, .int hi]))) (gh1 : M la = some (.inl (cQ, 100, .inr (.inr (.inr (.inr (lq lo sa))))))) (hp : SP cI cL M ns sa u1 u2 u3 u4 u5 σ) (hσ : ∀ i : Nat, (i : Int) < ns.toInt → (st_l (σ i)).toInt ≤ 7) (hlo : ∀ k j : Nat, lo k = some j → (j : Int) < ns.toInt) : MC l H0 D cls7 (tysOf cI cL cQ cB) NW ({ cls := "PerformRanges$Pile", name := "endingAt", desc := "(I)I" } : Jvm.MethodName) (Cond.code ({ cls := "PerformRanges$Pile", name := "endingAt", desc := "(I)I" } : Jvm.MethodName) prog_4_method_8_code 5 (Option.some Jvm.ClassFile.FieldType.int) :: GW) ({ frames := 0, cells := 0, slots := 0, locals := 0 }) [.ref pi, .int x] M (fun v M' => v = some (.int (lp_endingAt hh lo x σ 101 0 0)) ∧ M' = M) := by
  refine MC.of (cc := prog_4_method_8_code) (nL := 5) (ret := (Option.some Jvm.ClassFile.FieldType.int)) (lv := [(0, .ref pi), (1, .int x)]) (by decide) rfl (Nat.le_of_ble_eq_true rfl) rfl ?_
  intro p e s m below meth c X hr hlk hnm hK
  refine V.go (pc' := 1) (lv_iconst (v := 0) X.1 X.2.1 d_Pile_endingAt_0 (by decide)) ?_
  refine V.wr (pc' := 2) (lv' := [(2, .int 0), (0, .ref pi), (1, .int x)]) (fun hl => lv_istore_n X.1 X.2.1 d_Pile_endingAt_1 rfl hl (by decide) rfl) ?_
  refine V.go (pc' := 3) (lv_iconst (v := 0) X.1 X.2.1 d_Pile_endingAt_2 (by decide)) ?_
  refine V.wr (pc' := 4) (lv' := [(3, .int 0), (2, .int 0), (0, .ref pi), (1, .int x)]) (fun hl => lv_istore_n X.1 X.2.1 d_Pile_endingAt_3 rfl hl (by decide) rfl) ?_
  obtain ⟨ze_9, hze_9⟩ : ∃ z, z = lp_endingAt hh lo x σ 101 0 0 := ⟨_, rfl⟩
  refine V.pick [2, 3, 1, 0] rfl ?_
  refine V.ind (α := Unit) (x0 := ()) (n0 := 101) (I := fun nn_ _ M' lv' => ∃ (fd : Int32) (k : Int32), lv' = [(0, .ref pi), (1, .int x), (2, .int fd), (3, .int k)] ∧ M' pi = some (.inr (2, [.ref la, .ref pe, .ref tu, .int hh, .int hi])) ∧ M' la = some (.inl (cQ, 100, .inr (.inr (.inr (.inr (lq lo sa)))))) ∧ M' = M ∧ (0 ≤ k.toInt ∧ k.toInt ≤ 100) ∧ (k.toInt + nn_ = 101) ∧ (0 ≤ fd.toInt ∧ fd.toInt ≤ k.toInt) ∧ lp_endingAt hh lo x σ nn_ fd k = ze_9) ⟨0, 0, rfl, gh0, gh1, rfl, (by first | omega | with_reducible assumption | (have z0_ : (0 : Int32).toInt = 0 := rfl; have z1_ : (1 : Int32).toInt = 1 := rfl; omega)), (by first | omega | with_reducible assumption | (have z0_ : (0 : Int32).toInt = 0 := rfl; have z1_ : (1 : Int32).toInt = 1 := rfl; omega)), (by first | omega | with_reducible assumption | (have z0_ : (0 : Int32).toInt = 0 := rfl; have z1_ : (1 : Int32).toInt = 1 := rfl; omega)), hze_9.symm⟩ (fun n_4 ih_5 _ M_3 lv_6 hI_7 => ?_)
  obtain ⟨fd, k, rfl, h_1, h_2, rfl, j1, j2, j3, e_9⟩ := hI_7
  obtain ⟨n_4, rfl⟩ : ∃ j, n_4 = j + 1 := ⟨n_4 - 1, by omega⟩
  refine V.rd (pc' := 5) (fun hl => lv_iload_n X.1 X.2.1 d_Pile_endingAt_4 rfl (lv_at hl 3 rfl)) ?_
  refine V.rd (pc' := 6) (fun hl => lv_aload_n X.1 X.2.1 d_Pile_endingAt_5 rfl (lv_at hl 0 rfl)) ?_
  refine V.get (pc' := 9) X hK h_1 uw_Pile rfl 3 (by decide) (mcs wd_14) rfl d_Pile_endingAt_6 rfl ?_
  refine V.br (pc' := 12) (tgt := 49) (P := hh ≤ k) (lv_icmp_ge X.1 X.2.1 d_Pile_endingAt_9 (by decide)) (fun c_10 => ?_) (fun c_10 => ?_)
  · have i_11 := Int32.le_iff_toInt_le.mp c_10
    refine V.rd (pc' := 50) (fun hl => lv_iload_n X.1 X.2.1 d_Pile_endingAt_49 rfl (lv_at hl 2 rfl)) ?_
    rw [lp_endingAt] at e_9
    simp only [if_pos c_10] at e_9
    exact V.iret X hr hlk ⟨(by exact congrArg (fun z => some (Value.int z)) (e_9.trans hze_9)), rfl⟩ d_Pile_endingAt_50
  · have i_12 := mt Int32.le_iff_toInt_le.mpr c_10
    refine V.rd (pc' := 13) (fun hl => lv_iload_n X.1 X.2.1 d_Pile_endingAt_12 rfl (lv_at hl 3 rfl)) ?_
    refine V.go (pc' := 15) (lv_bipush (v := 100) X.1 X.2.1 d_Pile_endingAt_13 (by decide)) ?_
    refine V.br (pc' := 18) (tgt := 49) (P := 100 ≤ k) (lv_icmp_ge X.1 X.2.1 d_Pile_endingAt_15 (by decide)) (fun c_13 => ?_) (fun c_13 => ?_)
    · have i_14 := Int32.le_iff_toInt_le.mp c_13
      rw [show (100 : Int32).toInt = 100 from rfl] at i_14
      refine V.rd (pc' := 50) (fun hl => lv_iload_n X.1 X.2.1 d_Pile_endingAt_49 rfl (lv_at hl 2 rfl)) ?_
      rw [lp_endingAt] at e_9
      simp only [if_neg c_10, if_pos c_13] at e_9
      exact V.iret X hr hlk ⟨(by exact congrArg (fun z => some (Value.int z)) (e_9.trans hze_9)), rfl⟩ d_Pile_endingAt_50
    · have i_15 := mt Int32.le_iff_toInt_le.mpr c_13
      rw [show (100 : Int32).toInt = 100 from rfl] at i_15
      refine V.rd (pc' := 19) (fun hl => lv_aload_n X.1 X.2.1 d_Pile_endingAt_18 rfl (lv_at hl 0 rfl)) ?_
      refine V.get (pc' := 22) X hK h_1 uw_Pile rfl 0 (by decide) (mcs wd_83) rfl d_Pile_endingAt_19 rfl ?_
      refine V.rd (pc' := 23) (fun hl => lv_iload_n X.1 X.2.1 d_Pile_endingAt_22 rfl (lv_at hl 3 rfl)) ?_
      refine V.aald (pc' := 24) X hK 2 h_2 rfl (vin (by omega) (by omega)) d_Pile_endingAt_23 rfl ?_
      refine V.sp (o := lo k.toNatClampNeg) (fun c_16 => ?_) (fun i_17 c_16 => ?_)
      · refine V.wr (pc' := 26) (lv' := [(4, .null), (0, .ref pi), (1, .int x), (2, .int fd), (3, .int k)]) (fun hl => lv_astoreN X.1 X.2.1 d_Pile_endingAt_24 hl (by decide) rfl) ?_
        refine V.rd (pc' := 28) (fun hl => lv_aloadN X.1 X.2.1 d_Pile_endingAt_26 (lv_at hl 0 rfl)) ?_
        refine V.go (pc' := 43) (lv_ifnullN X.1 X.2.1 d_Pile_endingAt_28 (by decide)) ?_
        refine V.wr (pc' := 46) (lv' := [(3, .int (k + 1)), (4, .null), (0, .ref pi), (1, .int x), (2, .int fd)]) (fun hl => lv_iinc (k := 4) (v := k + 1) X.1 X.2.1 d_Pile_endingAt_43 hl rfl rfl (by decide) rfl) ?_
        have s_18 : (k + 1).toInt = k.toInt + (1) := i32_add1 (by omega)
        refine V.go (pc' := 4) (lv_goto X.1 X.2.1 d_Pile_endingAt_46 (by decide)) ?_
        refine V.pick [2, 3, 4, 0] rfl ?_
        exact ih_5 n_4 (by omega) () _ _ ⟨fd, (k + 1), rfl, h_1, h_2, rfl, (by first | omega | with_reducible assumption | (have z0_ : (0 : Int32).toInt = 0 := rfl; have z1_ : (1 : Int32).toInt = 1 := rfl; omega)), (by first | omega | with_reducible assumption | (have z0_ : (0 : Int32).toInt = 0 := rfl; have z1_ : (1 : Int32).toInt = 1 := rfl; omega)), (by first | omega | with_reducible assumption | (have z0_ : (0 : Int32).toInt = 0 := rfl; have z1_ : (1 : Int32).toInt = 1 := rfl; omega)), (by rw [← e_9, lp_endingAt]; simp only [if_neg c_10, if_neg c_13, c_16, oc_none])⟩
      · have hlt_25 : (i_17 : Int) < ns.toInt := hlo _ _ c_16
        have hs_26 := hσ i_17 hlt_25
        obtain ⟨h_19, h_20, h_21, h_22, h_23, h_24⟩ := hp i_17 hlt_25
        refine V.wr (pc' := 26) (lv' := [(4, .ref (sa i_17)), (0, .ref pi), (1, .int x), (2, .int fd), (3, .int k)]) (fun hl => lv_astore X.1 X.2.1 d_Pile_endingAt_24 hl (by decide) rfl) ?_
        refine V.rd (pc' := 28) (fun hl => lv_aload X.1 X.2.1 d_Pile_endingAt_26 (lv_at hl 0 rfl)) ?_
        refine V.go (pc' := 31) (lv_ifnull X.1 X.2.1 d_Pile_endingAt_28) ?_
        refine V.rd (pc' := 33) (fun hl => lv_aload X.1 X.2.1 d_Pile_endingAt_31 (lv_at hl 0 rfl)) ?_
        refine V.getN (pc' := 36) X hK h_19 uw_Statement rfl 1 (by decide) (List.mem_of_getElem? (i := 12) rfl) rfl d_Pile_endingAt_33 rfl ?_
        refine V.rd (pc' := 37) (fun hl => lv_iload_n X.1 X.2.1 d_Pile_endingAt_36 rfl (lv_at hl 2 rfl)) ?_
        refine V.bn (pc' := 40) (tgt := 43) (P := (st_t (σ i_17)) = x) (lv_icmp_ne X.1 X.2.1 d_Pile_endingAt_37 (by decide)) (fun c_27 => ?_) (fun c_27 => ?_)
        · have i_28 := congrArg Int32.toInt c_27
          refine V.wr (pc' := 43) (lv' := [(2, .int (fd + 1)), (4, .ref (sa i_17)), (0, .ref pi), (1, .int x), (3, .int k)]) (fun hl => lv_iinc (k := 3) (v := fd + 1) X.1 X.2.1 d_Pile_endingAt_40 hl rfl rfl (by decide) rfl) ?_
          have s_29 : (fd + 1).toInt = fd.toInt + (1) := i32_add1 (by omega)
          refine V.wr (pc' := 46) (lv' := [(3, .int (k + 1)), (2, .int (fd + 1)), (4, .ref (sa i_17)), (0, .ref pi), (1, .int x)]) (fun hl => lv_iinc (k := 4) (v := k + 1) X.1 X.2.1 d_Pile_endingAt_43 hl rfl rfl (by decide) rfl) ?_
          have s_30 : (k + 1).toInt = k.toInt + (1) := i32_add1 (by omega)
          refine V.go (pc' := 4) (lv_goto X.1 X.2.1 d_Pile_endingAt_46 (by decide)) ?_
          refine V.pick [3, 4, 1, 0] rfl ?_
          exact ih_5 n_4 (by omega) () _ _ ⟨(fd + 1), (k + 1), rfl, h_1, h_2, rfl, (by first | omega | with_reducible assumption | (have z0_ : (0 : Int32).toInt = 0 := rfl; have z1_ : (1 : Int32).toInt = 1 := rfl; omega)), (by first | omega | with_reducible assumption | (have z0_ : (0 : Int32).toInt = 0 := rfl; have z1_ : (1 : Int32).toInt = 1 := rfl; omega)), (by first | omega | with_reducible assumption | (have z0_ : (0 : Int32).toInt = 0 := rfl; have z1_ : (1 : Int32).toInt = 1 := rfl; omega)), (by rw [← e_9, lp_endingAt]; simp only [if_neg c_10, if_neg c_13, c_16, oc_some, if_pos c_27])⟩
        · have i_31 := mt Int32.toInt_inj.mp c_27
          refine V.wr (pc' := 46) (lv' := [(3, .int (k + 1)), (4, .ref (sa i_17)), (0, .ref pi), (1, .int x), (2, .int fd)]) (fun hl => lv_iinc (k := 4) (v := k + 1) X.1 X.2.1 d_Pile_endingAt_43 hl rfl rfl (by decide) rfl) ?_
          have s_32 : (k + 1).toInt = k.toInt + (1) := i32_add1 (by omega)
          refine V.go (pc' := 4) (lv_goto X.1 X.2.1 d_Pile_endingAt_46 (by decide)) ?_
          refine V.pick [2, 3, 4, 0] rfl ?_
          exact ih_5 n_4 (by omega) () _ _ ⟨fd, (k + 1), rfl, h_1, h_2, rfl, (by first | omega | with_reducible assumption | (have z0_ : (0 : Int32).toInt = 0 := rfl; have z1_ : (1 : Int32).toInt = 1 := rfl; omega)), (by first | omega | with_reducible assumption | (have z0_ : (0 : Int32).toInt = 0 := rfl; have z1_ : (1 : Int32).toInt = 1 := rfl; omega)), (by first | omega | with_reducible assumption | (have z0_ : (0 : Int32).toInt = 0 := rfl; have z1_ : (1 : Int32).toInt = 1 := rfl; omega)), (by rw [← e_9, lp_endingAt]; simp only [if_neg c_10, if_neg c_13, c_16, oc_some, if_neg c_27])⟩
