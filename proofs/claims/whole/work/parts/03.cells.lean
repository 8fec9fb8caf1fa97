theorem wd_0 : (Jvm.Cond.fieldLink "PerformRanges$Cells" (9 : Nat) "PerformRanges$Cells" "values" "[J") ∈ GW := gw_of (i := 90) (by decide +kernel) (by decide +kernel)
theorem d_Cells_value_0 : decode prog_2_method_2_code 0 = .ok (.iload_n 1, 1) := by decide +kernel
theorem d_Cells_value_1 : decode prog_2_method_2_code 1 = .ok (.ifCond .lt 18, 3) := by decide +kernel
theorem d_Cells_value_4 : decode prog_2_method_2_code 4 = .ok (.iload_n 1, 1) := by decide +kernel
theorem d_Cells_value_5 : decode prog_2_method_2_code 5 = .ok (.bipush 16, 2) := by decide +kernel
theorem d_Cells_value_7 : decode prog_2_method_2_code 7 = .ok (.if_icmp .ge 12, 3) := by decide +kernel
theorem d_Cells_value_10 : decode prog_2_method_2_code 10 = .ok (.aload_n 0, 1) := by decide +kernel
theorem d_Cells_value_11 : decode prog_2_method_2_code 11 = .ok (.getfield 9, 3) := by decide +kernel
theorem d_Cells_value_14 : decode prog_2_method_2_code 14 = .ok (.iload_n 1, 1) := by decide +kernel
theorem d_Cells_value_15 : decode prog_2_method_2_code 15 = .ok (.laload, 1) := by decide +kernel
theorem d_Cells_value_16 : decode prog_2_method_2_code 16 = .ok (.goto 4, 3) := by decide +kernel
theorem d_Cells_value_19 : decode prog_2_method_2_code 19 = .ok (.lconst 0, 1) := by decide +kernel
theorem d_Cells_value_20 : decode prog_2_method_2_code 20 = .ok (.lreturn, 1) := by decide +kernel

def sp_Cells_value (f : Nat → Int64) (x : Int32) : Int64 := if x < 0 then 0 else if 16 ≤ x then 0 else f x.toNatClampNeg
set_option maxHeartbeats 4000000 in
set_option maxRecDepth 100000 in
theorem c_Cells_value {l : Launch} {H0 : Heap} {D : va_G} {cI cL cQ cB : ClassId} {M : mp} {ce va : Nat} {f : Nat → Int64} {x : Int32} (gh0 : M ce = some (.inr (0, [.ref va]))) (gh1 : M va = some (.inl (cL, 16, .inr (.inl f)))) : MC l H0 D cls7 (tysOf cI cL cQ cB) NW ({ cls := "PerformRanges$Cells", name := "value", desc := "(I)J" } : Jvm.MethodName) (Cond.code ({ cls := "PerformRanges$Cells", name := "value", desc := "(I)J" } : Jvm.MethodName) prog_2_method_2_code 2 (Option.some Jvm.ClassFile.FieldType.long) :: GW) ({ frames := 0, cells := 0, slots := 0, locals := 0 }) [.ref ce, .int x] M (fun v M' => v = some (.long (sp_Cells_value f x)) ∧ M' = M) := by
  refine MC.of (cc := prog_2_method_2_code) (nL := 2) (ret := (Option.some Jvm.ClassFile.FieldType.long)) (lv := [(0, .ref ce), (1, .int x)]) (by decide) rfl (Nat.le_of_ble_eq_true rfl) rfl ?_
  intro p e s m below meth c X hr hlk hnm hK
  refine V.rd (pc' := 1) (fun hl => lv_iload_n X.1 X.2.1 d_Cells_value_0 rfl (lv_at hl 1 rfl)) ?_
  refine V.br (pc' := 4) (tgt := 19) (P := x < 0) (lv_if_lt X.1 X.2.1 d_Cells_value_1 (by decide)) (fun c_1 => ?_) (fun c_1 => ?_)
  · have i_2 := Int32.lt_iff_toInt_lt.mp c_1
    rw [show (0 : Int32).toInt = 0 from rfl] at i_2
    refine V.go (pc' := 20) (lv_lconst (v := 0) X.1 X.2.1 d_Cells_value_19 (by decide)) ?_
    exact V.lret X hr hlk ⟨(by simp only [sp_Cells_value, if_pos c_1]), rfl⟩ d_Cells_value_20
  · have i_3 := mt Int32.lt_iff_toInt_lt.mpr c_1
    rw [show (0 : Int32).toInt = 0 from rfl] at i_3
    refine V.rd (pc' := 5) (fun hl => lv_iload_n X.1 X.2.1 d_Cells_value_4 rfl (lv_at hl 1 rfl)) ?_
    refine V.go (pc' := 7) (lv_bipush (v := 16) X.1 X.2.1 d_Cells_value_5 (by decide)) ?_
    refine V.br (pc' := 10) (tgt := 19) (P := 16 ≤ x) (lv_icmp_ge X.1 X.2.1 d_Cells_value_7 (by decide)) (fun c_4 => ?_) (fun c_4 => ?_)
    · have i_5 := Int32.le_iff_toInt_le.mp c_4
      rw [show (16 : Int32).toInt = 16 from rfl] at i_5
      refine V.go (pc' := 20) (lv_lconst (v := 0) X.1 X.2.1 d_Cells_value_19 (by decide)) ?_
      exact V.lret X hr hlk ⟨(by simp only [sp_Cells_value, if_neg c_1, if_pos c_4]), rfl⟩ d_Cells_value_20
    · have i_6 := mt Int32.le_iff_toInt_le.mpr c_4
      rw [show (16 : Int32).toInt = 16 from rfl] at i_6
      refine V.rd (pc' := 11) (fun hl => lv_aload_n X.1 X.2.1 d_Cells_value_10 rfl (lv_at hl 0 rfl)) ?_
      refine V.get (pc' := 14) X hK gh0 uw_Cells rfl 0 (by decide) (mcs wd_0) rfl d_Cells_value_11 rfl ?_
      refine V.rd (pc' := 15) (fun hl => lv_iload_n X.1 X.2.1 d_Cells_value_14 rfl (lv_at hl 1 rfl)) ?_
      refine V.lald (pc' := 16) X hK 1 gh1 rfl (vin (by omega) (by omega)) d_Cells_value_15 rfl ?_
      refine V.go (pc' := 20) (lv_goto X.1 X.2.1 d_Cells_value_16 (by decide)) ?_
      exact V.lret X hr hlk ⟨(by simp only [sp_Cells_value, if_neg c_1, if_neg c_4]), rfl⟩ d_Cells_value_20

theorem d_Cells_become_0 : decode prog_2_method_3_code 0 = .ok (.iload_n 1, 1) := by decide +kernel
theorem d_Cells_become_1 : decode prog_2_method_3_code 1 = .ok (.ifCond .lt 16, 3) := by decide +kernel
theorem d_Cells_become_4 : decode prog_2_method_3_code 4 = .ok (.iload_n 1, 1) := by decide +kernel
theorem d_Cells_become_5 : decode prog_2_method_3_code 5 = .ok (.bipush 16, 2) := by decide +kernel
theorem d_Cells_become_7 : decode prog_2_method_3_code 7 = .ok (.if_icmp .ge 10, 3) := by decide +kernel
theorem d_Cells_become_10 : decode prog_2_method_3_code 10 = .ok (.aload_n 0, 1) := by decide +kernel
theorem d_Cells_become_11 : decode prog_2_method_3_code 11 = .ok (.getfield 9, 3) := by decide +kernel
theorem d_Cells_become_14 : decode prog_2_method_3_code 14 = .ok (.iload_n 1, 1) := by decide +kernel
theorem d_Cells_become_15 : decode prog_2_method_3_code 15 = .ok (.lload_n 2, 1) := by decide +kernel
theorem d_Cells_become_16 : decode prog_2_method_3_code 16 = .ok (.lastore, 1) := by decide +kernel
theorem d_Cells_become_17 : decode prog_2_method_3_code 17 = .ok (.return_, 1) := by decide +kernel

def sp_Cells_become_va (f : Nat → Int64) (x : Int32) (y : Int64) : Nat → Int64 := if x < 0 then f else if 16 ≤ x then f else vp_updL f x.toNatClampNeg y
set_option maxHeartbeats 4000000 in
set_option maxRecDepth 100000 in
theorem c_Cells_become {l : Launch} {H0 : Heap} {D : va_G} {cI cL cQ cB : ClassId} {M : mp} {ce va : Nat} {f : Nat → Int64} {x : Int32} {y : Int64} (gh0 : M ce = some (.inr (0, [.ref va]))) (gh1 : M va = some (.inl (cL, 16, .inr (.inl f)))) : MC l H0 D cls7 (tysOf cI cL cQ cB) NW ({ cls := "PerformRanges$Cells", name := "become", desc := "(IJ)V" } : Jvm.MethodName) (Cond.code ({ cls := "PerformRanges$Cells", name := "become", desc := "(IJ)V" } : Jvm.MethodName) prog_2_method_3_code 4 (Option.none : Option Jvm.ClassFile.FieldType) :: GW) ({ frames := 0, cells := 0, slots := 0, locals := 0 }) [.ref ce, .int x, .long y] M (fun v M' => v = none ∧ M' va = some (.inl (cL, 16, .inr (.inl (sp_Cells_become_va f x y)))) ∧ (∀ q, q ≠ va → M' q = M q)) := by
  refine MC.of (cc := prog_2_method_3_code) (nL := 4) (ret := (Option.none : Option Jvm.ClassFile.FieldType)) (lv := [(0, .ref ce), (1, .int x), (2, .long y)]) (by decide) rfl (Nat.le_of_ble_eq_true rfl) rfl ?_
  intro p e s m below meth c X hr hlk hnm hK
  refine V.rd (pc' := 1) (fun hl => lv_iload_n X.1 X.2.1 d_Cells_become_0 rfl (lv_at hl 1 rfl)) ?_
  refine V.br (pc' := 4) (tgt := 17) (P := x < 0) (lv_if_lt X.1 X.2.1 d_Cells_become_1 (by decide)) (fun c_1 => ?_) (fun c_1 => ?_)
  · have i_2 := Int32.lt_iff_toInt_lt.mp c_1
    rw [show (0 : Int32).toInt = 0 from rfl] at i_2
    exact V.vret X hr hlk ⟨rfl, (by simp only [sp_Cells_become_va, if_pos c_1]; exact gh1), (fun q n0_ => rfl)⟩ d_Cells_become_17
  · have i_3 := mt Int32.lt_iff_toInt_lt.mpr c_1
    rw [show (0 : Int32).toInt = 0 from rfl] at i_3
    refine V.rd (pc' := 5) (fun hl => lv_iload_n X.1 X.2.1 d_Cells_become_4 rfl (lv_at hl 1 rfl)) ?_
    refine V.go (pc' := 7) (lv_bipush (v := 16) X.1 X.2.1 d_Cells_become_5 (by decide)) ?_
    refine V.br (pc' := 10) (tgt := 17) (P := 16 ≤ x) (lv_icmp_ge X.1 X.2.1 d_Cells_become_7 (by decide)) (fun c_4 => ?_) (fun c_4 => ?_)
    · have i_5 := Int32.le_iff_toInt_le.mp c_4
      rw [show (16 : Int32).toInt = 16 from rfl] at i_5
      exact V.vret X hr hlk ⟨rfl, (by simp only [sp_Cells_become_va, if_neg c_1, if_pos c_4]; exact gh1), (fun q n0_ => rfl)⟩ d_Cells_become_17
    · have i_6 := mt Int32.le_iff_toInt_le.mpr c_4
      rw [show (16 : Int32).toInt = 16 from rfl] at i_6
      refine V.rd (pc' := 11) (fun hl => lv_aload_n X.1 X.2.1 d_Cells_become_10 rfl (lv_at hl 0 rfl)) ?_
      refine V.get (pc' := 14) X hK gh0 uw_Cells rfl 0 (by decide) (mcs wd_0) rfl d_Cells_become_11 rfl ?_
      refine V.rd (pc' := 15) (fun hl => lv_iload_n X.1 X.2.1 d_Cells_become_14 rfl (lv_at hl 1 rfl)) ?_
      refine V.rd (pc' := 16) (fun hl => lv_lload_n X.1 X.2.1 d_Cells_become_15 rfl (lv_at hl 2 rfl)) ?_
      refine V.last (pc' := 17) X hK 1 gh1 rfl (vin (by omega) (by omega)) d_Cells_become_16 rfl (fun M_7 h_8 fr_9 => ?_)
      have h_10 : M_7 ce = some (.inr (0, [.ref va])) := (fr_9 _ (ne_k gh0 gh1 (i := 0) (j := 100016) rfl rfl (by decide))).trans gh0
      exact V.vret X hr hlk ⟨rfl, (by simp only [sp_Cells_become_va, if_neg c_1, if_neg c_4]; exact h_8), (fun q n0_ => (fr_9 q n0_))⟩ d_Cells_become_17

theorem d_Cells_grow_0 : decode prog_2_method_4_code 0 = .ok (.iload_n 1, 1) := by decide +kernel
theorem d_Cells_grow_1 : decode prog_2_method_4_code 1 = .ok (.ifCond .lt 19, 3) := by decide +kernel
theorem d_Cells_grow_4 : decode prog_2_method_4_code 4 = .ok (.iload_n 1, 1) := by decide +kernel
theorem d_Cells_grow_5 : decode prog_2_method_4_code 5 = .ok (.bipush 16, 2) := by decide +kernel
theorem d_Cells_grow_7 : decode prog_2_method_4_code 7 = .ok (.if_icmp .ge 13, 3) := by decide +kernel
theorem d_Cells_grow_10 : decode prog_2_method_4_code 10 = .ok (.aload_n 0, 1) := by decide +kernel
theorem d_Cells_grow_11 : decode prog_2_method_4_code 11 = .ok (.getfield 9, 3) := by decide +kernel
theorem d_Cells_grow_14 : decode prog_2_method_4_code 14 = .ok (.iload_n 1, 1) := by decide +kernel
theorem d_Cells_grow_15 : decode prog_2_method_4_code 15 = .ok (.dup2, 1) := by decide +kernel
theorem d_Cells_grow_16 : decode prog_2_method_4_code 16 = .ok (.laload, 1) := by decide +kernel
theorem d_Cells_grow_17 : decode prog_2_method_4_code 17 = .ok (.lload_n 2, 1) := by decide +kernel
theorem d_Cells_grow_18 : decode prog_2_method_4_code 18 = .ok (.ladd, 1) := by decide +kernel
theorem d_Cells_grow_19 : decode prog_2_method_4_code 19 = .ok (.lastore, 1) := by decide +kernel
theorem d_Cells_grow_20 : decode prog_2_method_4_code 20 = .ok (.return_, 1) := by decide +kernel

def sp_Cells_grow_va (f : Nat → Int64) (x : Int32) (y : Int64) : Nat → Int64 := if x < 0 then f else if 16 ≤ x then f else vp_updL f x.toNatClampNeg ((f x.toNatClampNeg) + y)
set_option maxHeartbeats 4000000 in
set_option maxRecDepth 100000 in
theorem c_Cells_grow {l : Launch} {H0 : Heap} {D : va_G} {cI cL cQ cB : ClassId} {M : mp} {ce va : Nat} {f : Nat → Int64} {x : Int32} {y : Int64} (gh0 : M ce = some (.inr (0, [.ref va]))) (gh1 : M va = some (.inl (cL, 16, .inr (.inl f)))) : MC l H0 D cls7 (tysOf cI cL cQ cB) NW ({ cls := "PerformRanges$Cells", name := "grow", desc := "(IJ)V" } : Jvm.MethodName) (Cond.code ({ cls := "PerformRanges$Cells", name := "grow", desc := "(IJ)V" } : Jvm.MethodName) prog_2_method_4_code 4 (Option.none : Option Jvm.ClassFile.FieldType) :: GW) ({ frames := 0, cells := 0, slots := 0, locals := 0 }) [.ref ce, .int x, .long y] M (fun v M' => v = none ∧ M' va = some (.inl (cL, 16, .inr (.inl (sp_Cells_grow_va f x y)))) ∧ (∀ q, q ≠ va → M' q = M q)) := by
  refine MC.of (cc := prog_2_method_4_code) (nL := 4) (ret := (Option.none : Option Jvm.ClassFile.FieldType)) (lv := [(0, .ref ce), (1, .int x), (2, .long y)]) (by decide) rfl (Nat.le_of_ble_eq_true rfl) rfl ?_
  intro p e s m below meth c X hr hlk hnm hK
  refine V.rd (pc' := 1) (fun hl => lv_iload_n X.1 X.2.1 d_Cells_grow_0 rfl (lv_at hl 1 rfl)) ?_
  refine V.br (pc' := 4) (tgt := 20) (P := x < 0) (lv_if_lt X.1 X.2.1 d_Cells_grow_1 (by decide)) (fun c_1 => ?_) (fun c_1 => ?_)
  · have i_2 := Int32.lt_iff_toInt_lt.mp c_1
    rw [show (0 : Int32).toInt = 0 from rfl] at i_2
    exact V.vret X hr hlk ⟨rfl, (by simp only [sp_Cells_grow_va, if_pos c_1]; exact gh1), (fun q n0_ => rfl)⟩ d_Cells_grow_20
  · have i_3 := mt Int32.lt_iff_toInt_lt.mpr c_1
    rw [show (0 : Int32).toInt = 0 from rfl] at i_3
    refine V.rd (pc' := 5) (fun hl => lv_iload_n X.1 X.2.1 d_Cells_grow_4 rfl (lv_at hl 1 rfl)) ?_
    refine V.go (pc' := 7) (lv_bipush (v := 16) X.1 X.2.1 d_Cells_grow_5 (by decide)) ?_
    refine V.br (pc' := 10) (tgt := 20) (P := 16 ≤ x) (lv_icmp_ge X.1 X.2.1 d_Cells_grow_7 (by decide)) (fun c_4 => ?_) (fun c_4 => ?_)
    · have i_5 := Int32.le_iff_toInt_le.mp c_4
      rw [show (16 : Int32).toInt = 16 from rfl] at i_5
      exact V.vret X hr hlk ⟨rfl, (by simp only [sp_Cells_grow_va, if_neg c_1, if_pos c_4]; exact gh1), (fun q n0_ => rfl)⟩ d_Cells_grow_20
    · have i_6 := mt Int32.le_iff_toInt_le.mpr c_4
      rw [show (16 : Int32).toInt = 16 from rfl] at i_6
      refine V.rd (pc' := 11) (fun hl => lv_aload_n X.1 X.2.1 d_Cells_grow_10 rfl (lv_at hl 0 rfl)) ?_
      refine V.get (pc' := 14) X hK gh0 uw_Cells rfl 0 (by decide) (mcs wd_0) rfl d_Cells_grow_11 rfl ?_
      refine V.rd (pc' := 15) (fun hl => lv_iload_n X.1 X.2.1 d_Cells_grow_14 rfl (lv_at hl 1 rfl)) ?_
      refine V.go (pc' := 16) (lv_dup2_11 X.1 X.2.1 d_Cells_grow_15 rfl rfl) ?_
      refine V.lald (pc' := 17) X hK 1 gh1 rfl (vin (by omega) (by omega)) d_Cells_grow_16 rfl ?_
      refine V.rd (pc' := 18) (fun hl => lv_lload_n X.1 X.2.1 d_Cells_grow_17 rfl (lv_at hl 2 rfl)) ?_
      refine V.go (pc' := 19) (lv_ladd X.1 X.2.1 d_Cells_grow_18) ?_
      refine V.last (pc' := 20) X hK 1 gh1 rfl (vin (by omega) (by omega)) d_Cells_grow_19 rfl (fun M_7 h_8 fr_9 => ?_)
      have h_10 : M_7 ce = some (.inr (0, [.ref va])) := (fr_9 _ (ne_k gh0 gh1 (i := 0) (j := 100016) rfl rfl (by decide))).trans gh0
      exact V.vret X hr hlk ⟨rfl, (by simp only [sp_Cells_grow_va, if_neg c_1, if_neg c_4]; exact h_8), (fun q n0_ => (fr_9 q n0_))⟩ d_Cells_grow_20

theorem d_PR_isCell_0 : decode prog_1_method_15_code 0 = .ok (.iload_n 0, 1) := by decide +kernel
theorem d_PR_isCell_1 : decode prog_1_method_15_code 1 = .ok (.ifCond .lt 13, 3) := by decide +kernel
theorem d_PR_isCell_4 : decode prog_1_method_15_code 4 = .ok (.iload_n 0, 1) := by decide +kernel
theorem d_PR_isCell_5 : decode prog_1_method_15_code 5 = .ok (.bipush 16, 2) := by decide +kernel
theorem d_PR_isCell_7 : decode prog_1_method_15_code 7 = .ok (.if_icmp .ge 7, 3) := by decide +kernel
theorem d_PR_isCell_10 : decode prog_1_method_15_code 10 = .ok (.iconst 1, 1) := by decide +kernel
theorem d_PR_isCell_11 : decode prog_1_method_15_code 11 = .ok (.goto 4, 3) := by decide +kernel
theorem d_PR_isCell_14 : decode prog_1_method_15_code 14 = .ok (.iconst 0, 1) := by decide +kernel
theorem d_PR_isCell_15 : decode prog_1_method_15_code 15 = .ok (.ireturn, 1) := by decide +kernel

def sp_isCell (x : Int32) : Int32 := if x < 0 then 0 else if 16 ≤ x then 0 else 1
set_option maxHeartbeats 4000000 in
set_option maxRecDepth 100000 in
theorem c_isCell {l : Launch} {H0 : Heap} {D : va_G} {cI cL cQ cB : ClassId} {M : mp} {x : Int32} : MC l H0 D cls7 (tysOf cI cL cQ cB) NW ({ cls := "PerformRanges", name := "isCell", desc := "(I)Z" } : Jvm.MethodName) (Cond.code ({ cls := "PerformRanges", name := "isCell", desc := "(I)Z" } : Jvm.MethodName) prog_1_method_15_code 1 (Option.some Jvm.ClassFile.FieldType.boolean) :: GW) ({ frames := 0, cells := 0, slots := 0, locals := 0 }) [.int x] M (fun v M' => v = some (.int (sp_isCell x)) ∧ M' = M) := by
  refine MC.of (cc := prog_1_method_15_code) (nL := 1) (ret := (Option.some Jvm.ClassFile.FieldType.boolean)) (lv := [(0, .int x)]) (by decide) rfl (Nat.le_of_ble_eq_true rfl) rfl ?_
  intro p e s m below meth c X hr hlk hnm hK
  refine V.rd (pc' := 1) (fun hl => lv_iload_n X.1 X.2.1 d_PR_isCell_0 rfl (lv_at hl 0 rfl)) ?_
  refine V.br (pc' := 4) (tgt := 14) (P := x < 0) (lv_if_lt X.1 X.2.1 d_PR_isCell_1 (by decide)) (fun c_1 => ?_) (fun c_1 => ?_)
  · have i_2 := Int32.lt_iff_toInt_lt.mp c_1
    rw [show (0 : Int32).toInt = 0 from rfl] at i_2
    refine V.go (pc' := 15) (lv_iconst (v := 0) X.1 X.2.1 d_PR_isCell_14 (by decide)) ?_
    exact V.zret X hr hlk rfl ⟨(by simp only [sp_isCell, if_pos c_1]), rfl⟩ d_PR_isCell_15
  · have i_3 := mt Int32.lt_iff_toInt_lt.mpr c_1
    rw [show (0 : Int32).toInt = 0 from rfl] at i_3
    refine V.rd (pc' := 5) (fun hl => lv_iload_n X.1 X.2.1 d_PR_isCell_4 rfl (lv_at hl 0 rfl)) ?_
    refine V.go (pc' := 7) (lv_bipush (v := 16) X.1 X.2.1 d_PR_isCell_5 (by decide)) ?_
    refine V.br (pc' := 10) (tgt := 14) (P := 16 ≤ x) (lv_icmp_ge X.1 X.2.1 d_PR_isCell_7 (by decide)) (fun c_4 => ?_) (fun c_4 => ?_)
    · have i_5 := Int32.le_iff_toInt_le.mp c_4
      rw [show (16 : Int32).toInt = 16 from rfl] at i_5
      refine V.go (pc' := 15) (lv_iconst (v := 0) X.1 X.2.1 d_PR_isCell_14 (by decide)) ?_
      exact V.zret X hr hlk rfl ⟨(by simp only [sp_isCell, if_neg c_1, if_pos c_4]), rfl⟩ d_PR_isCell_15
    · have i_6 := mt Int32.le_iff_toInt_le.mpr c_4
      rw [show (16 : Int32).toInt = 16 from rfl] at i_6
      refine V.go (pc' := 11) (lv_iconst (v := 1) X.1 X.2.1 d_PR_isCell_10 (by decide)) ?_
      refine V.go (pc' := 15) (lv_goto X.1 X.2.1 d_PR_isCell_11 (by decide)) ?_
      exact V.zret X hr hlk rfl ⟨(by simp only [sp_isCell, if_neg c_1, if_neg c_4]), rfl⟩ d_PR_isCell_15
