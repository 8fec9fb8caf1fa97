theorem wd_14 : (Jvm.Cond.fieldLink "PerformRanges$Pile" (24 : Nat) "PerformRanges$Pile" "height" "I") ∈ GW := gw_of (i := 105) (by decide +kernel) (by decide +kernel)
theorem wd_15 : (Jvm.Cond.fieldLink "PerformRanges$Pile" (21 : Nat) "PerformRanges$Pile" "turns" "[I") ∈ GW := gw_of (i := 104) (by decide +kernel) (by decide +kernel)
theorem wd_16 : (Jvm.Cond.fieldLink "PerformRanges$Pile" (17 : Nat) "PerformRanges$Pile" "performers" "[I") ∈ GW := gw_of (i := 103) (by decide +kernel) (by decide +kernel)
theorem d_Pile_clear_0 : decode prog_4_method_2_code 0 = .ok (.aload_n 0, 1) := by decide +kernel
theorem d_Pile_clear_1 : decode prog_4_method_2_code 1 = .ok (.iconst 0, 1) := by decide +kernel
theorem d_Pile_clear_2 : decode prog_4_method_2_code 2 = .ok (.putfield 24, 3) := by decide +kernel
theorem d_Pile_clear_5 : decode prog_4_method_2_code 5 = .ok (.return_, 1) := by decide +kernel

set_option maxHeartbeats 4000000 in
set_option maxRecDepth 100000 in
theorem c_Pile_clear {l : Launch} {H0 : Heap} {D : va_G} {cI cL cQ cB : ClassId} {M : mp} {pi la pe tu : Nat} {hh : Int32} {hi : Int32} (gh0 : M pi = some (.inr (2, [.ref la, .ref pe, .ref tu, .int hh, .int hi]))) : MC l H0 D cls7 (tysOf cI cL cQ cB) NW ({ cls := "PerformRanges$Pile", name := "clear", desc := "()V" } : Jvm.MethodName) (Cond.code ({ cls := "PerformRanges$Pile", name := "clear", desc := "()V" } : Jvm.MethodName) prog_4_method_2_code 1 (Option.none : Option Jvm.ClassFile.FieldType) :: GW) ({ frames := 0, cells := 0, slots := 0, locals := 0 }) [.ref pi] M (fun v M' => v = none ∧ M' pi = some (.inr (2, [.ref la, .ref pe, .ref tu, .int 0, .int hi])) ∧ (∀ q, q ≠ pi → M' q = M q)) := by
  refine MC.of (cc := prog_4_method_2_code) (nL := 1) (ret := (Option.none : Option Jvm.ClassFile.FieldType)) (lv := [(0, .ref pi)]) (by decide) rfl (Nat.le_of_ble_eq_true rfl) rfl ?_
  intro p e s m below meth c X hr hlk hnm hK
  refine V.rd (pc' := 1) (fun hl => lv_aload_n X.1 X.2.1 d_Pile_clear_0 rfl (lv_at hl 0 rfl)) ?_
  refine V.go (pc' := 2) (lv_iconst (v := 0) X.1 X.2.1 d_Pile_clear_1 (by decide)) ?_
  refine V.put (pc' := 5) X hK gh0 uw_Pile t_Pile tok_Pile nm_Pile rfl 3 (by decide) (mcs wd_14) rfl rfl rfl (Nat.le_of_ble_eq_true rfl) (fs' := [.ref la, .ref pe, .ref tu, .int 0, .int hi]) rfl d_Pile_clear_2 rfl (fun M_1 h_2 fr_3 => ?_)
  exact V.vret X hr hlk ⟨rfl, h_2, (fun q n0_ => (fr_3 q n0_))⟩ d_Pile_clear_5

theorem d_Pile_isFull_0 : decode prog_4_method_3_code 0 = .ok (.aload_n 0, 1) := by decide +kernel
theorem d_Pile_isFull_1 : decode prog_4_method_3_code 1 = .ok (.getfield 24, 3) := by decide +kernel
theorem d_Pile_isFull_4 : decode prog_4_method_3_code 4 = .ok (.bipush 100, 2) := by decide +kernel
theorem d_Pile_isFull_6 : decode prog_4_method_3_code 6 = .ok (.if_icmp .lt 7, 3) := by decide +kernel
theorem d_Pile_isFull_9 : decode prog_4_method_3_code 9 = .ok (.iconst 1, 1) := by decide +kernel
theorem d_Pile_isFull_10 : decode prog_4_method_3_code 10 = .ok (.goto 4, 3) := by decide +kernel
theorem d_Pile_isFull_13 : decode prog_4_method_3_code 13 = .ok (.iconst 0, 1) := by decide +kernel
theorem d_Pile_isFull_14 : decode prog_4_method_3_code 14 = .ok (.ireturn, 1) := by decide +kernel

def sp_Pile_isFull (hh : Int32) : Int32 := if hh < 100 then 0 else 1
set_option maxHeartbeats 4000000 in
set_option maxRecDepth 100000 in
theorem c_Pile_isFull {l : Launch} {H0 : Heap} {D : va_G} {cI cL cQ cB : ClassId} {M : mp} {pi la pe tu : Nat} {hh : Int32} {hi : Int32} (gh0 : M pi = some (.inr (2, [.ref la, .ref pe, .ref tu, .int hh, .int hi]))) : MC l H0 D cls7 (tysOf cI cL cQ cB) NW ({ cls := "PerformRanges$Pile", name := "isFull", desc := "()Z" } : Jvm.MethodName) (Cond.code ({ cls := "PerformRanges$Pile", name := "isFull", desc := "()Z" } : Jvm.MethodName) prog_4_method_3_code 1 (Option.some Jvm.ClassFile.FieldType.boolean) :: GW) ({ frames := 0, cells := 0, slots := 0, locals := 0 }) [.ref pi] M (fun v M' => v = some (.int (sp_Pile_isFull hh)) ∧ M' = M) := by
  refine MC.of (cc := prog_4_method_3_code) (nL := 1) (ret := (Option.some Jvm.ClassFile.FieldType.boolean)) (lv := [(0, .ref pi)]) (by decide) rfl (Nat.le_of_ble_eq_true rfl) rfl ?_
  intro p e s m below meth c X hr hlk hnm hK
  refine V.rd (pc' := 1) (fun hl => lv_aload_n X.1 X.2.1 d_Pile_isFull_0 rfl (lv_at hl 0 rfl)) ?_
  refine V.get (pc' := 4) X hK gh0 uw_Pile rfl 3 (by decide) (mcs wd_14) rfl d_Pile_isFull_1 rfl ?_
  refine V.go (pc' := 6) (lv_bipush (v := 100) X.1 X.2.1 d_Pile_isFull_4 (by decide)) ?_
  refine V.br (pc' := 9) (tgt := 13) (P := hh < 100) (lv_icmp_lt X.1 X.2.1 d_Pile_isFull_6 (by decide)) (fun c_1 => ?_) (fun c_1 => ?_)
  · have i_2 := Int32.lt_iff_toInt_lt.mp c_1
    rw [show (100 : Int32).toInt = 100 from rfl] at i_2
    refine V.go (pc' := 14) (lv_iconst (v := 0) X.1 X.2.1 d_Pile_isFull_13 (by decide)) ?_
    exact V.zret X hr hlk rfl ⟨(by simp only [sp_Pile_isFull, if_pos c_1]), rfl⟩ d_Pile_isFull_14
  · have i_3 := mt Int32.lt_iff_toInt_lt.mpr c_1
    rw [show (100 : Int32).toInt = 100 from rfl] at i_3
    refine V.go (pc' := 10) (lv_iconst (v := 1) X.1 X.2.1 d_Pile_isFull_9 (by decide)) ?_
    refine V.go (pc' := 14) (lv_goto X.1 X.2.1 d_Pile_isFull_10 (by decide)) ?_
    exact V.zret X hr hlk rfl ⟨(by simp only [sp_Pile_isFull, if_neg c_1]), rfl⟩ d_Pile_isFull_14

theorem isFull_0 {hh : Int32} (h : sp_Pile_isFull hh = 0) : hh.toInt < 100 := by
  unfold sp_Pile_isFull at h
  have k : (100 : Int32).toInt = 100 := rfl
  by_cases h1 : hh < 100
  · have := Int32.lt_iff_toInt_lt.mp h1
    omega
  · rw [if_neg h1] at h
    cases h

theorem d_Pile_countTurn_0 : decode prog_4_method_6_code 0 = .ok (.aload_n 0, 1) := by decide +kernel
theorem d_Pile_countTurn_1 : decode prog_4_method_6_code 1 = .ok (.getfield 24, 3) := by decide +kernel
theorem d_Pile_countTurn_4 : decode prog_4_method_6_code 4 = .ok (.iconst 1, 1) := by decide +kernel
theorem d_Pile_countTurn_5 : decode prog_4_method_6_code 5 = .ok (.if_icmp .lt 12, 3) := by decide +kernel
theorem d_Pile_countTurn_8 : decode prog_4_method_6_code 8 = .ok (.aload_n 0, 1) := by decide +kernel
theorem d_Pile_countTurn_9 : decode prog_4_method_6_code 9 = .ok (.getfield 24, 3) := by decide +kernel
theorem d_Pile_countTurn_12 : decode prog_4_method_6_code 12 = .ok (.bipush 100, 2) := by decide +kernel
theorem d_Pile_countTurn_14 : decode prog_4_method_6_code 14 = .ok (.if_icmp .le 5, 3) := by decide +kernel
theorem d_Pile_countTurn_17 : decode prog_4_method_6_code 17 = .ok (.iconst 0, 1) := by decide +kernel
theorem d_Pile_countTurn_18 : decode prog_4_method_6_code 18 = .ok (.ireturn, 1) := by decide +kernel
theorem d_Pile_countTurn_19 : decode prog_4_method_6_code 19 = .ok (.aload_n 0, 1) := by decide +kernel
theorem d_Pile_countTurn_20 : decode prog_4_method_6_code 20 = .ok (.getfield 21, 3) := by decide +kernel
theorem d_Pile_countTurn_23 : decode prog_4_method_6_code 23 = .ok (.aload_n 0, 1) := by decide +kernel
theorem d_Pile_countTurn_24 : decode prog_4_method_6_code 24 = .ok (.getfield 24, 3) := by decide +kernel
theorem d_Pile_countTurn_27 : decode prog_4_method_6_code 27 = .ok (.iconst 1, 1) := by decide +kernel
theorem d_Pile_countTurn_28 : decode prog_4_method_6_code 28 = .ok (.isub, 1) := by decide +kernel
theorem d_Pile_countTurn_29 : decode prog_4_method_6_code 29 = .ok (.dup2, 1) := by decide +kernel
theorem d_Pile_countTurn_30 : decode prog_4_method_6_code 30 = .ok (.iaload, 1) := by decide +kernel
theorem d_Pile_countTurn_31 : decode prog_4_method_6_code 31 = .ok (.iconst 1, 1) := by decide +kernel
theorem d_Pile_countTurn_32 : decode prog_4_method_6_code 32 = .ok (.iadd, 1) := by decide +kernel
theorem d_Pile_countTurn_33 : decode prog_4_method_6_code 33 = .ok (.iastore, 1) := by decide +kernel
theorem d_Pile_countTurn_34 : decode prog_4_method_6_code 34 = .ok (.aload_n 0, 1) := by decide +kernel
theorem d_Pile_countTurn_35 : decode prog_4_method_6_code 35 = .ok (.getfield 21, 3) := by decide +kernel
theorem d_Pile_countTurn_38 : decode prog_4_method_6_code 38 = .ok (.aload_n 0, 1) := by decide +kernel
theorem d_Pile_countTurn_39 : decode prog_4_method_6_code 39 = .ok (.getfield 24, 3) := by decide +kernel
theorem d_Pile_countTurn_42 : decode prog_4_method_6_code 42 = .ok (.iconst 1, 1) := by decide +kernel
theorem d_Pile_countTurn_43 : decode prog_4_method_6_code 43 = .ok (.isub, 1) := by decide +kernel
theorem d_Pile_countTurn_44 : decode prog_4_method_6_code 44 = .ok (.iaload, 1) := by decide +kernel
theorem d_Pile_countTurn_45 : decode prog_4_method_6_code 45 = .ok (.ireturn, 1) := by decide +kernel

def sp_Pile_countTurn (hh : Int32) (ud : Nat → Int32) : Int32 := if hh < 1 then 0 else if hh ≤ 100 then (upd ud (hh - 1).toNatClampNeg ((ud (hh - 1).toNatClampNeg) + 1)) (hh - 1).toNatClampNeg else 0
def sp_Pile_countTurn_tu (hh : Int32) (ud : Nat → Int32) : Nat → Int32 := if hh < 1 then ud else if hh ≤ 100 then upd ud (hh - 1).toNatClampNeg ((ud (hh - 1).toNatClampNeg) + 1) else ud
set_option maxHeartbeats 4000000 in
set_option maxRecDepth 100000 in
theorem c_Pile_countTurn {l : Launch} {H0 : Heap} {D : va_G} {cI cL cQ cB : ClassId} {M : mp} {pi la pe tu : Nat} {hh : Int32} {hi : Int32} {ud : Nat → Int32} (gh0 : M pi = some (.inr (2, [.ref la, .ref pe, .ref tu, .int hh, .int hi]))) (gh1 : M tu = some (.inl (cI, 100, .inl ud))) : MC l H0 D cls7 (tysOf cI cL cQ cB) NW ({ cls := "PerformRanges$Pile", name := "countTurn", desc := "()I" } : Jvm.MethodName) (Cond.code ({ cls := "PerformRanges$Pile", name := "countTurn", desc := "()I" } : Jvm.MethodName) prog_4_method_6_code 1 (Option.some Jvm.ClassFile.FieldType.int) :: GW) ({ frames := 0, cells := 0, slots := 0, locals := 0 }) [.ref pi] M (fun v M' => v = some (.int (sp_Pile_countTurn hh ud)) ∧ M' tu = some (.inl (cI, 100, .inl (sp_Pile_countTurn_tu hh ud))) ∧ (∀ q, q ≠ tu → M' q = M q)) := by
  refine MC.of (cc := prog_4_method_6_code) (nL := 1) (ret := (Option.some Jvm.ClassFile.FieldType.int)) (lv := [(0, .ref pi)]) (by decide) rfl (Nat.le_of_ble_eq_true rfl) rfl ?_
  intro p e s m below meth c X hr hlk hnm hK
  refine V.rd (pc' := 1) (fun hl => lv_aload_n X.1 X.2.1 d_Pile_countTurn_0 rfl (lv_at hl 0 rfl)) ?_
  refine V.get (pc' := 4) X hK gh0 uw_Pile rfl 3 (by decide) (mcs wd_14) rfl d_Pile_countTurn_1 rfl ?_
  refine V.go (pc' := 5) (lv_iconst (v := 1) X.1 X.2.1 d_Pile_countTurn_4 (by decide)) ?_
  refine V.br (pc' := 8) (tgt := 17) (P := hh < 1) (lv_icmp_lt X.1 X.2.1 d_Pile_countTurn_5 (by decide)) (fun c_1 => ?_) (fun c_1 => ?_)
  · have i_2 := Int32.lt_iff_toInt_lt.mp c_1
    rw [show (1 : Int32).toInt = 1 from rfl] at i_2
    refine V.go (pc' := 18) (lv_iconst (v := 0) X.1 X.2.1 d_Pile_countTurn_17 (by decide)) ?_
    exact V.iret X hr hlk ⟨(by simp only [sp_Pile_countTurn, if_pos c_1]), (by simp only [sp_Pile_countTurn_tu, if_pos c_1]; exact gh1), (fun q n0_ => rfl)⟩ d_Pile_countTurn_18
  · have i_3 := mt Int32.lt_iff_toInt_lt.mpr c_1
    rw [show (1 : Int32).toInt = 1 from rfl] at i_3
    refine V.rd (pc' := 9) (fun hl => lv_aload_n X.1 X.2.1 d_Pile_countTurn_8 rfl (lv_at hl 0 rfl)) ?_
    refine V.get (pc' := 12) X hK gh0 uw_Pile rfl 3 (by decide) (mcs wd_14) rfl d_Pile_countTurn_9 rfl ?_
    refine V.go (pc' := 14) (lv_bipush (v := 100) X.1 X.2.1 d_Pile_countTurn_12 (by decide)) ?_
    refine V.br (pc' := 17) (tgt := 19) (P := hh ≤ 100) (lv_icmp_le X.1 X.2.1 d_Pile_countTurn_14 (by decide)) (fun c_4 => ?_) (fun c_4 => ?_)
    · have i_5 := Int32.le_iff_toInt_le.mp c_4
      rw [show (100 : Int32).toInt = 100 from rfl] at i_5
      refine V.rd (pc' := 20) (fun hl => lv_aload_n X.1 X.2.1 d_Pile_countTurn_19 rfl (lv_at hl 0 rfl)) ?_
      refine V.get (pc' := 23) X hK gh0 uw_Pile rfl 2 (by decide) (mcs wd_15) rfl d_Pile_countTurn_20 rfl ?_
      refine V.rd (pc' := 24) (fun hl => lv_aload_n X.1 X.2.1 d_Pile_countTurn_23 rfl (lv_at hl 0 rfl)) ?_
      refine V.get (pc' := 27) X hK gh0 uw_Pile rfl 3 (by decide) (mcs wd_14) rfl d_Pile_countTurn_24 rfl ?_
      refine V.go (pc' := 28) (lv_iconst (v := 1) X.1 X.2.1 d_Pile_countTurn_27 (by decide)) ?_
      refine V.go (pc' := 29) (lv_isub X.1 X.2.1 d_Pile_countTurn_28) ?_
      have s_6 : (hh - 1).toInt = hh.toInt - 1 := i32_sub1 (by omega)
      refine V.go (pc' := 30) (lv_dup2_11 X.1 X.2.1 d_Pile_countTurn_29 rfl rfl) ?_
      refine V.iald (pc' := 31) X hK 0 gh1 rfl (vin (by omega) (by omega)) d_Pile_countTurn_30 rfl ?_
      refine V.go (pc' := 32) (lv_iconst (v := 1) X.1 X.2.1 d_Pile_countTurn_31 (by decide)) ?_
      refine V.go (pc' := 33) (lv_iadd X.1 X.2.1 d_Pile_countTurn_32) ?_
      refine V.iast (pc' := 34) X hK 0 gh1 rfl (vin (by omega) (by omega)) d_Pile_countTurn_33 rfl (fun M_7 h_8 fr_9 => ?_)
      have h_10 : M_7 pi = some (.inr (2, [.ref la, .ref pe, .ref tu, .int hh, .int hi])) := (fr_9 _ (ne_k gh0 gh1 (i := 2) (j := 1100) rfl rfl (by decide))).trans gh0
      refine V.rd (pc' := 35) (fun hl => lv_aload_n X.1 X.2.1 d_Pile_countTurn_34 rfl (lv_at hl 0 rfl)) ?_
      refine V.get (pc' := 38) X hK h_10 uw_Pile rfl 2 (by decide) (mcs wd_15) rfl d_Pile_countTurn_35 rfl ?_
      refine V.rd (pc' := 39) (fun hl => lv_aload_n X.1 X.2.1 d_Pile_countTurn_38 rfl (lv_at hl 0 rfl)) ?_
      refine V.get (pc' := 42) X hK h_10 uw_Pile rfl 3 (by decide) (mcs wd_14) rfl d_Pile_countTurn_39 rfl ?_
      refine V.go (pc' := 43) (lv_iconst (v := 1) X.1 X.2.1 d_Pile_countTurn_42 (by decide)) ?_
      refine V.go (pc' := 44) (lv_isub X.1 X.2.1 d_Pile_countTurn_43) ?_
      have s_11 : (hh - 1).toInt = hh.toInt - 1 := i32_sub1 (by omega)
      refine V.iald (pc' := 45) X hK 0 h_8 rfl (vin (by omega) (by omega)) d_Pile_countTurn_44 rfl ?_
      exact V.iret X hr hlk ⟨(by simp only [sp_Pile_countTurn, if_neg c_1, if_pos c_4]), (by simp only [sp_Pile_countTurn_tu, if_neg c_1, if_pos c_4]; exact h_8), (fun q n0_ => (fr_9 q n0_))⟩ d_Pile_countTurn_45
    · have i_12 := mt Int32.le_iff_toInt_le.mpr c_4
      rw [show (100 : Int32).toInt = 100 from rfl] at i_12
      refine V.go (pc' := 18) (lv_iconst (v := 0) X.1 X.2.1 d_Pile_countTurn_17 (by decide)) ?_
      exact V.iret X hr hlk ⟨(by simp only [sp_Pile_countTurn, if_neg c_1, if_neg c_4]), (by simp only [sp_Pile_countTurn_tu, if_neg c_1, if_neg c_4]; exact gh1), (fun q n0_ => rfl)⟩ d_Pile_countTurn_18

theorem d_Pile_takeOff_0 : decode prog_4_method_7_code 0 = .ok (.aload_n 0, 1) := by decide +kernel
theorem d_Pile_takeOff_1 : decode prog_4_method_7_code 1 = .ok (.getfield 24, 3) := by decide +kernel
theorem d_Pile_takeOff_4 : decode prog_4_method_7_code 4 = .ok (.iconst 1, 1) := by decide +kernel
theorem d_Pile_takeOff_5 : decode prog_4_method_7_code 5 = .ok (.if_icmp .lt 12, 3) := by decide +kernel
theorem d_Pile_takeOff_8 : decode prog_4_method_7_code 8 = .ok (.aload_n 0, 1) := by decide +kernel
theorem d_Pile_takeOff_9 : decode prog_4_method_7_code 9 = .ok (.getfield 24, 3) := by decide +kernel
theorem d_Pile_takeOff_12 : decode prog_4_method_7_code 12 = .ok (.bipush 100, 2) := by decide +kernel
theorem d_Pile_takeOff_14 : decode prog_4_method_7_code 14 = .ok (.if_icmp .le 5, 3) := by decide +kernel
theorem d_Pile_takeOff_17 : decode prog_4_method_7_code 17 = .ok (.iconst 0, 1) := by decide +kernel
theorem d_Pile_takeOff_18 : decode prog_4_method_7_code 18 = .ok (.ireturn, 1) := by decide +kernel
theorem d_Pile_takeOff_19 : decode prog_4_method_7_code 19 = .ok (.aload_n 0, 1) := by decide +kernel
theorem d_Pile_takeOff_20 : decode prog_4_method_7_code 20 = .ok (.dup, 1) := by decide +kernel
theorem d_Pile_takeOff_21 : decode prog_4_method_7_code 21 = .ok (.getfield 24, 3) := by decide +kernel
theorem d_Pile_takeOff_24 : decode prog_4_method_7_code 24 = .ok (.iconst 1, 1) := by decide +kernel
theorem d_Pile_takeOff_25 : decode prog_4_method_7_code 25 = .ok (.isub, 1) := by decide +kernel
theorem d_Pile_takeOff_26 : decode prog_4_method_7_code 26 = .ok (.putfield 24, 3) := by decide +kernel
theorem d_Pile_takeOff_29 : decode prog_4_method_7_code 29 = .ok (.aload_n 0, 1) := by decide +kernel
theorem d_Pile_takeOff_30 : decode prog_4_method_7_code 30 = .ok (.getfield 17, 3) := by decide +kernel
theorem d_Pile_takeOff_33 : decode prog_4_method_7_code 33 = .ok (.aload_n 0, 1) := by decide +kernel
theorem d_Pile_takeOff_34 : decode prog_4_method_7_code 34 = .ok (.getfield 24, 3) := by decide +kernel
theorem d_Pile_takeOff_37 : decode prog_4_method_7_code 37 = .ok (.iaload, 1) := by decide +kernel
theorem d_Pile_takeOff_38 : decode prog_4_method_7_code 38 = .ok (.ireturn, 1) := by decide +kernel

def sp_Pile_takeOff (hh : Int32) (pd : Nat → Int32) : Int32 := if hh < 1 then 0 else if hh ≤ 100 then pd (hh - 1).toNatClampNeg else 0
def sp_Pile_takeOff_pi_3 (hh : Int32) : Int32 := if hh < 1 then hh else if hh ≤ 100 then hh - 1 else hh
set_option maxHeartbeats 4000000 in
set_option maxRecDepth 100000 in
theorem c_Pile_takeOff {l : Launch} {H0 : Heap} {D : va_G} {cI cL cQ cB : ClassId} {M : mp} {pi la pe tu : Nat} {hh : Int32} {hi : Int32} {pd : Nat → Int32} (gh0 : M pi = some (.inr (2, [.ref la, .ref pe, .ref tu, .int hh, .int hi]))) (gh1 : M pe = some (.inl (cI, 100, .inl pd))) : MC l H0 D cls7 (tysOf cI cL cQ cB) NW ({ cls := "PerformRanges$Pile", name := "takeOff", desc := "()I" } : Jvm.MethodName) (Cond.code ({ cls := "PerformRanges$Pile", name := "takeOff", desc := "()I" } : Jvm.MethodName) prog_4_method_7_code 1 (Option.some Jvm.ClassFile.FieldType.int) :: GW) ({ frames := 0, cells := 0, slots := 0, locals := 0 }) [.ref pi] M (fun v M' => v = some (.int (sp_Pile_takeOff hh pd)) ∧ M' pi = some (.inr (2, [.ref la, .ref pe, .ref tu, .int (sp_Pile_takeOff_pi_3 hh), .int hi])) ∧ (∀ q, q ≠ pi → M' q = M q)) := by
  refine MC.of (cc := prog_4_method_7_code) (nL := 1) (ret := (Option.some Jvm.ClassFile.FieldType.int)) (lv := [(0, .ref pi)]) (by decide) rfl (Nat.le_of_ble_eq_true rfl) rfl ?_
  intro p e s m below meth c X hr hlk hnm hK
  refine V.rd (pc' := 1) (fun hl => lv_aload_n X.1 X.2.1 d_Pile_takeOff_0 rfl (lv_at hl 0 rfl)) ?_
  refine V.get (pc' := 4) X hK gh0 uw_Pile rfl 3 (by decide) (mcs wd_14) rfl d_Pile_takeOff_1 rfl ?_
  refine V.go (pc' := 5) (lv_iconst (v := 1) X.1 X.2.1 d_Pile_takeOff_4 (by decide)) ?_
  refine V.br (pc' := 8) (tgt := 17) (P := hh < 1) (lv_icmp_lt X.1 X.2.1 d_Pile_takeOff_5 (by decide)) (fun c_1 => ?_) (fun c_1 => ?_)
  · have i_2 := Int32.lt_iff_toInt_lt.mp c_1
    rw [show (1 : Int32).toInt = 1 from rfl] at i_2
    refine V.go (pc' := 18) (lv_iconst (v := 0) X.1 X.2.1 d_Pile_takeOff_17 (by decide)) ?_
    exact V.iret X hr hlk ⟨(by simp only [sp_Pile_takeOff, if_pos c_1]), (by simp only [sp_Pile_takeOff_pi_3, if_pos c_1]; exact gh0), (fun q n0_ => rfl)⟩ d_Pile_takeOff_18
  · have i_3 := mt Int32.lt_iff_toInt_lt.mpr c_1
    rw [show (1 : Int32).toInt = 1 from rfl] at i_3
    refine V.rd (pc' := 9) (fun hl => lv_aload_n X.1 X.2.1 d_Pile_takeOff_8 rfl (lv_at hl 0 rfl)) ?_
    refine V.get (pc' := 12) X hK gh0 uw_Pile rfl 3 (by decide) (mcs wd_14) rfl d_Pile_takeOff_9 rfl ?_
    refine V.go (pc' := 14) (lv_bipush (v := 100) X.1 X.2.1 d_Pile_takeOff_12 (by decide)) ?_
    refine V.br (pc' := 17) (tgt := 19) (P := hh ≤ 100) (lv_icmp_le X.1 X.2.1 d_Pile_takeOff_14 (by decide)) (fun c_4 => ?_) (fun c_4 => ?_)
    · have i_5 := Int32.le_iff_toInt_le.mp c_4
      rw [show (100 : Int32).toInt = 100 from rfl] at i_5
      refine V.rd (pc' := 20) (fun hl => lv_aload_n X.1 X.2.1 d_Pile_takeOff_19 rfl (lv_at hl 0 rfl)) ?_
      refine V.go (pc' := 21) (lv_dup X.1 X.2.1 d_Pile_takeOff_20 rfl) ?_
      refine V.get (pc' := 24) X hK gh0 uw_Pile rfl 3 (by decide) (mcs wd_14) rfl d_Pile_takeOff_21 rfl ?_
      refine V.go (pc' := 25) (lv_iconst (v := 1) X.1 X.2.1 d_Pile_takeOff_24 (by decide)) ?_
      refine V.go (pc' := 26) (lv_isub X.1 X.2.1 d_Pile_takeOff_25) ?_
      have s_6 : (hh - 1).toInt = hh.toInt - 1 := i32_sub1 (by omega)
      refine V.put (pc' := 29) X hK gh0 uw_Pile t_Pile tok_Pile nm_Pile rfl 3 (by decide) (mcs wd_14) rfl rfl rfl (Nat.le_of_ble_eq_true rfl) (fs' := [.ref la, .ref pe, .ref tu, .int (hh - 1), .int hi]) rfl d_Pile_takeOff_26 rfl (fun M_7 h_8 fr_9 => ?_)
      have h_10 : M_7 pe = some (.inl (cI, 100, .inl pd)) := (fr_9 _ (ne_k gh1 gh0 (i := 1100) (j := 2) rfl rfl (by decide))).trans gh1
      refine V.rd (pc' := 30) (fun hl => lv_aload_n X.1 X.2.1 d_Pile_takeOff_29 rfl (lv_at hl 0 rfl)) ?_
      refine V.get (pc' := 33) X hK h_8 uw_Pile rfl 1 (by decide) (mcs wd_16) rfl d_Pile_takeOff_30 rfl ?_
      refine V.rd (pc' := 34) (fun hl => lv_aload_n X.1 X.2.1 d_Pile_takeOff_33 rfl (lv_at hl 0 rfl)) ?_
      refine V.get (pc' := 37) X hK h_8 uw_Pile rfl 3 (by decide) (mcs wd_14) rfl d_Pile_takeOff_34 rfl ?_
      refine V.iald (pc' := 38) X hK 0 h_10 rfl (vin (by omega) (by omega)) d_Pile_takeOff_37 rfl ?_
      exact V.iret X hr hlk ⟨(by simp only [sp_Pile_takeOff, if_neg c_1, if_pos c_4]), (by simp only [sp_Pile_takeOff_pi_3, if_neg c_1, if_pos c_4]; exact h_8), (fun q n0_ => (fr_9 q n0_))⟩ d_Pile_takeOff_38
    · have i_11 := mt Int32.le_iff_toInt_le.mpr c_4
      rw [show (100 : Int32).toInt = 100 from rfl] at i_11
      refine V.go (pc' := 18) (lv_iconst (v := 0) X.1 X.2.1 d_Pile_takeOff_17 (by decide)) ?_
      exact V.iret X hr hlk ⟨(by simp only [sp_Pile_takeOff, if_neg c_1, if_neg c_4]), (by simp only [sp_Pile_takeOff_pi_3, if_neg c_1, if_neg c_4]; exact gh0), (fun q n0_ => rfl)⟩ d_Pile_takeOff_18
