-- ===== PART A: goes FIRST, ahead of the names: the tables' words, and 'selects' of the private methods out of them =====
/-- a private method of a class that the tables say can be made, by its rows of tables_1 -/
def lw_okq (q : MethodName × Nat) : Prop := (q.1.cls ≠ "java/lang/invoke/MethodHandle" ∧ q.1.cls ≠ "java/lang/invoke/VarHandle") ∧ Cond.instantiable q.1.cls q.2 ∈ tables_1 ∧ Cond.privateMethod q.1 ∈ tables_1 ∧ Cond.instanceMethod q.1 ∈ tables_1
theorem lw_p0 : lw_okq (⟨"PerformRanges", "canBeRun", "(IJ)Z"⟩, 3) := ⟨⟨by decide +kernel, by decide +kernel⟩, List.mem_of_getElem? (i := 14) (by decide +kernel), List.mem_of_getElem? (i := 233) (by decide +kernel), List.mem_of_getElem? (i := 234) (by decide +kernel)⟩
theorem lw_p1 : lw_okq (⟨"PerformRanges$Course", "performing", "(II)I"⟩, 6) := ⟨⟨by decide +kernel, by decide +kernel⟩, List.mem_of_getElem? (i := 49) (by decide +kernel), List.mem_of_getElem? (i := 255) (by decide +kernel), List.mem_of_getElem? (i := 256) (by decide +kernel)⟩
theorem lw_p2 : lw_okq (⟨"PerformRanges$Course", "end", "(I)I"⟩, 6) := ⟨⟨by decide +kernel, by decide +kernel⟩, List.mem_of_getElem? (i := 49) (by decide +kernel), List.mem_of_getElem? (i := 260) (by decide +kernel), List.mem_of_getElem? (i := 261) (by decide +kernel)⟩
theorem lw_p3 : lw_okq (⟨"PerformRanges$Statement", "holds", "(ILPerformRanges$Cells;)Z"⟩, 12) := ⟨⟨by decide +kernel, by decide +kernel⟩, List.mem_of_getElem? (i := 143) (by decide +kernel), List.mem_of_getElem? (i := 278) (by decide +kernel), List.mem_of_getElem? (i := 279) (by decide +kernel)⟩
theorem lw_p4 : lw_okq (⟨"PerformRanges$Statement", "takeFirstValues", "(ILPerformRanges$Cells;)V"⟩, 12) := ⟨⟨by decide +kernel, by decide +kernel⟩, List.mem_of_getElem? (i := 143) (by decide +kernel), List.mem_of_getElem? (i := 286) (by decide +kernel), List.mem_of_getElem? (i := 287) (by decide +kernel)⟩
theorem lw_p5 : lw_okq (⟨"PerformRanges$Statement", "findsTurn", "(LPerformRanges$Cells;)Z"⟩, 12) := ⟨⟨by decide +kernel, by decide +kernel⟩, List.mem_of_getElem? (i := 143) (by decide +kernel), List.mem_of_getElem? (i := 294) (by decide +kernel), List.mem_of_getElem? (i := 295) (by decide +kernel)⟩
theorem lw_p6 : lw_okq (⟨"PerformRanges$Statement", "firstLevelThatHolds", "(LPerformRanges$Cells;)I"⟩, 12) := ⟨⟨by decide +kernel, by decide +kernel⟩, List.mem_of_getElem? (i := 143) (by decide +kernel), List.mem_of_getElem? (i := 298) (by decide +kernel), List.mem_of_getElem? (i := 299) (by decide +kernel)⟩
theorem lw_p7 : lw_okq (⟨"PerformRanges$Statement", "takeStep", "(ILPerformRanges$Cells;)V"⟩, 12) := ⟨⟨by decide +kernel, by decide +kernel⟩, List.mem_of_getElem? (i := 143) (by decide +kernel), List.mem_of_getElem? (i := 302) (by decide +kernel), List.mem_of_getElem? (i := 303) (by decide +kernel)⟩
theorem lw_p8 : lw_okq (⟨"PerformRanges$Course", "note", "(II)V"⟩, 6) := ⟨⟨by decide +kernel, by decide +kernel⟩, List.mem_of_getElem? (i := 49) (by decide +kernel), List.mem_of_getElem? (i := 314) (by decide +kernel), List.mem_of_getElem? (i := 315) (by decide +kernel)⟩
theorem lw_p9 : lw_okq (⟨"PerformRanges$Course", "doing", "(I)I"⟩, 6) := ⟨⟨by decide +kernel, by decide +kernel⟩, List.mem_of_getElem? (i := 49) (by decide +kernel), List.mem_of_getElem? (i := 326) (by decide +kernel), List.mem_of_getElem? (i := 327) (by decide +kernel)⟩
theorem lw_p10 : lw_okq (⟨"PerformRanges$Course", "going", "(I)I"⟩, 6) := ⟨⟨by decide +kernel, by decide +kernel⟩, List.mem_of_getElem? (i := 49) (by decide +kernel), List.mem_of_getElem? (i := 332) (by decide +kernel), List.mem_of_getElem? (i := 333) (by decide +kernel)⟩
theorem lw_p11 : lw_okq (⟨"PerformRanges$Course", "behindDoing", "(I)I"⟩, 6) := ⟨⟨by decide +kernel, by decide +kernel⟩, List.mem_of_getElem? (i := 49) (by decide +kernel), List.mem_of_getElem? (i := 339) (by decide +kernel), List.mem_of_getElem? (i := 340) (by decide +kernel)⟩
theorem lw_p12 : lw_okq (⟨"PerformRanges$Course", "falling", "(I)I"⟩, 6) := ⟨⟨by decide +kernel, by decide +kernel⟩, List.mem_of_getElem? (i := 49) (by decide +kernel), List.mem_of_getElem? (i := 351) (by decide +kernel), List.mem_of_getElem? (i := 352) (by decide +kernel)⟩
theorem lw_p13 : lw_okq (⟨"PerformRanges$Statement", "stepsLastOpenLevel", "(LPerformRanges$Cells;)Z"⟩, 12) := ⟨⟨by decide +kernel, by decide +kernel⟩, List.mem_of_getElem? (i := 143) (by decide +kernel), List.mem_of_getElem? (i := 363) (by decide +kernel), List.mem_of_getElem? (i := 364) (by decide +kernel)⟩
theorem lw_p14 : lw_okq (⟨"java/lang/Throwable", "fillInStackTrace", "(I)Ljava/lang/Throwable;"⟩, 6) := ⟨⟨by decide +kernel, by decide +kernel⟩, List.mem_of_getElem? (i := 439) (by decide +kernel), List.mem_of_getElem? (i := 437) (by decide +kernel), List.mem_of_getElem? (i := 438) (by decide +kernel)⟩
theorem lw_p15 : lw_okq (⟨"PerformRangesModel", "isParagraph", "(I)Z"⟩, 33) := ⟨⟨by decide +kernel, by decide +kernel⟩, List.mem_of_getElem? (i := 478) (by decide +kernel), List.mem_of_getElem? (i := 597) (by decide +kernel), List.mem_of_getElem? (i := 598) (by decide +kernel)⟩
def lw_privs_1 : List (MethodName × Nat) := [(⟨"PerformRanges", "canBeRun", "(IJ)Z"⟩, 3), (⟨"PerformRanges$Course", "performing", "(II)I"⟩, 6), (⟨"PerformRanges$Course", "end", "(I)I"⟩, 6), (⟨"PerformRanges$Statement", "holds", "(ILPerformRanges$Cells;)Z"⟩, 12), (⟨"PerformRanges$Statement", "takeFirstValues", "(ILPerformRanges$Cells;)V"⟩, 12), (⟨"PerformRanges$Statement", "findsTurn", "(LPerformRanges$Cells;)Z"⟩, 12), (⟨"PerformRanges$Statement", "firstLevelThatHolds", "(LPerformRanges$Cells;)I"⟩, 12), (⟨"PerformRanges$Statement", "takeStep", "(ILPerformRanges$Cells;)V"⟩, 12), (⟨"PerformRanges$Course", "note", "(II)V"⟩, 6), (⟨"PerformRanges$Course", "doing", "(I)I"⟩, 6), (⟨"PerformRanges$Course", "going", "(I)I"⟩, 6), (⟨"PerformRanges$Course", "behindDoing", "(I)I"⟩, 6), (⟨"PerformRanges$Course", "falling", "(I)I"⟩, 6), (⟨"PerformRanges$Statement", "stepsLastOpenLevel", "(LPerformRanges$Cells;)Z"⟩, 12), (⟨"java/lang/Throwable", "fillInStackTrace", "(I)Ljava/lang/Throwable;"⟩, 6), (⟨"PerformRangesModel", "isParagraph", "(I)Z"⟩, 33)]
theorem lw_r1 : ∀ q ∈ lw_privs_1, lw_okq q := List.forall_mem_cons.mpr ⟨lw_p0, List.forall_mem_cons.mpr ⟨lw_p1, List.forall_mem_cons.mpr ⟨lw_p2, List.forall_mem_cons.mpr ⟨lw_p3, List.forall_mem_cons.mpr ⟨lw_p4, List.forall_mem_cons.mpr ⟨lw_p5, List.forall_mem_cons.mpr ⟨lw_p6, List.forall_mem_cons.mpr ⟨lw_p7, List.forall_mem_cons.mpr ⟨lw_p8, List.forall_mem_cons.mpr ⟨lw_p9, List.forall_mem_cons.mpr ⟨lw_p10, List.forall_mem_cons.mpr ⟨lw_p11, List.forall_mem_cons.mpr ⟨lw_p12, List.forall_mem_cons.mpr ⟨lw_p13, List.forall_mem_cons.mpr ⟨lw_p14, List.forall_mem_cons.mpr ⟨lw_p15, fun _ h => absurd h List.not_mem_nil⟩⟩⟩⟩⟩⟩⟩⟩⟩⟩⟩⟩⟩⟩⟩⟩
theorem lw_p16 : lw_okq (⟨"PerformRangesModel", "isStatement", "(I)Z"⟩, 33) := ⟨⟨by decide +kernel, by decide +kernel⟩, List.mem_of_getElem? (i := 478) (by decide +kernel), List.mem_of_getElem? (i := 605) (by decide +kernel), List.mem_of_getElem? (i := 606) (by decide +kernel)⟩
theorem lw_p17 : lw_okq (⟨"PerformRangesModel", "isRun", "(IJ)Z"⟩, 33) := ⟨⟨by decide +kernel, by decide +kernel⟩, List.mem_of_getElem? (i := 478) (by decide +kernel), List.mem_of_getElem? (i := 624) (by decide +kernel), List.mem_of_getElem? (i := 625) (by decide +kernel)⟩
theorem lw_p18 : lw_okq (⟨"PerformRangesModel", "isWhole", "(I)Z"⟩, 33) := ⟨⟨by decide +kernel, by decide +kernel⟩, List.mem_of_getElem? (i := 478) (by decide +kernel), List.mem_of_getElem? (i := 628) (by decide +kernel), List.mem_of_getElem? (i := 629) (by decide +kernel)⟩
theorem lw_p19 : lw_okq (⟨"PerformRangesModel", "machine", "(IJ)V"⟩, 33) := ⟨⟨by decide +kernel, by decide +kernel⟩, List.mem_of_getElem? (i := 478) (by decide +kernel), List.mem_of_getElem? (i := 633) (by decide +kernel), List.mem_of_getElem? (i := 634) (by decide +kernel)⟩
theorem lw_p20 : lw_okq (⟨"PerformRangesModel", "enter", "(II)I"⟩, 33) := ⟨⟨by decide +kernel, by decide +kernel⟩, List.mem_of_getElem? (i := 478) (by decide +kernel), List.mem_of_getElem? (i := 637) (by decide +kernel), List.mem_of_getElem? (i := 638) (by decide +kernel)⟩
theorem lw_p21 : lw_okq (⟨"PerformRangesModel", "again", "(Z)I"⟩, 33) := ⟨⟨by decide +kernel, by decide +kernel⟩, List.mem_of_getElem? (i := 478) (by decide +kernel), List.mem_of_getElem? (i := 641) (by decide +kernel), List.mem_of_getElem? (i := 642) (by decide +kernel)⟩
theorem lw_p22 : lw_okq (⟨"PerformRangesModel", "goesAgain", "(Z)Z"⟩, 33) := ⟨⟨by decide +kernel, by decide +kernel⟩, List.mem_of_getElem? (i := 478) (by decide +kernel), List.mem_of_getElem? (i := 645) (by decide +kernel), List.mem_of_getElem? (i := 646) (by decide +kernel)⟩
theorem lw_p23 : lw_okq (⟨"PerformRangesModel", "holds", "(II)Z"⟩, 33) := ⟨⟨by decide +kernel, by decide +kernel⟩, List.mem_of_getElem? (i := 478) (by decide +kernel), List.mem_of_getElem? (i := 649) (by decide +kernel), List.mem_of_getElem? (i := 650) (by decide +kernel)⟩
theorem lw_p24 : lw_okq (⟨"PerformRangesModel", "begin", "(II)V"⟩, 33) := ⟨⟨by decide +kernel, by decide +kernel⟩, List.mem_of_getElem? (i := 478) (by decide +kernel), List.mem_of_getElem? (i := 653) (by decide +kernel), List.mem_of_getElem? (i := 654) (by decide +kernel)⟩
theorem lw_p25 : lw_okq (⟨"PerformRangesModel", "goesBehind", "(I)Z"⟩, 33) := ⟨⟨by decide +kernel, by decide +kernel⟩, List.mem_of_getElem? (i := 478) (by decide +kernel), List.mem_of_getElem? (i := 657) (by decide +kernel), List.mem_of_getElem? (i := 658) (by decide +kernel)⟩
theorem lw_p26 : lw_okq (⟨"PerformRangesModel", "goOn", "(II)V"⟩, 33) := ⟨⟨by decide +kernel, by decide +kernel⟩, List.mem_of_getElem? (i := 478) (by decide +kernel), List.mem_of_getElem? (i := 661) (by decide +kernel), List.mem_of_getElem? (i := 662) (by decide +kernel)⟩
theorem lw_p27 : lw_okq (⟨"PerformRangesModel", "goesAhead", "(I)Z"⟩, 33) := ⟨⟨by decide +kernel, by decide +kernel⟩, List.mem_of_getElem? (i := 478) (by decide +kernel), List.mem_of_getElem? (i := 665) (by decide +kernel), List.mem_of_getElem? (i := 666) (by decide +kernel)⟩
theorem lw_p28 : lw_okq (⟨"PerformRangesModel", "doing", "(I)I"⟩, 33) := ⟨⟨by decide +kernel, by decide +kernel⟩, List.mem_of_getElem? (i := 478) (by decide +kernel), List.mem_of_getElem? (i := 669) (by decide +kernel), List.mem_of_getElem? (i := 670) (by decide +kernel)⟩
theorem lw_p29 : lw_okq (⟨"PerformRangesModel", "behind", "(I)I"⟩, 33) := ⟨⟨by decide +kernel, by decide +kernel⟩, List.mem_of_getElem? (i := 478) (by decide +kernel), List.mem_of_getElem? (i := 673) (by decide +kernel), List.mem_of_getElem? (i := 674) (by decide +kernel)⟩
def lw_privs_2 : List (MethodName × Nat) := [(⟨"PerformRangesModel", "isStatement", "(I)Z"⟩, 33), (⟨"PerformRangesModel", "isRun", "(IJ)Z"⟩, 33), (⟨"PerformRangesModel", "isWhole", "(I)Z"⟩, 33), (⟨"PerformRangesModel", "machine", "(IJ)V"⟩, 33), (⟨"PerformRangesModel", "enter", "(II)I"⟩, 33), (⟨"PerformRangesModel", "again", "(Z)I"⟩, 33), (⟨"PerformRangesModel", "goesAgain", "(Z)Z"⟩, 33), (⟨"PerformRangesModel", "holds", "(II)Z"⟩, 33), (⟨"PerformRangesModel", "begin", "(II)V"⟩, 33), (⟨"PerformRangesModel", "goesBehind", "(I)Z"⟩, 33), (⟨"PerformRangesModel", "goOn", "(II)V"⟩, 33), (⟨"PerformRangesModel", "goesAhead", "(I)Z"⟩, 33), (⟨"PerformRangesModel", "doing", "(I)I"⟩, 33), (⟨"PerformRangesModel", "behind", "(I)I"⟩, 33)]
theorem lw_r2 : ∀ q ∈ lw_privs_2, lw_okq q := List.forall_mem_cons.mpr ⟨lw_p16, List.forall_mem_cons.mpr ⟨lw_p17, List.forall_mem_cons.mpr ⟨lw_p18, List.forall_mem_cons.mpr ⟨lw_p19, List.forall_mem_cons.mpr ⟨lw_p20, List.forall_mem_cons.mpr ⟨lw_p21, List.forall_mem_cons.mpr ⟨lw_p22, List.forall_mem_cons.mpr ⟨lw_p23, List.forall_mem_cons.mpr ⟨lw_p24, List.forall_mem_cons.mpr ⟨lw_p25, List.forall_mem_cons.mpr ⟨lw_p26, List.forall_mem_cons.mpr ⟨lw_p27, List.forall_mem_cons.mpr ⟨lw_p28, List.forall_mem_cons.mpr ⟨lw_p29, fun _ h => absurd h List.not_mem_nil⟩⟩⟩⟩⟩⟩⟩⟩⟩⟩⟩⟩⟩⟩
def lw_privs : List (MethodName × Nat) := lw_privs_1 ++ (lw_privs_2)
def lw_tbl : List Cond := k2_sels lw_privs ++ tables_1
theorem lw_privs_ok : ∀ q ∈ lw_privs, lw_okq q := by
  show ∀ q ∈ lw_privs_1 ++ (lw_privs_2), lw_okq q
  exact List.forall_mem_append.mpr ⟨lw_r1, lw_r2⟩
def R_Cells : String := "PerformRanges$Cells"
def F_Cells : u_T := fun k => match k with
  | _ => ("PerformRanges$Cells", "values", "[J", true)
def t_Cells : Nat → FieldType := fun k => match k with
  | _ => .array .long
theorem nm_Cells : ∀ a, a < 1 → ∀ b, b < 1 → a ≠ b → (F_Cells a).2.1 ≠ (F_Cells b).2.1 := by decide +kernel
theorem tok_Cells : ∀ k, k < 1 → parseFieldDescriptor (F_Cells k).2.2.1 = some (t_Cells k) := by decide +kernel
def R_Course : String := "PerformRanges$Course"
def F_Course : u_T := fun k => match k with
  | 0 => ("PerformRanges$Course", "program", "LPerformRanges$Program;", true)
  | 1 => ("PerformRanges$Course", "cells", "LPerformRanges$Cells;", true)
  | 2 => ("PerformRanges$Course", "pile", "LPerformRanges$Pile;", true)
  | 3 => ("PerformRanges$Course", "ran", "[I", true)
  | 4 => ("PerformRanges$Course", "length", "I", false)
  | _ => ("PerformRanges$Course", "ending", "I", false)
def t_Course : Nat → FieldType := fun k => match k with
  | 0 => .object "PerformRanges$Program"
  | 1 => .object "PerformRanges$Cells"
  | 2 => .object "PerformRanges$Pile"
  | 3 => .array .int
  | 4 => .int
  | _ => .int
theorem nm_Course : ∀ a, a < 6 → ∀ b, b < 6 → a ≠ b → (F_Course a).2.1 ≠ (F_Course b).2.1 := by decide +kernel
theorem tok_Course : ∀ k, k < 6 → parseFieldDescriptor (F_Course k).2.2.1 = some (t_Course k) := by decide +kernel
def R_Pile : String := "PerformRanges$Pile"
def F_Pile : u_T := fun k => match k with
  | 0 => ("PerformRanges$Pile", "laid", "[LPerformRanges$Statement;", true)
  | 1 => ("PerformRanges$Pile", "performers", "[I", true)
  | 2 => ("PerformRanges$Pile", "turns", "[I", true)
  | 3 => ("PerformRanges$Pile", "height", "I", false)
  | _ => ("PerformRanges$Pile", "highest", "I", false)
def t_Pile : Nat → FieldType := fun k => match k with
  | 0 => .array (.object "PerformRanges$Statement")
  | 1 => .array .int
  | 2 => .array .int
  | 3 => .int
  | _ => .int
theorem nm_Pile : ∀ a, a < 5 → ∀ b, b < 5 → a ≠ b → (F_Pile a).2.1 ≠ (F_Pile b).2.1 := by decide +kernel
theorem tok_Pile : ∀ k, k < 5 → parseFieldDescriptor (F_Pile k).2.2.1 = some (t_Pile k) := by decide +kernel
def R_Program : String := "PerformRanges$Program"
def F_Program : u_T := fun k => match k with
  | 0 => ("PerformRanges$Program", "doings", "[I", true)
  | 1 => ("PerformRanges$Program", "goings", "[I", true)
  | 2 => ("PerformRanges$Program", "told", "[LPerformRanges$Statement;", true)
  | 3 => ("PerformRanges$Program", "paragraphs", "I", false)
  | _ => ("PerformRanges$Program", "statements", "I", false)
def t_Program : Nat → FieldType := fun k => match k with
  | 0 => .array .int
  | 1 => .array .int
  | 2 => .array (.object "PerformRanges$Statement")
  | 3 => .int
  | _ => .int
theorem nm_Program : ∀ a, a < 5 → ∀ b, b < 5 → a ≠ b → (F_Program a).2.1 ≠ (F_Program b).2.1 := by decide +kernel
theorem tok_Program : ∀ k, k < 5 → parseFieldDescriptor (F_Program k).2.2.1 = some (t_Program k) := by decide +kernel
def R_Statement : String := "PerformRanges$Statement"
def F_Statement : u_T := fun k => match k with
  | 0 => ("PerformRanges$Statement", "from", "I", true)
  | 1 => ("PerformRanges$Statement", "to", "I", true)
  | 2 => ("PerformRanges$Statement", "kind", "I", true)
  | 3 => ("PerformRanges$Statement", "times", "I", true)
  | 4 => ("PerformRanges$Statement", "askedFirst", "Z", false)
  | 5 => ("PerformRanges$Statement", "conditions", "I", false)
  | 6 => ("PerformRanges$Statement", "levels", "I", false)
  | 7 => ("PerformRanges$Statement", "conditionCells", "[I", true)
  | 8 => ("PerformRanges$Statement", "conditionValues", "[J", true)
  | 9 => ("PerformRanges$Statement", "levelCells", "[I", true)
  | 10 => ("PerformRanges$Statement", "firstValues", "[J", true)
  | _ => ("PerformRanges$Statement", "levelSteps", "[J", true)
def t_Statement : Nat → FieldType := fun k => match k with
  | 0 => .int
  | 1 => .int
  | 2 => .int
  | 3 => .int
  | 4 => .boolean
  | 5 => .int
  | 6 => .int
  | 7 => .array .int
  | 8 => .array .long
  | 9 => .array .int
  | 10 => .array .long
  | _ => .array .long
theorem nm_Statement : ∀ a, a < 12 → ∀ b, b < 12 → a ≠ b → (F_Statement a).2.1 ≠ (F_Statement b).2.1 := by decide +kernel
theorem tok_Statement : ∀ k, k < 12 → parseFieldDescriptor (F_Statement k).2.2.1 = some (t_Statement k) := by decide +kernel
def R_PR : String := "PerformRanges"
def F_PR : u_T := fun k => match k with
  | 0 => ("PerformRanges", "program", "LPerformRanges$Program;", true)
  | 1 => ("PerformRanges", "latest", "LPerformRanges$Course;", true)
  | _ => ("PerformRanges", "trial", "LPerformRanges$Course;", true)
def t_PR : Nat → FieldType := fun k => match k with
  | 0 => .object "PerformRanges$Program"
  | 1 => .object "PerformRanges$Course"
  | _ => .object "PerformRanges$Course"
theorem nm_PR : ∀ a, a < 3 → ∀ b, b < 3 → a ≠ b → (F_PR a).2.1 ≠ (F_PR b).2.1 := by decide +kernel
theorem tok_PR : ∀ k, k < 3 → parseFieldDescriptor (F_PR k).2.2.1 = some (t_PR k) := by decide +kernel
def R_Model : String := "PerformRangesModel"
def F_Model : u_T := fun k => match k with
  | 0 => ("PerformRangesModel", "code", "I", false)
  | 1 => ("PerformRangesModel", "cells", "[J", true)
  | 2 => ("PerformRangesModel", "kept", "[J", true)
  | 3 => ("PerformRangesModel", "paragraphs", "I", false)
  | 4 => ("PerformRangesModel", "statements", "I", false)
  | 5 => ("PerformRangesModel", "does", "[I", true)
  | 6 => ("PerformRangesModel", "gos", "[I", true)
  | 7 => ("PerformRangesModel", "froms", "[I", true)
  | 8 => ("PerformRangesModel", "tos", "[I", true)
  | 9 => ("PerformRangesModel", "kinds", "[I", true)
  | 10 => ("PerformRangesModel", "times", "[I", true)
  | 11 => ("PerformRangesModel", "conditions", "[I", true)
  | 12 => ("PerformRangesModel", "levels", "[I", true)
  | 13 => ("PerformRangesModel", "asksFirst", "[Z", true)
  | 14 => ("PerformRangesModel", "conditionCells", "[I", true)
  | 15 => ("PerformRangesModel", "varied", "[I", true)
  | 16 => ("PerformRangesModel", "least", "[J", true)
  | 17 => ("PerformRangesModel", "first", "[J", true)
  | 18 => ("PerformRangesModel", "step", "[J", true)
  | 19 => ("PerformRangesModel", "pile", "[I", true)
  | 20 => ("PerformRangesModel", "callers", "[I", true)
  | 21 => ("PerformRangesModel", "left", "[I", true)
  | 22 => ("PerformRangesModel", "size", "I", false)
  | 23 => ("PerformRangesModel", "most", "I", false)
  | 24 => ("PerformRangesModel", "ended", "I", false)
  | 25 => ("PerformRangesModel", "ran", "I", false)
  | 26 => ("PerformRangesModel", "order", "[I", true)
  | 27 => ("PerformRangesModel", "lastEnded", "I", false)
  | 28 => ("PerformRangesModel", "lastSize", "I", false)
  | 29 => ("PerformRangesModel", "lastMost", "I", false)
  | 30 => ("PerformRangesModel", "lastRan", "I", false)
  | 31 => ("PerformRangesModel", "lastOrder", "[I", true)
  | _ => ("PerformRangesModel", "lastPile", "[I", true)
def t_Model : Nat → FieldType := fun k => match k with
  | 0 => .int
  | 1 => .array .long
  | 2 => .array .long
  | 3 => .int
  | 4 => .int
  | 5 => .array .int
  | 6 => .array .int
  | 7 => .array .int
  | 8 => .array .int
  | 9 => .array .int
  | 10 => .array .int
  | 11 => .array .int
  | 12 => .array .int
  | 13 => .array .boolean
  | 14 => .array .int
  | 15 => .array .int
  | 16 => .array .long
  | 17 => .array .long
  | 18 => .array .long
  | 19 => .array .int
  | 20 => .array .int
  | 21 => .array .int
  | 22 => .int
  | 23 => .int
  | 24 => .int
  | 25 => .int
  | 26 => .array .int
  | 27 => .int
  | 28 => .int
  | 29 => .int
  | 30 => .int
  | 31 => .array .int
  | _ => .array .int
theorem nm_Model : ∀ a, a < 33 → ∀ b, b < 33 → a ≠ b → (F_Model a).2.1 ≠ (F_Model b).2.1 := by decide +kernel
theorem tok_Model : ∀ k, k < 33 → parseFieldDescriptor (F_Model k).2.2.1 = some (t_Model k) := by decide +kernel
abbrev cls7 : List vw_C := [(R_Cells, F_Cells, 1), (R_Course, F_Course, 6), (R_Pile, F_Pile, 5), (R_Program, F_Program, 5), (R_Statement, F_Statement, 12), (R_PR, F_PR, 3), (R_Model, F_Model, 33)]
abbrev NW : List Cond := [(Jvm.Cond.methodLinkNest "PerformRanges" (9 : Nat) ({ cls := "PerformRanges$Program", name := "<init>", desc := "()V" } : Jvm.MethodName) "PerformRanges"), (Jvm.Cond.arrayOver (Jvm.ClassFile.FieldType.object "PerformRanges$Statement")), (Jvm.Cond.fieldLinkNest "PerformRanges" (123 : Nat) "PerformRanges$Program" "paragraphs" "I" "PerformRanges"), (Jvm.Cond.fieldLinkNest "PerformRanges" (126 : Nat) "PerformRanges$Program" "statements" "I" "PerformRanges"), (Jvm.Cond.methodLinkNest "PerformRanges$Course" (11 : Nat) ({ cls := "PerformRanges$Cells", name := "<init>", desc := "()V" } : Jvm.MethodName) "PerformRanges"), (Jvm.Cond.methodLinkNest "PerformRanges$Course" (20 : Nat) ({ cls := "PerformRanges$Pile", name := "<init>", desc := "()V" } : Jvm.MethodName) "PerformRanges"), (Jvm.Cond.fieldLinkNest "PerformRanges" (117 : Nat) "PerformRanges$Pile" "height" "I" "PerformRanges"), (Jvm.Cond.fieldLinkNest "PerformRanges" (120 : Nat) "PerformRanges$Pile" "highest" "I" "PerformRanges"), (Jvm.Cond.fieldLinkNest "PerformRanges" (76 : Nat) "PerformRanges$Course" "cells" "LPerformRanges$Cells;" "PerformRanges"), (Jvm.Cond.fieldLinkNest "PerformRanges" (89 : Nat) "PerformRanges$Course" "pile" "LPerformRanges$Pile;" "PerformRanges"), (Jvm.Cond.fieldLinkNest "PerformRanges" (113 : Nat) "PerformRanges$Course" "ending" "I" "PerformRanges"), (Jvm.Cond.fieldLinkNest "PerformRanges$Course" (84 : Nat) "PerformRanges$Statement" "from" "I" "PerformRanges"), (Jvm.Cond.fieldLinkNest "PerformRanges$Pile" (41 : Nat) "PerformRanges$Statement" "to" "I" "PerformRanges"), (Jvm.Cond.fieldLinkNest "PerformRanges$Course" (118 : Nat) "PerformRanges$Statement" "to" "I" "PerformRanges")]
def GW : List Cond := lw_tbl.filter goodWord
theorem gw_of {w : Cond} {i : Nat} (h : lw_tbl[i]? = some w) (hg : goodWord w = true) : w ∈ GW := List.mem_filter.mpr ⟨List.mem_of_getElem? h, hg⟩
theorem mcs {x w : Cond} (h : w ∈ GW) : w ∈ x :: GW := List.mem_cons_of_mem _ h
theorem uw0_Cells : (u_ws R_Cells F_Cells 1).all (fun w => decide (w ∈ lw_tbl) && goodWord w) = true := by decide +kernel
theorem uw_Cells {x : Cond} : ∀ w ∈ u_ws R_Cells F_Cells 1, w ∈ x :: GW := fun w h => mcs (by have := List.all_eq_true.mp uw0_Cells w h; simp only [Bool.and_eq_true, decide_eq_true_eq] at this; exact List.mem_filter.mpr this)
theorem uw0_Course : (u_ws R_Course F_Course 6).all (fun w => decide (w ∈ lw_tbl) && goodWord w) = true := by decide +kernel
theorem uw_Course {x : Cond} : ∀ w ∈ u_ws R_Course F_Course 6, w ∈ x :: GW := fun w h => mcs (by have := List.all_eq_true.mp uw0_Course w h; simp only [Bool.and_eq_true, decide_eq_true_eq] at this; exact List.mem_filter.mpr this)
theorem uw0_Pile : (u_ws R_Pile F_Pile 5).all (fun w => decide (w ∈ lw_tbl) && goodWord w) = true := by decide +kernel
theorem uw_Pile {x : Cond} : ∀ w ∈ u_ws R_Pile F_Pile 5, w ∈ x :: GW := fun w h => mcs (by have := List.all_eq_true.mp uw0_Pile w h; simp only [Bool.and_eq_true, decide_eq_true_eq] at this; exact List.mem_filter.mpr this)
theorem uw0_Program : (u_ws R_Program F_Program 5).all (fun w => decide (w ∈ lw_tbl) && goodWord w) = true := by decide +kernel
theorem uw_Program {x : Cond} : ∀ w ∈ u_ws R_Program F_Program 5, w ∈ x :: GW := fun w h => mcs (by have := List.all_eq_true.mp uw0_Program w h; simp only [Bool.and_eq_true, decide_eq_true_eq] at this; exact List.mem_filter.mpr this)
theorem uw0_Statement : (u_ws R_Statement F_Statement 12).all (fun w => decide (w ∈ lw_tbl) && goodWord w) = true := by decide +kernel
theorem uw_Statement {x : Cond} : ∀ w ∈ u_ws R_Statement F_Statement 12, w ∈ x :: GW := fun w h => mcs (by have := List.all_eq_true.mp uw0_Statement w h; simp only [Bool.and_eq_true, decide_eq_true_eq] at this; exact List.mem_filter.mpr this)
theorem uw0_PR : (u_ws R_PR F_PR 3).all (fun w => decide (w ∈ lw_tbl) && goodWord w) = true := by decide +kernel
theorem uw_PR {x : Cond} : ∀ w ∈ u_ws R_PR F_PR 3, w ∈ x :: GW := fun w h => mcs (by have := List.all_eq_true.mp uw0_PR w h; simp only [Bool.and_eq_true, decide_eq_true_eq] at this; exact List.mem_filter.mpr this)
theorem uw0_Model : (u_ws R_Model F_Model 33).all (fun w => decide (w ∈ lw_tbl) && goodWord w) = true := by decide +kernel
theorem uw_Model {x : Cond} : ∀ w ∈ u_ws R_Model F_Model 33, w ∈ x :: GW := fun w h => mcs (by have := List.all_eq_true.mp uw0_Model w h; simp only [Bool.and_eq_true, decide_eq_true_eq] at this; exact List.mem_filter.mpr this)
