section
-- ===== PART A: goes FIRST, ahead of the names: the tables' words, and 'selects' of the private methods out of them =====
/-- a private method of a class that the tables say can be made, by its rows of tables_1 -/
def lw_okq (q : MethodName × Nat) : Prop := (q.1.cls ≠ "java/lang/invoke/MethodHandle" ∧ q.1.cls ≠ "java/lang/invoke/VarHandle") ∧ Cond.instantiable q.1.cls q.2 ∈ tables_1 ∧ Cond.privateMethod q.1 ∈ tables_1 ∧ Cond.instanceMethod q.1 ∈ tables_1
theorem lw_p0 : lw_okq (⟨"PerformRanges", "canBeRun", "(IJ)Z"⟩, 3) := ⟨⟨by decide +kernel, by decide +kernel⟩, List.mem_of_getElem? (i := 14) (by decide +kernel), List.mem_of_getElem? (i := 233) (by decide +kernel), List.mem_of_getElem? (i := 234) (by decide +kernel)⟩
theorem lw_p1 : lw_okq (⟨"PerformRanges$Course", "performing", "(II)I"⟩, 6) := ⟨⟨by decide +kernel, by decide +kernel⟩, List.mem_of_getElem? (i := 49) (by decide +kernel), List.mem_of_getElem? (i := 255) (by decide +kernel), List.mem_of_getElem? (i := 256) (by decide +kernel)⟩
theorem lw_p2 : lw_okq (⟨"PerformRanges$Course", "end", "(I)I"⟩, 6) := ⟨⟨by decide +kernel, by decide +kernel⟩, List.mem_of_getElem? (i := 49) (by decide +kernel), List.mem_of_getElem? (i := 260) (by decide +kernel), List.mem_of_getElem? (i := 261) (by decide +kernel)⟩
theorem lw_p3 : lw_okq (⟨"PerformRanges$Statement", "holds", "(ILPerformRanges$Cells;)Z"⟩, 12) := ⟨⟨by decide +kernel, by decide +kernel⟩, List.mem_of_getElem? (i := 143) (by decide +kernel), List.mem_of_getElem? (i := 278) (by decide +kernel), List.mem_of_getElem? (i := 279) (by decide +kernel)⟩
theorem lw_p4 : lw_okq (⟨"PerformRanges$Statement", "takeFirstValues", "(ILPerformRanges$Cells;)V"⟩, 12) := ⟨⟨by decide +kernel, by decide +kernel⟩, List.mem_of_getElem? (i := 143) (by decide +kernel), List.mem_of_getElem? (i := 286) (by decide +kernel), List.mem_of_getElem? (i := 287) (by decide +kernel)⟩
theorem lw_p5 : lw_okq (⟨"PerformRanges$Statement", "findsTurn", "(LPerformRanges$Cells;)Z"⟩, 12) := ⟨⟨by decide +kernel, by decide +kernel⟩, List.mem_of_getElem? (i := 143) (by decide +kernel), List.mem_of_getElem? (i := 294) (by decide +kernel), List.mem_of_getElem? (i := 295) (by decide +kernel)⟩
theorem lw_p6 : lw_okq (⟨"PerformRanges$Statement", "firstLevelThatHolds", "(LPerformRanges$Cells;)I"⟩, 12) := ⟨⟨by decide +kernel, by decide +kernel⟩, List.mem_of_getElem? (i := 143) (by decide +kernel), List.mem_of_getElem? (i := 298) (by decide +kernel), List.mem_of_getElem? (i := 299) (by decide +kernel)⟩
theorem lw_p7 : lw_okq (⟨"PerformRanges$Statement", "takeStep", "(ILPerformRanges$Cells;)V"⟩, 12) := ⟨⟨by decide +kernel, by decide +kernel⟩, List.mem_of_getElem? (i := 143) (by decide +kernel), List.mem_of_getElem? (i := 302) (by decide +kernel), List.mem_of_getElem? (i := 303) (by decide +kernel)⟩
theorem lw_p8 : lw_okq (⟨"PerformRanges$Course", "note", "(II)V"⟩, 6) := ⟨⟨by decide +kernel, by decide +kernel⟩, List.mem_of_getElem? (i := 49) (by decide +kernel), List.mem_of_getElem? (i := 314) (by decide +kernel), List.mem_of_getElem? (i := 315) (by decide +kernel)⟩
theorem lw_p9 : lw_okq (⟨"PerformRanges$Course", "doing", "(I)I"⟩, 6) := ⟨⟨by decide +kernel, by decide +kernel⟩, List.mem_of_getElem? (i := 49) (by decide +kernel), List.mem_of_getElem? (i := 326) (by decide +kernel), List.mem_of_getElem? (i := 327) (by decide +kernel)⟩
theorem lw_p10 : lw_okq (⟨"PerformRanges$Course", "going", "(I)I"⟩, 6) := ⟨⟨by decide +kernel, by decide +kernel⟩, List.mem_of_getElem? (i := 49) (by decide +kernel), List.mem_of_getElem? (i := 332) (by decide +kernel), List.mem_of_getElem? (i := 333) (by decide +kernel)⟩
theorem lw_p11 : lw_okq (⟨"PerformRanges$Course", "behindDoing", "(I)I"⟩, 6) := ⟨⟨by decide +kernel, by decide +kernel⟩, List.mem_of_getElem? (i := 49) (by decide +kernel), List.mem_of_getElem? (i := 339) (by decide +kernel), List.mem_of_getElem? (i := 340) (by decide +kernel)⟩
theorem lw_p12 : lw_okq (⟨"PerformRanges$Course", "falling", "(I)I"⟩, 6) := ⟨⟨by decide +kernel, by decide +kernel⟩, List.mem_of_getElem? (i := 49) (by decide +kernel), List.mem_of_getElem? (i := 351) (by decide +kernel), List.mem_of_getElem? (i := 352) (by decide +kernel)⟩
theorem lw_p13 : lw_okq (⟨"PerformRanges$Statement", "stepsLastOpenLevel", "(LPerformRanges$Cells;)Z"⟩, 12) := ⟨⟨by decide +kernel, by decide +kernel⟩, List.mem_of_getElem? (i := 143) (by decide +kernel), List.mem_of_getElem? (i := 363) (by decide +kernel), List.mem_of_getElem? (i := 364) (by decide +kernel)⟩
theorem lw_p14 : lw_okq (⟨"java/lang/Throwable", "fillInStackTrace", "(I)Ljava/lang/Throwable;"⟩, 6) := ⟨⟨by decide +kernel, by decide +kernel⟩, List.mem_of_getElem? (i := 439) (by decide +kernel), List.mem_of_getElem? (i := 437) (by decide +kernel), List.mem_of_getElem? (i := 438) (by decide +kernel)⟩
theorem lw_p15 : lw_okq (⟨"PerformRangesModel", "isParagraph", "(I)Z"⟩, 33) := ⟨⟨by decide +kernel, by decide +kernel⟩, List.mem_of_getElem? (i := 478) (by decide +kernel), List.mem_of_getElem? (i := 597) (by decide +kernel), List.mem_of_getElem? (i := 598) (by decide +kernel)⟩
def lw_privs_1 : List (MethodName × Nat) := [(⟨"PerformRanges", "canBeRun", "(IJ)Z"⟩, 3), (⟨"PerformRanges$Course", "performing", "(II)I"⟩, 6), (⟨"PerformRanges$Course", "end", "(I)I"⟩, 6), (⟨"PerformRanges$Statement", "holds", "(ILPerformRanges$Cells;)Z"⟩, 12), (⟨"PerformRanges$Statement", "takeFirstValues", "(ILPerformRanges$Cells;)V"⟩, 12), (⟨"PerformRanges$Statement", "findsTurn", "(LPerformRanges$Cells;)Z"⟩, 12), (⟨"PerformRanges$Statement", "firstLevelThatHolds", "(LPerformRanges$Cells;)I"⟩, 12), (⟨"PerformRanges$Statement", "takeStep", "(ILPerformRanges$Cells;)V"⟩, 12), (⟨"PerformRanges$Course", "note", "(II)V"⟩, 6), (⟨"PerformRanges$Course", "doing", "(I)I"⟩, 6), (⟨"PerformRanges$Course", "going", "(I)I"⟩, 6), (⟨"PerformRanges$Course", "behindDoing", "(I)I"⟩, 6), (⟨"PerformRanges$Course", "falling", "(I)I"⟩, 6), (⟨"PerformRanges$Statement", "stepsLastOpenLevel", "(LPerformRanges$Cells;)Z"⟩, 12), (⟨"java/lang/Throwable", "fillInStackTrace", "(I)Ljava/lang/Throwable;"⟩, 6), (⟨"PerformRangesModel", "isParagraph", "(I)Z"⟩, 33)]
theorem lw_r1 : ∀ q ∈ lw_privs_1, lw_okq q := List.forall_mem_cons.mpr ⟨lw_p0, List.forall_mem_cons.mpr ⟨lw_p1, List.forall_mem_cons.mpr ⟨lw_p2, List.forall_mem_cons.mpr ⟨lw_p3, List.forall_mem_cons.mpr ⟨lw_p4, List.forall_mem_cons.mpr ⟨lw_p5, List.forall_mem_cons.mpr ⟨lw_p6, List.forall_mem_cons.mpr ⟨lw_p7, List.forall_mem_cons.mpr ⟨lw_p8, List.forall_mem_cons.mpr ⟨lw_p9, List.forall_mem_cons.mpr ⟨lw_p10, List.forall_mem_cons.mpr ⟨lw_p11, List.forall_mem_cons.mpr ⟨lw_p12, List.forall_mem_cons.mpr ⟨lw_p13, List.forall_mem_cons.mpr ⟨lw_p14, List.forall_mem_cons.mpr ⟨lw_p15, fun _ h => absurd h List.not_mem_nil⟩⟩⟩⟩⟩⟩⟩⟩⟩⟩⟩⟩⟩⟩⟩⟩
theorem lw_p16 : lw_okq (⟨"PerformRangesModel", "isStatement", "(I)Z"⟩, 33) := ⟨⟨by decide +kernel, by decide +kernel⟩, List.mem_of_getElem? (i := 478) (by decide +kernel), List.mem_of_getElem? (i := 605) (by decide +kernel), List.mem_of_getElem? (i := 606) (by decide +kernel)⟩
theorem lw_p17 : lw_okq (⟨"PerformRangesModel", "isRun", "(IJ)Z"⟩, 33) := ⟨⟨by decide +kernel, by decide +kernel⟩, List.mem_of_getElem? (i := 478) (by decide +kernel), List.mem_of_getElem? (i := 624) (by decide +kernel), List.mem_of_getElem? (i := 625) (by decide +kernel)⟩
theorem lw_p18 : lw_okq (⟨"PerformRangesModel", "isWhole", "(I)Z"⟩, 33) := ⟨⟨by decide +kernel, by decide +kernel⟩, List.mem_of_getElem? (i := 478) (by decide +kernel), List.mem_of_getElem? (i := 628) (by decide +kernel), List.mem_of_getElem? (i := 629) (by decide +kernel)⟩
theorem lw_p19 : lw_okq (⟨"PerformRangesModel", "machine", "(IJ)V"⟩, 33) := ⟨⟨by decide +kernel, by decide +kernel⟩, List.mem_of_getElem? (i := 478) (by decide +kernel), List.mem_of_getElem? (i := 633) (by decide +kernel), List.mem_of_getElem? (i := 634) (by decide +kernel)⟩
theorem lw_p20 : lw_okq (⟨"PerformRangesModel", "enter", "(II)I"⟩, 33) := ⟨⟨by decide +kernel, by decide +kernel⟩, List.mem_of_getElem? (i := 478) (by decide +kernel), List.mem_of_getElem? (i := 637) (by decide +kernel), List.mem_of_getElem? (i := 638) (by decide +kernel)⟩
theorem lw_p21 : lw_okq (⟨"PerformRangesModel", "again", "(Z)I"⟩, 33) := ⟨⟨by decide +kernel, by decide +kernel⟩, List.mem_of_getElem? (i := 478) (by decide +kernel), List.mem_of_getElem? (i := 641) (by decide +kernel), List.mem_of_getElem? (i := 642) (by decide +kernel)⟩
theorem lw_p22 : lw_okq (⟨"PerformRangesModel", "goesAgain", "(Z)Z"⟩, 33) := ⟨⟨by decide +kernel, by decide +kernel⟩, List.mem_of_getElem? (i := 478) (by decide +kernel), List.mem_of_getElem? (i := 645) (by decide +kernel), List.mem_of_getElem? (i := 646) (by decide +kernel)⟩
theorem lw_p23 : lw_okq (⟨"PerformRangesModel", "holds", "(II)Z"⟩, 33) := ⟨⟨by decide +kernel, by decide +kernel⟩, List.mem_of_getElem? (i := 478) (by decide +kernel), List.mem_of_getElem? (i := 649) (by decide +kernel), List.mem_of_getElem? (i := 650) (by decide +kernel)⟩
theorem lw_p24 : lw_okq (⟨"PerformRangesModel", "begin", "(II)V"⟩, 33) := ⟨⟨by decide +kernel, by decide +kernel⟩, List.mem_of_getElem? (i := 478) (by decide +kernel), List.mem_of_getElem? (i := 653) (by decide +kernel), List.mem_of_getElem? (i := 654) (by decide +kernel)⟩
theorem lw_p25 : lw_okq (⟨"PerformRangesModel", "goesBehind", "(I)Z"⟩, 33) := ⟨⟨by decide +kernel, by decide +kernel⟩, List.mem_of_getElem? (i := 478) (by decide +kernel), List.mem_of_getElem? (i := 657) (by decide +kernel), List.mem_of_getElem? (i := 658) (by decide +kernel)⟩
theorem lw_p26 : lw_okq (⟨"PerformRangesModel", "goOn", "(II)V"⟩, 33) := ⟨⟨by decide +kernel, by decide +kernel⟩, List.mem_of_getElem? (i := 478) (by decide +kernel), List.mem_of_getElem? (i := 661) (by decide +kernel), List.mem_of_getElem? (i := 662) (by decide +kernel)⟩
theorem lw_p27 : lw_okq (⟨"PerformRangesModel", "goesAhead", "(I)Z"⟩, 33) := ⟨⟨by decide +kernel, by decide +kernel⟩, List.mem_of_getElem? (i := 478) (by decide +kernel), List.mem_of_getElem? (i := 665) (by decide +kernel), List.mem_of_getElem? (i := 666) (by decide +kernel)⟩
theorem lw_p28 : lw_okq (⟨"PerformRangesModel", "doing", "(I)I"⟩, 33) := ⟨⟨by decide +kernel, by decide +kernel⟩, List.mem_of_getElem? (i := 478) (by decide +kernel), List.mem_of_getElem? (i := 669) (by decide +kernel), List.mem_of_getElem? (i := 670) (by decide +kernel)⟩
theorem lw_p29 : lw_okq (⟨"PerformRangesModel", "behind", "(I)I"⟩, 33) := ⟨⟨by decide +kernel, by decide +kernel⟩, List.mem_of_getElem? (i := 478) (by decide +kernel), List.mem_of_getElem? (i := 673) (by decide +kernel), List.mem_of_getElem? (i := 674) (by decide +kernel)⟩
def lw_privs_2 : List (MethodName × Nat) := [(⟨"PerformRangesModel", "isStatement", "(I)Z"⟩, 33), (⟨"PerformRangesModel", "isRun", "(IJ)Z"⟩, 33), (⟨"PerformRangesModel", "isWhole", "(I)Z"⟩, 33), (⟨"PerformRangesModel", "machine", "(IJ)V"⟩, 33), (⟨"PerformRangesModel", "enter", "(II)I"⟩, 33), (⟨"PerformRangesModel", "again", "(Z)I"⟩, 33), (⟨"PerformRangesModel", "goesAgain", "(Z)Z"⟩, 33), (⟨"PerformRangesModel", "holds", "(II)Z"⟩, 33), (⟨"PerformRangesModel", "begin", "(II)V"⟩, 33), (⟨"PerformRangesModel", "goesBehind", "(I)Z"⟩, 33), (⟨"PerformRangesModel", "goOn", "(II)V"⟩, 33), (⟨"PerformRangesModel", "goesAhead", "(I)Z"⟩, 33), (⟨"PerformRangesModel", "doing", "(I)I"⟩, 33), (⟨"PerformRangesModel", "behind", "(I)I"⟩, 33)]
theorem lw_r2 : ∀ q ∈ lw_privs_2, lw_okq q := List.forall_mem_cons.mpr ⟨lw_p16, List.forall_mem_cons.mpr ⟨lw_p17, List.forall_mem_cons.mpr ⟨lw_p18, List.forall_mem_cons.mpr ⟨lw_p19, List.forall_mem_cons.mpr ⟨lw_p20, List.forall_mem_cons.mpr ⟨lw_p21, List.forall_mem_cons.mpr ⟨lw_p22, List.forall_mem_cons.mpr ⟨lw_p23, List.forall_mem_cons.mpr ⟨lw_p24, List.forall_mem_cons.mpr ⟨lw_p25, List.forall_mem_cons.mpr ⟨lw_p26, List.forall_mem_cons.mpr ⟨lw_p27, List.forall_mem_cons.mpr ⟨lw_p28, List.forall_mem_cons.mpr ⟨lw_p29, fun _ h => absurd h List.not_mem_nil⟩⟩⟩⟩⟩⟩⟩⟩⟩⟩⟩⟩⟩⟩
def lw_privs : List (MethodName × Nat) := lw_privs_1 ++ (lw_privs_2)
def lw_tbl : List Cond := k2_sels lw_privs ++ tables_1
theorem lw_privs_ok : ∀ q ∈ lw_privs, lw_okq q := by
  show ∀ q ∈ lw_privs_1 ++ (lw_privs_2), lw_okq q
  exact List.forall_mem_append.mpr ⟨lw_r1, lw_r2⟩
def R_Cells : String := "PerformRanges$Cells"
def F_Cells : u_T := fun k => match k with
  | _ => ("PerformRanges$Cells", "values", "[J", true)
def t_Cells : Nat → FieldType := fun k => match k with
  | _ => .array .long
theorem nm_Cells : ∀ a, a < 1 → ∀ b, b < 1 → a ≠ b → (F_Cells a).2.1 ≠ (F_Cells b).2.1 := by decide +kernel
theorem tok_Cells : ∀ k, k < 1 → parseFieldDescriptor (F_Cells k).2.2.1 = some (t_Cells k) := by decide +kernel
def R_Course : String := "PerformRanges$Course"
def F_Course : u_T := fun k => match k with
  | 0 => ("PerformRanges$Course", "program", "LPerformRanges$Program;", true)
  | 1 => ("PerformRanges$Course", "cells", "LPerformRanges$Cells;", true)
  | 2 => ("PerformRanges$Course", "pile", "LPerformRanges$Pile;", true)
  | 3 => ("PerformRanges$Course", "ran", "[I", true)
  | 4 => ("PerformRanges$Course", "length", "I", false)
  | _ => ("PerformRanges$Course", "ending", "I", false)
def t_Course : Nat → FieldType := fun k => match k with
  | 0 => .object "PerformRanges$Program"
  | 1 => .object "PerformRanges$Cells"
  | 2 => .object "PerformRanges$Pile"
  | 3 => .array .int
  | 4 => .int
  | _ => .int
theorem nm_Course : ∀ a, a < 6 → ∀ b, b < 6 → a ≠ b → (F_Course a).2.1 ≠ (F_Course b).2.1 := by decide +kernel
theorem tok_Course : ∀ k, k < 6 → parseFieldDescriptor (F_Course k).2.2.1 = some (t_Course k) := by decide +kernel
def R_Pile : String := "PerformRanges$Pile"
def F_Pile : u_T := fun k => match k with
  | 0 => ("PerformRanges$Pile", "laid", "[LPerformRanges$Statement;", true)
  | 1 => ("PerformRanges$Pile", "performers", "[I", true)
  | 2 => ("PerformRanges$Pile", "turns", "[I", true)
  | 3 => ("PerformRanges$Pile", "height", "I", false)
  | _ => ("PerformRanges$Pile", "highest", "I", false)
def t_Pile : Nat → FieldType := fun k => match k with
  | 0 => .array (.object "PerformRanges$Statement")
  | 1 => .array .int
  | 2 => .array .int
  | 3 => .int
  | _ => .int
theorem nm_Pile : ∀ a, a < 5 → ∀ b, b < 5 → a ≠ b → (F_Pile a).2.1 ≠ (F_Pile b).2.1 := by decide +kernel
theorem tok_Pile : ∀ k, k < 5 → parseFieldDescriptor (F_Pile k).2.2.1 = some (t_Pile k) := by decide +kernel
def R_Program : String := "PerformRanges$Program"
def F_Program : u_T := fun k => match k with
  | 0 => ("PerformRanges$Program", "doings", "[I", true)
  | 1 => ("PerformRanges$Program", "goings", "[I", true)
  | 2 => ("PerformRanges$Program", "told", "[LPerformRanges$Statement;", true)
  | 3 => ("PerformRanges$Program", "paragraphs", "I", false)
  | _ => ("PerformRanges$Program", "statements", "I", false)
def t_Program : Nat → FieldType := fun k => match k with
  | 0 => .array .int
  | 1 => .array .int
  | 2 => .array (.object "PerformRanges$Statement")
  | 3 => .int
  | _ => .int
theorem nm_Program : ∀ a, a < 5 → ∀ b, b < 5 → a ≠ b → (F_Program a).2.1 ≠ (F_Program b).2.1 := by decide +kernel
theorem tok_Program : ∀ k, k < 5 → parseFieldDescriptor (F_Program k).2.2.1 = some (t_Program k) := by decide +kernel
def R_Statement : String := "PerformRanges$Statement"
def F_Statement : u_T := fun k => match k with
  | 0 => ("PerformRanges$Statement", "from", "I", true)
  | 1 => ("PerformRanges$Statement", "to", "I", true)
  | 2 => ("PerformRanges$Statement", "kind", "I", true)
  | 3 => ("PerformRanges$Statement", "times", "I", true)
  | 4 => ("PerformRanges$Statement", "askedFirst", "Z", false)
  | 5 => ("PerformRanges$Statement", "conditions", "I", false)
  | 6 => ("PerformRanges$Statement", "levels", "I", false)
  | 7 => ("PerformRanges$Statement", "conditionCells", "[I", true)
  | 8 => ("PerformRanges$Statement", "conditionValues", "[J", true)
  | 9 => ("PerformRanges$Statement", "levelCells", "[I", true)
  | 10 => ("PerformRanges$Statement", "firstValues", "[J", true)
  | _ => ("PerformRanges$Statement", "levelSteps", "[J", true)
def t_Statement : Nat → FieldType := fun k => match k with
  | 0 => .int
  | 1 => .int
  | 2 => .int
  | 3 => .int
  | 4 => .boolean
  | 5 => .int
  | 6 => .int
  | 7 => .array .int
  | 8 => .array .long
  | 9 => .array .int
  | 10 => .array .long
  | _ => .array .long
theorem nm_Statement : ∀ a, a < 12 → ∀ b, b < 12 → a ≠ b → (F_Statement a).2.1 ≠ (F_Statement b).2.1 := by decide +kernel
theorem tok_Statement : ∀ k, k < 12 → parseFieldDescriptor (F_Statement k).2.2.1 = some (t_Statement k) := by decide +kernel
def R_PR : String := "PerformRanges"
def F_PR : u_T := fun k => match k with
  | 0 => ("PerformRanges", "program", "LPerformRanges$Program;", true)
  | 1 => ("PerformRanges", "latest", "LPerformRanges$Course;", true)
  | _ => ("PerformRanges", "trial", "LPerformRanges$Course;", true)
def t_PR : Nat → FieldType := fun k => match k with
  | 0 => .object "PerformRanges$Program"
  | 1 => .object "PerformRanges$Course"
  | _ => .object "PerformRanges$Course"
theorem nm_PR : ∀ a, a < 3 → ∀ b, b < 3 → a ≠ b → (F_PR a).2.1 ≠ (F_PR b).2.1 := by decide +kernel
theorem tok_PR : ∀ k, k < 3 → parseFieldDescriptor (F_PR k).2.2.1 = some (t_PR k) := by decide +kernel
def R_Model : String := "PerformRangesModel"
def F_Model : u_T := fun k => match k with
  | 0 => ("PerformRangesModel", "code", "I", false)
  | 1 => ("PerformRangesModel", "cells", "[J", true)
  | 2 => ("PerformRangesModel", "kept", "[J", true)
  | 3 => ("PerformRangesModel", "paragraphs", "I", false)
  | 4 => ("PerformRangesModel", "statements", "I", false)
  | 5 => ("PerformRangesModel", "does", "[I", true)
  | 6 => ("PerformRangesModel", "gos", "[I", true)
  | 7 => ("PerformRangesModel", "froms", "[I", true)
  | 8 => ("PerformRangesModel", "tos", "[I", true)
  | 9 => ("PerformRangesModel", "kinds", "[I", true)
  | 10 => ("PerformRangesModel", "times", "[I", true)
  | 11 => ("PerformRangesModel", "conditions", "[I", true)
  | 12 => ("PerformRangesModel", "levels", "[I", true)
  | 13 => ("PerformRangesModel", "asksFirst", "[Z", true)
  | 14 => ("PerformRangesModel", "conditionCells", "[I", true)
  | 15 => ("PerformRangesModel", "varied", "[I", true)
  | 16 => ("PerformRangesModel", "least", "[J", true)
  | 17 => ("PerformRangesModel", "first", "[J", true)
  | 18 => ("PerformRangesModel", "step", "[J", true)
  | 19 => ("PerformRangesModel", "pile", "[I", true)
  | 20 => ("PerformRangesModel", "callers", "[I", true)
  | 21 => ("PerformRangesModel", "left", "[I", true)
  | 22 => ("PerformRangesModel", "size", "I", false)
  | 23 => ("PerformRangesModel", "most", "I", false)
  | 24 => ("PerformRangesModel", "ended", "I", false)
  | 25 => ("PerformRangesModel", "ran", "I", false)
  | 26 => ("PerformRangesModel", "order", "[I", true)
  | 27 => ("PerformRangesModel", "lastEnded", "I", false)
  | 28 => ("PerformRangesModel", "lastSize", "I", false)
  | 29 => ("PerformRangesModel", "lastMost", "I", false)
  | 30 => ("PerformRangesModel", "lastRan", "I", false)
  | 31 => ("PerformRangesModel", "lastOrder", "[I", true)
  | _ => ("PerformRangesModel", "lastPile", "[I", true)
def t_Model : Nat → FieldType := fun k => match k with
  | 0 => .int
  | 1 => .array .long
  | 2 => .array .long
  | 3 => .int
  | 4 => .int
  | 5 => .array .int
  | 6 => .array .int
  | 7 => .array .int
  | 8 => .array .int
  | 9 => .array .int
  | 10 => .array .int
  | 11 => .array .int
  | 12 => .array .int
  | 13 => .array .boolean
  | 14 => .array .int
  | 15 => .array .int
  | 16 => .array .long
  | 17 => .array .long
  | 18 => .array .long
  | 19 => .array .int
  | 20 => .array .int
  | 21 => .array .int
  | 22 => .int
  | 23 => .int
  | 24 => .int
  | 25 => .int
  | 26 => .array .int
  | 27 => .int
  | 28 => .int
  | 29 => .int
  | 30 => .int
  | 31 => .array .int
  | _ => .array .int
theorem nm_Model : ∀ a, a < 33 → ∀ b, b < 33 → a ≠ b → (F_Model a).2.1 ≠ (F_Model b).2.1 := by decide +kernel
theorem tok_Model : ∀ k, k < 33 → parseFieldDescriptor (F_Model k).2.2.1 = some (t_Model k) := by decide +kernel
abbrev cls7 : List vw_C := [(R_Cells, F_Cells, 1), (R_Course, F_Course, 6), (R_Pile, F_Pile, 5), (R_Program, F_Program, 5), (R_Statement, F_Statement, 12), (R_PR, F_PR, 3), (R_Model, F_Model, 33)]
abbrev NW : List Cond := [(Jvm.Cond.methodLinkNest "PerformRanges" (9 : Nat) ({ cls := "PerformRanges$Program", name := "<init>", desc := "()V" } : Jvm.MethodName) "PerformRanges"), (Jvm.Cond.arrayOver (Jvm.ClassFile.FieldType.object "PerformRanges$Statement")), (Jvm.Cond.fieldLinkNest "PerformRanges" (123 : Nat) "PerformRanges$Program" "paragraphs" "I" "PerformRanges"), (Jvm.Cond.fieldLinkNest "PerformRanges" (126 : Nat) "PerformRanges$Program" "statements" "I" "PerformRanges"), (Jvm.Cond.methodLinkNest "PerformRanges$Course" (11 : Nat) ({ cls := "PerformRanges$Cells", name := "<init>", desc := "()V" } : Jvm.MethodName) "PerformRanges"), (Jvm.Cond.methodLinkNest "PerformRanges$Course" (20 : Nat) ({ cls := "PerformRanges$Pile", name := "<init>", desc := "()V" } : Jvm.MethodName) "PerformRanges"), (Jvm.Cond.fieldLinkNest "PerformRanges" (117 : Nat) "PerformRanges$Pile" "height" "I" "PerformRanges"), (Jvm.Cond.fieldLinkNest "PerformRanges" (120 : Nat) "PerformRanges$Pile" "highest" "I" "PerformRanges"), (Jvm.Cond.fieldLinkNest "PerformRanges" (76 : Nat) "PerformRanges$Course" "cells" "LPerformRanges$Cells;" "PerformRanges"), (Jvm.Cond.fieldLinkNest "PerformRanges" (89 : Nat) "PerformRanges$Course" "pile" "LPerformRanges$Pile;" "PerformRanges"), (Jvm.Cond.fieldLinkNest "PerformRanges" (113 : Nat) "PerformRanges$Course" "ending" "I" "PerformRanges"), (Jvm.Cond.fieldLinkNest "PerformRanges$Course" (84 : Nat) "PerformRanges$Statement" "from" "I" "PerformRanges"), (Jvm.Cond.fieldLinkNest "PerformRanges$Pile" (41 : Nat) "PerformRanges$Statement" "to" "I" "PerformRanges"), (Jvm.Cond.fieldLinkNest "PerformRanges$Course" (118 : Nat) "PerformRanges$Statement" "to" "I" "PerformRanges")]
def GW : List Cond := lw_tbl.filter goodWord
theorem gw_of {w : Cond} {i : Nat} (h : lw_tbl[i]? = some w) (hg : goodWord w = true) : w ∈ GW := List.mem_filter.mpr ⟨List.mem_of_getElem? h, hg⟩
theorem mcs {x w : Cond} (h : w ∈ GW) : w ∈ x :: GW := List.mem_cons_of_mem _ h
theorem uw0_Cells : (u_ws R_Cells F_Cells 1).all (fun w => decide (w ∈ lw_tbl) && goodWord w) = true := by decide +kernel
theorem uw_Cells {x : Cond} : ∀ w ∈ u_ws R_Cells F_Cells 1, w ∈ x :: GW := fun w h => mcs (by have := List.all_eq_true.mp uw0_Cells w h; simp only [Bool.and_eq_true, decide_eq_true_eq] at this; exact List.mem_filter.mpr this)
theorem uw0_Course : (u_ws R_Course F_Course 6).all (fun w => decide (w ∈ lw_tbl) && goodWord w) = true := by decide +kernel
theorem uw_Course {x : Cond} : ∀ w ∈ u_ws R_Course F_Course 6, w ∈ x :: GW := fun w h => mcs (by have := List.all_eq_true.mp uw0_Course w h; simp only [Bool.and_eq_true, decide_eq_true_eq] at this; exact List.mem_filter.mpr this)
theorem uw0_Pile : (u_ws R_Pile F_Pile 5).all (fun w => decide (w ∈ lw_tbl) && goodWord w) = true := by decide +kernel
theorem uw_Pile {x : Cond} : ∀ w ∈ u_ws R_Pile F_Pile 5, w ∈ x :: GW := fun w h => mcs (by have := List.all_eq_true.mp uw0_Pile w h; simp only [Bool.and_eq_true, decide_eq_true_eq] at this; exact List.mem_filter.mpr this)
theorem uw0_Program : (u_ws R_Program F_Program 5).all (fun w => decide (w ∈ lw_tbl) && goodWord w) = true := by decide +kernel
theorem uw_Program {x : Cond} : ∀ w ∈ u_ws R_Program F_Program 5, w ∈ x :: GW := fun w h => mcs (by have := List.all_eq_true.mp uw0_Program w h; simp only [Bool.and_eq_true, decide_eq_true_eq] at this; exact List.mem_filter.mpr this)
theorem uw0_Statement : (u_ws R_Statement F_Statement 12).all (fun w => decide (w ∈ lw_tbl) && goodWord w) = true := by decide +kernel
theorem uw_Statement {x : Cond} : ∀ w ∈ u_ws R_Statement F_Statement 12, w ∈ x :: GW := fun w h => mcs (by have := List.all_eq_true.mp uw0_Statement w h; simp only [Bool.and_eq_true, decide_eq_true_eq] at this; exact List.mem_filter.mpr this)
theorem uw0_PR : (u_ws R_PR F_PR 3).all (fun w => decide (w ∈ lw_tbl) && goodWord w) = true := by decide +kernel
theorem uw_PR {x : Cond} : ∀ w ∈ u_ws R_PR F_PR 3, w ∈ x :: GW := fun w h => mcs (by have := List.all_eq_true.mp uw0_PR w h; simp only [Bool.and_eq_true, decide_eq_true_eq] at this; exact List.mem_filter.mpr this)
theorem uw0_Model : (u_ws R_Model F_Model 33).all (fun w => decide (w ∈ lw_tbl) && goodWord w) = true := by decide +kernel
theorem uw_Model {x : Cond} : ∀ w ∈ u_ws R_Model F_Model 33, w ∈ x :: GW := fun w h => mcs (by have := List.all_eq_true.mp uw0_Model w h; simp only [Bool.and_eq_true, decide_eq_true_eq] at this; exact List.mem_filter.mpr this)
end
section
/-! MAP WORLDS: what the heap holds is a map from addresses to contents; H0 is the heap as the law found it. -/
abbrev mp : Type := Nat → Option va_E
def hw (H0 : Heap) (D : va_G) (cl : List vw_C) (M : mp) (H : Heap) : Prop :=
  H0.size ≤ H.size ∧ (∀ q : Nat, q < H0.size → H[q]? = H0[q]?) ∧ ∀ (a : Nat) (e : va_E), M a = some e → H0.size ≤ a ∧ va_at D cl (a, e) H
theorem hw.lt {H0 H : Heap} {D : va_G} {cl : List vw_C} {M : mp} (h : hw H0 D cl M H) {a : Nat} {e : va_E} (ha : M a = some e) : a < H.size := ((h.2.2 a e ha).2).lt
theorem hw.one {H0 H : Heap} {D : va_G} {cl : List vw_C} {M : mp} (h : hw H0 D cl M H) {a : Nat} {e : va_E} (ha : M a = some e) : va_P D cl [(a, e)] H := by
  intro k q hk
  have hz : k < 1 := (List.getElem?_eq_some_iff.mp hk).1
  rw [show k = 0 by omega] at hk
  cases hk
  exact (h.2.2 a e ha).2
theorem hw.set {H0 H H1 : Heap} {D : va_G} {cl : List vw_C} {M : mp} (h : hw H0 D cl M H) {a : Nat} {e0 e : va_E} (ha : M a = some e0) (z : H1.size = H.size) (oq : ∀ q : Nat, q ≠ a → H1[q]? = H[q]?) (he : va_at D cl (a, e) H1) : hw H0 D cl (va_up M a (some e)) H1 := by
  have hB := (h.2.2 a e0 ha).1
  refine ⟨by rw [z]; exact h.1, fun q hq => (oq q (by omega)).trans (h.2.1 q hq), fun b x hx => ?_⟩
  by_cases hb : b = a
  · subst hb
    rw [va_up_self] at hx
    cases hx
    exact ⟨hB, he⟩
  · rw [va_up_ne _ _ hb] at hx
    obtain ⟨h1, h2⟩ := h.2.2 b x hx
    exact ⟨h1, h2.kept (oq b hb)⟩
theorem hw.push {H0 H H1 : Heap} {D : va_G} {cl : List vw_C} {M : mp} (h : hw H0 D cl M H) {e : va_E} (z : H1.size = H.size + 1) (oq : ∀ q : Nat, q < H.size → H1[q]? = H[q]?) (he : va_at D cl (H.size, e) H1) : hw H0 D cl (va_up M H.size (some e)) H1 := by
  have hB := h.1
  refine ⟨by omega, fun q hq => (oq q (by omega)).trans (h.2.1 q hq), fun b x hx => ?_⟩
  by_cases hb : b = H.size
  · subst hb
    rw [va_up_self] at hx
    cases hx
    exact ⟨hB, he⟩
  · rw [va_up_ne _ _ hb] at hx
    obtain ⟨h1, h2⟩ := h.2.2 b x hx
    exact ⟨h1, h2.kept (oq b h2.lt)⟩
theorem hw.fresh {H0 H : Heap} {D : va_G} {cl : List vw_C} {M : mp} (h : hw H0 D cl M H) : M H.size = none := by
  cases hm : M H.size with
  | none => rfl
  | some e => exact absurd (h.lt hm) (Nat.lt_irrefl _)
/-- the words that no list of words holds: links among nest mates, arrays over a class -/
def nw_ok (w : Cond) : Bool := match w with
  | .fieldLinkNest _ _ _ _ _ _ => true
  | .methodLinkNest _ _ _ _ => true
  | .arrayOver (.object _) => true
  | _ => false
theorem nw_moved {w : Cond} (hw : nw_ok w = true) {s U : State} (hW : s.WarmedH U.vm) (h : va_Nw w s) : va_Nw w U := by
  cases w with
  | fieldLinkNest a i b n d h9 => exact va_Nw.warmF hW h
  | methodLinkNest a i x h9 => exact va_Nw.warmM hW h
  | arrayOver t =>
    cases t with
    | object C => exact va_AO.moved (C := C) hW.alike h
    | _ => cases hw
  | _ => cases hw
/-- what the tables say: classes, array classes, nest words -/
def KK (D : va_G) (cl : List vw_C) (tys : List (ClassId × FieldType)) (NW : List Cond) (U : State) : Prop := va_K D cl tys U ∧ (∀ w ∈ NW, nw_ok w = true) ∧ ∀ w ∈ NW, va_Nw w U
theorem KK.moved {D : va_G} {cl : List vw_C} {tys : List (ClassId × FieldType)} {NW : List Cond} {s U : State} (hW : s.WarmedH U.vm) (h : KK D cl tys NW s) : KK D cl tys NW U := ⟨va_K.moved hW.alike h.1, h.2.1, fun w hw => nw_moved (h.2.1 w hw) hW (h.2.2 w hw)⟩
def imax (x y : Int32) : Int32 := if x < y then y else x
/-- the walk's judgement over map worlds: from any heap that holds M, any locals that hold lv -/
def V (p : Program) (l : Launch) (e : Env) (R : Room) (s : State) (m : MethodId) (args : Array Value) (below : List Frame) (meth : Method) (c : Code) (H0 : Heap) (D : va_G) (cl : List vw_C) (Q : State → Prop) (nL : Nat) (M : mp) (cells slots : Nat) (pc : Nat) (lv : List (Nat × Value)) (st : List Value) : Prop :=
  ∀ (H : Heap) (locs : List Loc) (ls : Array Slot), hw H0 D cl M H → (∀ q ∈ locs, H0.size ≤ q.base) → lv_has ls nL lv → W p l e R s m args below meth c H locs cells slots Q (F0 m pc ls st)
/-- a method's end over map worlds -/
def Qm (H0 : Heap) (D : va_G) (cl : List vw_C) (post : Option Value → mp → Prop) : Array Value → State → Outcome → State → Prop := fun _ _ o t => ∃ (v : Option Value) (M : mp), o = .returned v ∧ post v M ∧ hw H0 D cl M t.heap
/-- a method's contract over map worlds -/
def MC (l : Launch) (H0 : Heap) (D : va_G) (cl : List vw_C) (tys : List (ClassId × FieldType)) (NW : List Cond) (y : MethodName) (ws : List Cond) (rm : Room) (av : List Value) (M : mp) (post : Option Value → mp → Prop) : Prop :=
  Met l y ws rm (va_Pc av (fun U => hw H0 D cl M U.heap ∧ KK D cl tys NW U)) (Qm H0 D cl post) rm.cells rm.slots (fun q => H0.size ≤ q)
theorem MC.blind {H0 : Heap} {D : va_G} {cl : List vw_C} {tys : List (ClassId × FieldType)} {NW : List Cond} {av : List Value} {M : mp} : FrameBlind (va_Pc av (fun U => hw H0 D cl M U.heap ∧ KK D cl tys NW U)) := fun a U g mk q => by
  obtain ⟨q0, qP, qK⟩ := q
  exact ⟨q0, qP, va_K.moved (u := U) (U := U.calling g mk a) (Vm.Alike.refl U.vm) qK.1, qK.2.1, fun w hw => nw_moved (s := U) (U := U.calling g mk a) (qK.2.1 w hw) (State.WarmedH.refl U) (qK.2.2 w hw)⟩
section VL
variable {p : Program} {l : Launch} {e : Env} {R : Room} {s : State} {m : MethodId} {args : Array Value} {below : List Frame} {meth : Method} {c : Code} {H0 : Heap} {D : va_G} {cl : List vw_C} {tys : List (ClassId × FieldType)} {NW : List Cond} {Q : State → Prop} {nL : Nat} {M : mp} {cells slots pc pc' : Nat} {lv lv' : List (Nat × Value)} {st : List Value} {cc : ByteArray} {own : String} {Ts : List Cond}
theorem MC.of {y : MethodName} {ws ws' : List Cond} {rm : Room} {av : List Value} {post : Option Value → mp → Prop} {ret : Option FieldType} (hy : plainName y.cls = true) (hw1 : ws = Cond.code y cc nL ret :: ws') (hlen : (lg_sl av).length ≤ nL) (hlv : lv_args 0 av = lv)
    (body : ∀ p e s m below meth c, CallFix p m c cc nL s av.toArray ws y.cls → meth.sig.returnType = ret → meth.locks = false → meth.name = y.name → KK D cl tys NW s → V p l e rm s m av.toArray below meth c H0 D cl (MQ below (Qm H0 D cl post) av.toArray s rm.cells rm.slots (fun q => H0.size ≤ q)) nL M 0 0 0 lv []) : MC l H0 D cl tys NW y ws rm av M post := by
  refine Met.ofW (cc := cc) (maxL := nL) (ret := ret) hy hw1 ?_
  intro p e s m args below meth c s₁ B hml hv
  obtain ⟨rfl, hH, hK⟩ := hv
  have hl := lv_entry av (n := nL) hlen
  rw [lg_entry_eq]
  rw [hlv] at hl
  exact body p e s m below meth c ⟨B.exec, B.bytes, hml, findClass_of_methodNamed B.named, atoms_spec (ws := ws) B.pre⟩ B.returns B.notSynchronized (name_of_methodNamed B.named B.method).1 hK s.heap [] _ hH (fun q h => by cases h) hl
/-- lifts: rows that look at neither heap nor locals; rows that read the locals -/
theorem V.go {st' : List Value} (f : ∀ {H : Heap} {locs : List Loc} {ls : Array Slot}, W p l e R s m args below meth c H locs cells slots Q (F0 m pc' ls st') → W p l e R s m args below meth c H locs cells slots Q (F0 m pc ls st)) (k : V p l e R s m args below meth c H0 D cl Q nL M cells slots pc' lv st') : V p l e R s m args below meth c H0 D cl Q nL M cells slots pc lv st :=
  fun H locs ls hH hL hl => f (k H locs ls hH hL hl)
theorem V.rd {st' : List Value} (f : ∀ {H : Heap} {locs : List Loc} {ls : Array Slot}, lv_has ls nL lv → W p l e R s m args below meth c H locs cells slots Q (F0 m pc' ls st') → W p l e R s m args below meth c H locs cells slots Q (F0 m pc ls st)) (k : V p l e R s m args below meth c H0 D cl Q nL M cells slots pc' lv st') : V p l e R s m args below meth c H0 D cl Q nL M cells slots pc lv st :=
  fun H locs ls hH hL hl => f hl (k H locs ls hH hL hl)
/-- fewer locals -/
theorem V.pick (ks : List Nat) (h : lv_pick lv ks = lv') (k : V p l e R s m args below meth c H0 D cl Q nL M cells slots pc lv' st) : V p l e R s m args below meth c H0 D cl Q nL M cells slots pc lv st :=
  fun H locs ls hH hL hl => k H locs ls hH hL (lv_sub hl ks h)
theorem V.widen {k n : Nat} (h1 : cells ≤ k) (h2 : slots ≤ n) (kk : V p l e R s m args below meth c H0 D cl Q nL M k n pc lv st) : V p l e R s m args below meth c H0 D cl Q nL M cells slots pc lv st :=
  fun H locs ls hH hL hl => W.widen h1 h2 (kk H locs ls hH hL hl)
theorem V.cast {M' : mp} (h : M = M') (k : V p l e R s m args below meth c H0 D cl Q nL M' cells slots pc lv st) : V p l e R s m args below meth c H0 D cl Q nL M cells slots pc lv st := h ▸ k
/-- getfield -/
theorem V.get (X : CallFix p m c cc nL s args Ts own) (hK : KK D cl tys NW s) {C : String} {T : u_T} {N ci index a : Nat} {fs : List Value} (ha : M a = some (.inr (ci, fs))) (hin : ∀ w ∈ u_ws C T N, w ∈ Ts) (hc : cl[ci]? = some (C, T, N)) (k : Nat) (hk : k < N) (hlink : Cond.fieldLink own index (T k).1 (T k).2.1 (T k).2.2.1 ∈ Ts) {v : Value} (hv : fs[k]? = some v) (hdg : decode cc pc = .ok (.getfield index, 3)) (hpc : pc + 3 = pc')
    (kk : V p l e R s m args below meth c H0 D cl Q nL M cells slots pc' lv (v :: st)) : V p l e R s m args below meth c H0 D cl Q nL M cells slots pc lv (.ref a :: st) := by
  subst hpc
  intro H locs ls hH hL hl
  exact va_get X.1 X.2.1 X.2.2.2.2 hin X.2.2.2.1 hK.1 (hH.one ha) 0 rfl hc k hk (X.2.2.2.2 _ hlink) (fun _ h9 => h9) hv hdg (kk H locs ls hH hL hl)
/-- getfield of a nest mate's private field -/
theorem V.getN (X : CallFix p m c cc nL s args Ts own) (hK : KK D cl tys NW s) {C host : String} {T : u_T} {N ci index a : Nat} {fs : List Value} (ha : M a = some (.inr (ci, fs))) (hin : ∀ w ∈ u_ws C T N, w ∈ Ts) (hc : cl[ci]? = some (C, T, N)) (k : Nat) (hk : k < N) (hlink : Cond.fieldLinkNest own index (T k).1 (T k).2.1 (T k).2.2.1 host ∈ NW) {v : Value} (hv : fs[k]? = some v) (hdg : decode cc pc = .ok (.getfield index, 3)) (hpc : pc + 3 = pc')
    (kk : V p l e R s m args below meth c H0 D cl Q nL M cells slots pc' lv (v :: st)) : V p l e R s m args below meth c H0 D cl Q nL M cells slots pc lv (.ref a :: st) := by
  subst hpc
  intro H locs ls hH hL hl
  exact va_getN X.1 X.2.1 X.2.2.2.2 hin X.2.2.2.1 hK.1 (hH.one ha) 0 rfl hc k hk (va_Nw.use rfl (hK.2.2 _ hlink)) (fun _ h9 => h9) hv hdg (kk H locs ls hH hL hl)
/-- putfield, not final -/
theorem V.put (X : CallFix p m c cc nL s args Ts own) (hK : KK D cl tys NW s) {C : String} {T : u_T} {N ci index a : Nat} {fs fs' : List Value} (ha : M a = some (.inr (ci, fs))) (hin : ∀ w ∈ u_ws C T N, w ∈ Ts) (ty0 : Nat → FieldType) (hty : ∀ k, k < N → parseFieldDescriptor (T k).2.2.1 = some (ty0 k)) (hnm : ∀ a, a < N → ∀ b, b < N → a ≠ b → (T a).2.1 ≠ (T b).2.1) (hc : cl[ci]? = some (C, T, N)) (k : Nat) (hk : k < N) (hlink : Cond.fieldLink own index (T k).1 (T k).2.1 (T k).2.2.1 ∈ Ts) (hfin : (T k).2.2.2 = false) {v : Value} (hn : narrow (ty0 k) v = v) (hfit : fits (ty0 k) v = true) (hl : k < fs.length) (hfs : fs.set k v = fs') (hdg : decode cc pc = .ok (.putfield index, 3)) (hpc : pc + 3 = pc')
    (kk : ∀ M' : mp, M' a = some (.inr (ci, fs')) → (∀ q, q ≠ a → M' q = M q) → V p l e R s m args below meth c H0 D cl Q nL M' cells slots pc' lv st) : V p l e R s m args below meth c H0 D cl Q nL M cells slots pc lv (v :: .ref a :: st) := by
  subst hpc
  subst hfs
  intro H locs ls hH hL hlv
  have hap := va_apart (own := own) X.2.2.2.2 hin ty0 hty hnm hK.1 hc
  obtain ⟨hB, r, h1, cell, q1, q2, q3, q4⟩ := hH.2.2 a _ ha
  have hr : r = (C, T, N) := Option.some.inj (h1.symm.trans hc)
  subst hr
  obtain ⟨hS, hfc, kC, hkC, hkind⟩ := hK.1.1 ci _ hc
  obtain ⟨cf, kf, fi, f, hi, hsl⟩ := hS k hk
  have hlay := X.2.2.2.2 _ (hin _ (u_in_lay hk))
  unfold u_lay at hlay
  rw [if_neg (by rw [hfin]; decide)] at hlay
  have hst := (u_facts hfc hkC (u_lays X.2.2.2.2 hin hk) hi).1
  have h6 := u_store hfc hkC hkind hlay hi (hty k hk) hn hfit
  refine W.putK X.1 X.2.1 (f := f) ⟨X.2.2.2.1, X.2.2.2.2 _ hlink, ⟨_, _, _, hi⟩, hst⟩ (by rw [q2]; exact h6) q1 q3 (by rw [hsl]; exact k2_hasslot (q4 k hk)) rfl rfl hdg fun H' e1 e2 e3 => ?_
  rw [hsl] at e1 ⊢
  refine kk _ (va_up_self _ _ _) (fun q h => va_up_ne _ _ h) H' _ ls (hH.set ha e2 e3 ⟨_, hc, t_OB.to (V := updV (vp_V fs) k v) ⟨_, e1, q2, q3, t_set q4 hap hk v⟩ (fun j _ => vp_updV_set hl v j)⟩) (fun q hq => ?_) hlv
  rcases List.mem_append.mp hq with h | h
  · exact hL q h
  · rw [List.mem_singleton.mp h]; exact hB
/-- putfield of a final field, in its class's constructor -/
theorem V.putF (X : CallFix p m c cc nL s args Ts own) (hK : KK D cl tys NW s) (hin2 : meth.name = "<init>") {C : String} {T : u_T} {N ci index a : Nat} {fs fs' : List Value} (ha : M a = some (.inr (ci, fs))) (hin : ∀ w ∈ u_ws C T N, w ∈ Ts) (ty0 : Nat → FieldType) (hty : ∀ k, k < N → parseFieldDescriptor (T k).2.2.1 = some (ty0 k)) (hnm : ∀ a, a < N → ∀ b, b < N → a ≠ b → (T a).2.1 ≠ (T b).2.1) (hc : cl[ci]? = some (C, T, N)) (k : Nat) (hk : k < N) (hlink : Cond.fieldLink own index (T k).1 (T k).2.1 (T k).2.2.1 ∈ Ts) (hfin : (T k).2.2.2 = true) (hdecl : (T k).1 = own) {v : Value} (hn : narrow (ty0 k) v = v) (hfit : fits (ty0 k) v = true) (hl : k < fs.length) (hfs : fs.set k v = fs') (hdg : decode cc pc = .ok (.putfield index, 3)) (hpc : pc + 3 = pc')
    (kk : ∀ M' : mp, M' a = some (.inr (ci, fs')) → (∀ q, q ≠ a → M' q = M q) → V p l e R s m args below meth c H0 D cl Q nL M' cells slots pc' lv st) : V p l e R s m args below meth c H0 D cl Q nL M cells slots pc lv (v :: .ref a :: st) := by
  subst hpc
  subst hfs
  intro H locs ls hH hL hlv
  have hap := va_apart (own := own) X.2.2.2.2 hin ty0 hty hnm hK.1 hc
  obtain ⟨hB, r, h1, cell, q1, q2, q3, q4⟩ := hH.2.2 a _ ha
  have hr : r = (C, T, N) := Option.some.inj (h1.symm.trans hc)
  subst hr
  obtain ⟨hS, hfc, kC, hkC, hkind⟩ := hK.1.1 ci _ hc
  obtain ⟨cf, kf, fi, f, hi, hsl⟩ := hS k hk
  have hlay := X.2.2.2.2 _ (hin _ (u_in_lay hk))
  unfold u_lay at hlay
  rw [if_pos hfin] at hlay
  have hst := (u_facts hfc hkC (u_lays X.2.2.2.2 hin hk) hi).1
  have hcf : m.cls = cf := by
    obtain ⟨_, _, c', _, _, _, -, -, hf', -, -, -, hown2, -⟩ := Cond.laysFinal_spec hlay
    have e1 : c' = cf := by have := hi.symm.trans hf'; simp at this; exact this.1.symm
    rw [hdecl] at hown2
    rw [← e1]; exact Option.some.inj (X.2.2.2.1.symm.trans hown2)
  have h6 := u_fits hfc hkC hkind (Or.inr hlay) hi (hty k hk) hn hfit
  refine W.putFinK X.1 X.2.1 X.2.2.2.1 (X.2.2.2.2 _ hlink) hi hst hcf hin2 (by rw [q2]; exact h6) q1 q3 (by rw [hsl]; exact k2_hasslot (q4 k hk)) rfl rfl hdg fun H' e1 e2 e3 => ?_
  rw [hsl] at e1 ⊢
  refine kk _ (va_up_self _ _ _) (fun q h => va_up_ne _ _ h) H' _ ls (hH.set ha e2 e3 ⟨_, hc, t_OB.to (V := updV (vp_V fs) k v) ⟨_, e1, q2, q3, t_set q4 hap hk v⟩ (fun j _ => vp_updV_set hl v j)⟩) (fun q hq => ?_) hlv
  rcases List.mem_append.mp hq with h | h
  · exact hL q h
  · rw [List.mem_singleton.mp h]; exact hB
/-- array reads -/
theorem V.iald (X : CallFix p m c cc nL s args Ts own) (hK : KK D cl tys NW s) (t0 : Nat) {cA : ClassId} {a n : Nat} {f : Nat → Int32} (ha : M a = some (.inl (cA, n, .inl f))) (ht : tys[t0]? = some (cA, .int)) {i : Int32} (hin : vp_in i n) (hdg : decode cc pc = .ok (.iaload, 1)) (hpc : pc + 1 = pc')
    (kk : V p l e R s m args below meth c H0 D cl Q nL M cells slots pc' lv (.int (f i.toNatClampNeg) :: st)) : V p l e R s m args below meth c H0 D cl Q nL M cells slots pc lv (.int i :: .ref a :: st) := by
  subst hpc
  intro H locs ls hH hL hl
  exact va_iald X.1 X.2.1 hK.1 (hH.one ha) 0 t0 rfl ht hin hdg (kk H locs ls hH hL hl)
theorem V.lald (X : CallFix p m c cc nL s args Ts own) (hK : KK D cl tys NW s) (t0 : Nat) {cA : ClassId} {a n : Nat} {f : Nat → Int64} (ha : M a = some (.inl (cA, n, .inr (.inl f)))) (ht : tys[t0]? = some (cA, .long)) {i : Int32} (hin : vp_in i n) (hdg : decode cc pc = .ok (.laload, 1)) (hpc : pc + 1 = pc')
    (kk : V p l e R s m args below meth c H0 D cl Q nL M cells slots pc' lv (.long (f i.toNatClampNeg) :: st)) : V p l e R s m args below meth c H0 D cl Q nL M cells slots pc lv (.int i :: .ref a :: st) := by
  subst hpc
  intro H locs ls hH hL hl
  exact va_lald X.1 X.2.1 hK.1 (hH.one ha) 0 t0 rfl ht hin hdg (kk H locs ls hH hL hl)
theorem V.aald (X : CallFix p m c cc nL s args Ts own) (hK : KK D cl tys NW s) (t0 : Nat) {cA : ClassId} {C : String} {a n : Nat} {f : Nat → Option Nat} (ha : M a = some (.inl (cA, n, .inr (.inr (.inr (.inr f)))))) (ht : tys[t0]? = some (cA, .object C)) {i : Int32} (hin : vp_in i n) (hdg : decode cc pc = .ok (.aaload, 1)) (hpc : pc + 1 = pc')
    (kk : V p l e R s m args below meth c H0 D cl Q nL M cells slots pc' lv (va_rf (f i.toNatClampNeg) :: st)) : V p l e R s m args below meth c H0 D cl Q nL M cells slots pc lv (.int i :: .ref a :: st) := by
  subst hpc
  intro H locs ls hH hL hl
  exact va_aldq X.1 X.2.1 hK.1 (hH.one ha) 0 t0 rfl ht hin hdg (kk H locs ls hH hL hl)
theorem V.alen (X : CallFix p m c cc nL s args Ts own) (hK : KK D cl tys NW s) (t0 : Nat) {cA : ClassId} {a : Nat} {x : vp_A} (ha : M a = some (.inl (cA, x))) {ty : FieldType} (ht : tys[t0]? = some (cA, ty)) {v : Int32} (hv : Int32.ofNat x.1 = v) (hdg : decode cc pc = .ok (.arraylength, 1)) (hpc : pc + 1 = pc')
    (kk : V p l e R s m args below meth c H0 D cl Q nL M cells slots pc' lv (.int v :: st)) : V p l e R s m args below meth c H0 D cl Q nL M cells slots pc lv (.ref a :: st) := by
  subst hpc
  intro H locs ls hH hL hl
  exact va_alen X.1 X.2.1 hK.1 (hH.one ha) 0 t0 rfl ht hv hdg (kk H locs ls hH hL hl)
theorem hL_app {H0 : Heap} {locs : List Loc} {a k : Nat} (hL : ∀ q ∈ locs, H0.size ≤ q.base) (hB : H0.size ≤ a) : ∀ q ∈ locs ++ [(⟨a, k⟩ : Loc)], H0.size ≤ q.base := fun q hq => by
  rcases List.mem_append.mp hq with h | h
  · exact hL q h
  · rw [List.mem_singleton.mp h]; exact hB
/-- array stores -/
theorem V.iast (X : CallFix p m c cc nL s args Ts own) (hK : KK D cl tys NW s) (t0 : Nat) {cA : ClassId} {a n : Nat} {f : Nat → Int32} (ha : M a = some (.inl (cA, n, .inl f))) (ht : tys[t0]? = some (cA, .int)) {i x : Int32} (hin : vp_in i n) (hdg : decode cc pc = .ok (.iastore, 1)) (hpc : pc + 1 = pc')
    (kk : ∀ M' : mp, M' a = some (.inl (cA, n, .inl (upd f i.toNatClampNeg x))) → (∀ q, q ≠ a → M' q = M q) → V p l e R s m args below meth c H0 D cl Q nL M' cells slots pc' lv st) : V p l e R s m args below meth c H0 D cl Q nL M cells slots pc lv (.int x :: .int i :: .ref a :: st) := by
  subst hpc
  intro H locs ls hH hL hl
  obtain ⟨hB, hat⟩ := hH.2.2 a _ ha
  refine W.iast X.1 X.2.1 hat ((hK.1.2 t0 _ ht).1 n (fun j => .int (f j))) (fun q => by cases q) (by show ¬ (i < 0 ∨ (arrV _ _ _).slots.size ≤ _); rw [arrV_size]; exact hin) rfl rfl hdg fun H1 e1 z oq => ?_
  refine kk _ (va_up_self _ _ _) (fun q h => va_up_ne _ _ h) H1 _ ls (hH.set ha z oq ?_) (hL_app hL hB) hl
  show H1[a]? = some (vp_cell _ _)
  rw [e1]
  rw [vp_cell_i, vp_cell_i, arrV_store]
  congr 2
  funext q
  by_cases hq : q = i.toNatClampNeg
  · subst hq
    simp [updV, upd]
  · simp [updV, upd, hq]
theorem V.last (X : CallFix p m c cc nL s args Ts own) (hK : KK D cl tys NW s) (t0 : Nat) {cA : ClassId} {a n : Nat} {f : Nat → Int64} (ha : M a = some (.inl (cA, n, .inr (.inl f)))) (ht : tys[t0]? = some (cA, .long)) {i : Int32} {x : Int64} (hin : vp_in i n) (hdg : decode cc pc = .ok (.lastore, 1)) (hpc : pc + 1 = pc')
    (kk : ∀ M' : mp, M' a = some (.inl (cA, n, .inr (.inl (vp_updL f i.toNatClampNeg x)))) → (∀ q, q ≠ a → M' q = M q) → V p l e R s m args below meth c H0 D cl Q nL M' cells slots pc' lv st) : V p l e R s m args below meth c H0 D cl Q nL M cells slots pc lv (.long x :: .int i :: .ref a :: st) := by
  subst hpc
  intro H locs ls hH hL hl
  obtain ⟨hB, hat⟩ := hH.2.2 a _ ha
  refine W.last X.1 X.2.1 hat ((hK.1.2 t0 _ ht).1 n (fun j => .long (f j))) (fun q => by cases q) (by show ¬ (i < 0 ∨ (arrV _ _ _).slots.size ≤ _); rw [arrV_size]; exact hin) rfl rfl hdg fun H1 e1 z oq => ?_
  refine kk _ (va_up_self _ _ _) (fun q h => va_up_ne _ _ h) H1 _ ls (hH.set ha z oq ?_) (hL_app hL hB) hl
  show H1[a]? = some (vp_cell _ _)
  rw [e1]
  rw [vp_cell_l, vp_cell_l, arrV_store]
  congr 2
  funext q
  by_cases hq : q = i.toNatClampNeg
  · subst hq
    simp [updV, vp_updL]
  · simp [updV, vp_updL, hq]
theorem V.aast (X : CallFix p m c cc nL s args Ts own) (hK : KK D cl tys NW s) (t0 ci : Nat) {cA : ClassId} {r : vw_C} {a n v : Nat} {vs : List Value} {f : Nat → Option Nat} (ha : M a = some (.inl (cA, n, .inr (.inr (.inr (.inr f)))))) (ht : tys[t0]? = some (cA, .object r.1)) (hv : M v = some (.inr (ci, vs))) (hc : cl[ci]? = some r) {i : Int32} (hin : vp_in i n) (hdg : decode cc pc = .ok (.aastore, 1)) (hpc : pc + 1 = pc')
    (kk : ∀ M' : mp, M' a = some (.inl (cA, n, .inr (.inr (.inr (.inr (va_up f i.toNatClampNeg (some v))))))) → (∀ q, q ≠ a → M' q = M q) → V p l e R s m args below meth c H0 D cl Q nL M' cells slots pc' lv st) : V p l e R s m args below meth c H0 D cl Q nL M cells slots pc lv (.ref v :: .int i :: .ref a :: st) := by
  subst hpc
  intro H locs ls hH hL hl
  obtain ⟨hB, hat⟩ := hH.2.2 a _ ha
  have hlt : i.toNatClampNeg < n := Nat.not_le.mp fun q => hin (Or.inr q)
  have h0 : ¬ i < 0 := fun q => hin (Or.inl q)
  obtain ⟨-, r', hr', cellV, g1, g2, g3, -⟩ := hH.2.2 v _ hv
  have hcls := (hK.1.1 ci r hc).2
  obtain ⟨kA, comp, k1, k2, k3, -⟩ := (hK.1.2 t0 _ ht).2
  have hcomp : comp = D.1 ci := Option.some.inj (k3.symm.trans hcls.1)
  subst hcomp
  obtain ⟨kC, hkC, -⟩ := hcls.2
  refine W.aast X.1 X.2.1 hat (fun q h => by cases h) (fun h => by cases h) k1 k2 rfl hkC ⟨h0, by show _ < (arrV _ _ _).slots.size; rw [arrV_size]; exact hlt⟩ g1 (fun q h => by rw [g3] at h; cases h) (by rw [g2]; exact hkC) (by rw [g2]; exact va_assign hcls) rfl rfl hdg fun H1 e1 z oq => ?_
  refine kk _ (va_up_self _ _ _) (fun q h => va_up_ne _ _ h) H1 _ ls (hH.set ha z oq ?_) (hL_app hL hB) hl
  show H1[a]? = some (vp_cell _ _)
  rw [e1]
  rw [vp_cell_q, vp_cell_q, arrV_store]
  congr 2
  funext q
  by_cases hq : q = i.toNatClampNeg
  · subst hq
    simp [updV, va_up, va_rf]
  · simp [updV, va_up, hq]
/-- new -/
theorem V.new (X : CallFix p m c cc nL s args Ts own) (hK : KK D cl tys NW s) {C : String} {T : u_T} {N ci index : Nat} (hin : ∀ w ∈ u_ws C T N, w ∈ Ts) (ty0 : Nat → FieldType) (hty : ∀ k, k < N → parseFieldDescriptor (T k).2.2.1 = some (ty0 k)) (hcl : Cond.classLink own index C ∈ Ts) (hinst : Cond.instantiable C N ∈ Ts) (hini : Cond.initialized C ∈ Ts) (hc : cl[ci]? = some (C, T, N)) {fs : List Value} (hfs : ∀ j, j < N → defaultValue (ty0 j) = vp_V fs j) (hcells : cells + 1 ≤ R.cells) (hslots : slots + N ≤ R.slots) (hdg : decode cc pc = .ok (.new index, 3)) (hpc : pc + 3 = pc')
    (kk : ∀ (q : Nat) (M' : mp), M q = none → M' q = some (.inr (ci, fs)) → (∀ r, r ≠ q → M' r = M r) → V p l e R s m args below meth c H0 D cl Q nL M' (cells + 1) (slots + N) pc' lv (.ref q :: st)) : V p l e R s m args below meth c H0 D cl Q nL M cells slots pc lv st := by
  subst hpc
  intro H locs ls hH hL hl
  have hKn := hK.1.1 ci _ hc
  refine W.newcK X.1 X.2.1 X.2.2.2.1 (X.2.2.2.2 _ hcl) (X.2.2.2.2 _ hinst) (X.2.2.2.2 _ hini) rfl hdg hcells hslots hKn.2.1 rfl fun H1 kC hkC e1 z1 o1 => ?_
  exact kk H.size _ hH.fresh (va_up_self _ _ _) (fun q h => va_up_ne _ _ h) H1 locs ls (hH.push z1 o1 ⟨_, hc, (u_born ty0 X.2.2.2.2 hin hKn hkC e1 hty).to hfs⟩) hL hl
/-- new int[], new long[] -/
theorem V.newa (X : CallFix p m c cc nL s args Ts own) (hK : KK D cl tys NW s) (t0 : Nat) {atype : ArrayType} {ty : FieldType} (harr : Cond.arrayClass (newarray.typeOf atype) ∈ Ts) (hty : newarray.typeOf atype = ty) {cA : ClassId} (ht : tys[t0]? = some (cA, ty)) (hro : va_RA s cA ty = (s.vm.findClass ("[" ++ ty.toString) = some cA)) {n : Int32} {N' : Nat} {a0 : vp_A} (ha : ∀ cB : ClassId, vp_cell cB a0 = arrV cB N' (fun _ => defaultValue ty)) (hn : ¬ n < 0) (hN : n.toNatClampNeg = N') (hbytes : N' * componentBytes ty ≤ 536870912) (hcells : cells + 1 ≤ R.cells) (hslots : slots + N' ≤ R.slots) (hdg : decode cc pc = .ok (.newarray atype, 2)) (hpc : pc + 2 = pc')
    (kk : ∀ (q : Nat) (M' : mp), M q = none → M' q = some (.inl (cA, a0)) → (∀ r, r ≠ q → M' r = M r) → V p l e R s m args below meth c H0 D cl Q nL M' (cells + 1) (slots + N') pc' lv (.ref q :: st)) : V p l e R s m args below meth c H0 D cl Q nL M cells slots pc lv (.int n :: st) := by
  subst hpc
  subst hty
  intro H locs ls hH hL hl
  refine va_newaK X.1 X.2.1 (X.2.2.2.2 _ harr) rfl hdg rfl hn hN hbytes hcells hslots rfl fun H1 cB e1 z1 o1 hAr hNm => ?_
  have h2 := (hK.1.2 t0 _ ht).2
  rw [hro] at h2
  cases h2.symm.trans hNm
  refine kk H.size _ hH.fresh (va_up_self _ _ _) (fun q h => va_up_ne _ _ h) H1 locs ls (hH.push z1 o1 ?_) hL hl
  show H1[H.size]? = some (vp_cell _ _)
  rw [ha]
  exact e1
/-- new C[] -/
theorem V.newq (X : CallFix p m c cc nL s args Ts own) (hK : KK D cl tys NW s) (t0 : Nat) {C : String} {index : Nat} (hclink : Cond.classLink own index C ∈ Ts) (hover : Cond.arrayOver (.object C) ∈ NW) {cA : ClassId} (ht : tys[t0]? = some (cA, .object C)) {n : Int32} {N' : Nat} (hn : ¬ n < 0) (hN : n.toNatClampNeg = N') (hbytes : N' * 4 ≤ 536870912) (hcells : cells + 1 ≤ R.cells) (hslots : slots + N' ≤ R.slots) (hdg : decode cc pc = .ok (.anewarray index, 3)) (hpc : pc + 3 = pc')
    (kk : ∀ (q : Nat) (M' : mp), M q = none → M' q = some (.inl (cA, N', .inr (.inr (.inr (.inr (fun _ => none)))))) → (∀ r, r ≠ q → M' r = M r) → V p l e R s m args below meth c H0 D cl Q nL M' (cells + 1) (slots + N') pc' lv (.ref q :: st)) : V p l e R s m args below meth c H0 D cl Q nL M cells slots pc lv (.int n :: st) := by
  subst hpc
  subst hN
  intro H locs ls hH hL hl
  refine W.anew X.1 X.2.1 X.2.2.2.1 (X.2.2.2.2 _ hclink) (va_AO.use (hK.2.2 _ hover)) rfl hdg rfl hn hbytes hcells hslots fun cB kA comp f1 f2 f3 f4 => ?_
  obtain ⟨kA', comp', -, -, -, g4⟩ := (hK.1.2 t0 _ ht).2
  cases g4.symm.trans f1
  refine kk H.size _ hH.fresh (va_up_self _ _ _) (fun q h => va_up_ne _ _ h) _ locs ls (hH.push (by rw [Array.size_push]) (fun q hq => by rw [Array.getElem?_push, if_neg (Nat.ne_of_lt hq)]) ?_) hL hl
  show (H.push _)[H.size]? = some (vp_cell _ _)
  rw [vp_cell_q, Array.getElem?_push_size, ← arrV_new]
  rfl
/-- returns -/
theorem V.iret (X : CallFix p m c cc nL s args Ts own) {post : Option Value → mp → Prop} {v : Int32} (hr : meth.sig.returnType = some .int) (hlocks : meth.locks = false) (hp : post (some (.int v)) M) (hdg : decode cc pc = .ok (.ireturn, 1)) : V p l e R s m args below meth c H0 D cl (MQ below (Qm H0 D cl post) args s cells slots (fun q => H0.size ≤ q)) nL M cells slots pc lv [.int v] :=
  fun H locs ls hH hL hl => W.iret X.1 X.2.1 hr (fun t ht hW => ⟨_, M, rfl, hp, by rw [ht]; exact hH⟩) hL hdg hlocks
theorem V.zret (X : CallFix p m c cc nL s args Ts own) {post : Option Value → mp → Prop} {v : Int32} (hr : meth.sig.returnType = some .boolean) (hlocks : meth.locks = false) (hn : narrow .boolean (.int v) = .int v) (hp : post (some (.int v)) M) (hdg : decode cc pc = .ok (.ireturn, 1)) : V p l e R s m args below meth c H0 D cl (MQ below (Qm H0 D cl post) args s cells slots (fun q => H0.size ≤ q)) nL M cells slots pc lv [.int v] :=
  fun H locs ls hH hL hl => W.zret X.1 X.2.1 hr hn (fun t ht hW => ⟨_, M, rfl, hp, by rw [ht]; exact hH⟩) hL hdg hlocks
theorem V.lret (X : CallFix p m c cc nL s args Ts own) {post : Option Value → mp → Prop} {v : Int64} (hr : meth.sig.returnType = some .long) (hlocks : meth.locks = false) (hp : post (some (.long v)) M) (hdg : decode cc pc = .ok (.lreturn, 1)) : V p l e R s m args below meth c H0 D cl (MQ below (Qm H0 D cl post) args s cells slots (fun q => H0.size ≤ q)) nL M cells slots pc lv [.long v] :=
  fun H locs ls hH hL hl => W.lret X.1 X.2.1 hr (fun t ht hW => ⟨_, M, rfl, hp, by rw [ht]; exact hH⟩) hL hdg hlocks
theorem V.vret (X : CallFix p m c cc nL s args Ts own) {post : Option Value → mp → Prop} (hr : meth.sig.returnType = none) (hlocks : meth.locks = false) (hp : post none M) (hdg : decode cc pc = .ok (.return_, 1)) : V p l e R s m args below meth c H0 D cl (MQ below (Qm H0 D cl post) args s cells slots (fun q => H0.size ≤ q)) nL M cells slots pc lv [] :=
  fun H locs ls hH hL hl => W.vret X.1 X.2.1 hr (fun t ht hW => ⟨_, M, rfl, hp, by rw [ht]; exact hH⟩) hL hdg hlocks
theorem V.aret (X : CallFix p m c cc nL s args Ts own) {post : Option Value → mp → Prop} {v : Value} {C : String} (hr : meth.sig.returnType = some (.object C)) (hlocks : meth.locks = false) (hv : v = .null ∨ ∃ a, v = .ref a) (hp : post (some v) M) (hdg : decode cc pc = .ok (.areturn, 1)) : V p l e R s m args below meth c H0 D cl (MQ below (Qm H0 D cl post) args s cells slots (fun q => H0.size ≤ q)) nL M cells slots pc lv [v] :=
  fun H locs ls hH hL hl => W.aret X.1 X.2.1 hr (Or.inl ⟨C, rfl⟩) hv (fun t ht hW => ⟨_, M, rfl, hp, by rw [ht]; exact hH⟩) hL hdg hlocks
/-- calls -/
theorem V.run {rest st0 : List Value} {mc ms : Nat} {a : Array Value} {post : Option Value → mp → Prop} (hr : ∀ (H : Heap) (locs : List Loc) (ls : Array Slot), hw H0 D cl M H → lv_has ls nL lv → va_Run p l e R s m args below meth c H locs cells slots mc ms (F0 m pc ls st0) rest (Qm H0 D cl post a) (fun q => H0.size ≤ q)) (hpc : pc + 3 = pc')
    (kk : ∀ (v : Option Value) (M' : mp), post v M' → V p l e R s m args below meth c H0 D cl Q nL M' (cells + mc) (slots + ms) pc' lv (v.toList ++ rest)) : V p l e R s m args below meth c H0 D cl Q nL M cells slots pc lv st0 := by
  subst hpc
  intro H locs ls hH hL hl T hT X
  obtain ⟨v, st₀, t, T', L, h0, X', hL', e1, e2, ⟨v', M', hv, hp, hH'⟩, st1⟩ := hr H locs ls hH hl T hT X
  cases hv
  obtain ⟨t2, a1, b1⟩ := kk v M' hp T'.heap (locs ++ L) ls (by rw [e1]; exact hH') (fun q hq => by
    rcases List.mem_append.mp hq with h | h
    · exact hL q h
    · exact hL' q h) hl T' rfl X'
  exact ⟨t2, st1 t2 a1, b1⟩
theorem V.callV (X : CallFix p m c cc nL s args Ts own) (hK : KK D cl tys NW s) {y : MethodName} {ws : List Cond} {rm : Room} {r : Option Value} {P : mp → Prop} {bytes : ByteArray} {maxL n index ci b N : Nat} {ret : Option FieldType} {C : String} {T : u_T} {fs As rest st0 st1 : List Value} (hM : MC l H0 D cl tys NW y ws rm (.ref b :: As) M (fun v M' => v = r ∧ P M')) (hb : M b = some (.inr (ci, fs))) (hc : cl[ci]? = some (C, T, N)) (cw : CallW R s args own C index y bytes maxL ret ws rm rm.cells rm.slots n) (hn : As.length = n) (hst : st0 = As.reverse ++ .ref b :: rest) (hroom : (rest.map fun v => v.category).sum ≤ 8) (hdg : decode cc pc = .ok (.invokevirtual index, 3)) (hf : cells + rm.cells ≤ R.cells ∧ slots + rm.slots ≤ R.slots) (hpc : pc + 3 = pc') (hst1 : r.toList ++ rest = st1)
    (kk : ∀ M' : mp, P M' → V p l e R s m args below meth c H0 D cl Q nL M' (cells + rm.cells) (slots + rm.slots) pc' lv st1) : V p l e R s m args below meth c H0 D cl Q nL M cells slots pc lv st0 :=
  V.run (fun H locs ls hH hl => va_runV X hM cw ⟨MC.blind, va_recv hK.1 (hH.one hb) hc (q0 := 0) rfl, fun U hU hW => ⟨rfl, by rw [hU]; exact hH, hK.moved hW⟩⟩ rfl hn hl.1 hst (lv_room hroom) hdg hf) hpc (fun v M' h => by rw [h.1, hst1]; exact kk M' h.2)
theorem V.callV0 (X : CallFix p m c cc nL s args Ts own) (hK : KK D cl tys NW s) {y : MethodName} {ws : List Cond} {rm : Room} {r : Option Value} {bytes : ByteArray} {maxL n index ci b N : Nat} {ret : Option FieldType} {C : String} {T : u_T} {fs As rest st0 st1 : List Value} (hM : MC l H0 D cl tys NW y ws rm (.ref b :: As) M (fun v M' => v = r ∧ M' = M)) (hb : M b = some (.inr (ci, fs))) (hc : cl[ci]? = some (C, T, N)) (cw : CallW R s args own C index y bytes maxL ret ws rm rm.cells rm.slots n) (hn : As.length = n) (hst : st0 = As.reverse ++ .ref b :: rest) (hroom : (rest.map fun v => v.category).sum ≤ 8) (hdg : decode cc pc = .ok (.invokevirtual index, 3)) (hf : cells + rm.cells ≤ R.cells ∧ slots + rm.slots ≤ R.slots) (hpc : pc + 3 = pc') (hst1 : r.toList ++ rest = st1)
    (kk : V p l e R s m args below meth c H0 D cl Q nL M (cells + rm.cells) (slots + rm.slots) pc' lv st1) : V p l e R s m args below meth c H0 D cl Q nL M cells slots pc lv st0 :=
  V.run (fun H locs ls hH hl => va_runV X hM cw ⟨MC.blind, va_recv hK.1 (hH.one hb) hc (q0 := 0) rfl, fun U hU hW => ⟨rfl, by rw [hU]; exact hH, hK.moved hW⟩⟩ rfl hn hl.1 hst (lv_room hroom) hdg hf) hpc (fun v M' h => by rw [h.1, hst1]; rw [h.2]; exact kk)
theorem V.callVN (X : CallFix p m c cc nL s args Ts own) (hK : KK D cl tys NW s) {y : MethodName} {ws : List Cond} {rm : Room} {r : Option Value} {P : mp → Prop} {bytes : ByteArray} {maxL n index ci b N : Nat} {ret : Option FieldType} {C host : String} {T : u_T} {fs As rest st0 st1 : List Value} (hM : MC l H0 D cl tys NW y ws rm (.ref b :: As) M (fun v M' => v = r ∧ P M')) (hb : M b = some (.inr (ci, fs))) (hc : cl[ci]? = some (C, T, N)) (cw : va_CN R s args own index y host bytes maxL ret ws rm rm.cells rm.slots n ∧ (Cond.instanceMethod y).before args s = true ∧ (Cond.selects C y y).before args s = true) (hn : As.length = n) (hst : st0 = As.reverse ++ .ref b :: rest) (hroom : (rest.map fun v => v.category).sum ≤ 8) (hdg : decode cc pc = .ok (.invokevirtual index, 3)) (hf : cells + rm.cells ≤ R.cells ∧ slots + rm.slots ≤ R.slots) (hpc : pc + 3 = pc') (hst1 : r.toList ++ rest = st1)
    (kk : ∀ M' : mp, P M' → V p l e R s m args below meth c H0 D cl Q nL M' (cells + rm.cells) (slots + rm.slots) pc' lv st1) : V p l e R s m args below meth c H0 D cl Q nL M cells slots pc lv st0 :=
  V.run (fun H locs ls hH hl => va_runVN X hM cw ⟨MC.blind, va_recv hK.1 (hH.one hb) hc (q0 := 0) rfl, fun U hU hW => ⟨rfl, by rw [hU]; exact hH, hK.moved hW⟩⟩ rfl hn hl.1 hst (lv_room hroom) hdg hf) hpc (fun v M' h => by rw [h.1, hst1]; exact kk M' h.2)
theorem V.callVN0 (X : CallFix p m c cc nL s args Ts own) (hK : KK D cl tys NW s) {y : MethodName} {ws : List Cond} {rm : Room} {r : Option Value} {bytes : ByteArray} {maxL n index ci b N : Nat} {ret : Option FieldType} {C host : String} {T : u_T} {fs As rest st0 st1 : List Value} (hM : MC l H0 D cl tys NW y ws rm (.ref b :: As) M (fun v M' => v = r ∧ M' = M)) (hb : M b = some (.inr (ci, fs))) (hc : cl[ci]? = some (C, T, N)) (cw : va_CN R s args own index y host bytes maxL ret ws rm rm.cells rm.slots n ∧ (Cond.instanceMethod y).before args s = true ∧ (Cond.selects C y y).before args s = true) (hn : As.length = n) (hst : st0 = As.reverse ++ .ref b :: rest) (hroom : (rest.map fun v => v.category).sum ≤ 8) (hdg : decode cc pc = .ok (.invokevirtual index, 3)) (hf : cells + rm.cells ≤ R.cells ∧ slots + rm.slots ≤ R.slots) (hpc : pc + 3 = pc') (hst1 : r.toList ++ rest = st1)
    (kk : V p l e R s m args below meth c H0 D cl Q nL M (cells + rm.cells) (slots + rm.slots) pc' lv st1) : V p l e R s m args below meth c H0 D cl Q nL M cells slots pc lv st0 :=
  V.run (fun H locs ls hH hl => va_runVN X hM cw ⟨MC.blind, va_recv hK.1 (hH.one hb) hc (q0 := 0) rfl, fun U hU hW => ⟨rfl, by rw [hU]; exact hH, hK.moved hW⟩⟩ rfl hn hl.1 hst (lv_room hroom) hdg hf) hpc (fun v M' h => by rw [h.1, hst1]; rw [h.2]; exact kk)
theorem V.callS (X : CallFix p m c cc nL s args Ts own) (hK : KK D cl tys NW s) {y : MethodName} {ws : List Cond} {rm : Room} {r : Option Value} {P : mp → Prop} {bytes : ByteArray} {maxL n index : Nat} {ret : Option FieldType} {As rest st0 st1 : List Value} (hM : MC l H0 D cl tys NW y ws rm As M (fun v M' => v = r ∧ P M')) (cw : CallB R s args own index y bytes maxL ret ws rm rm.cells rm.slots n ∧ (Cond.static y).before args s = true) (hn : As.length = n) (hst : st0 = As.reverse ++ rest) (hroom : (rest.map fun v => v.category).sum ≤ 8) (hdg : decode cc pc = .ok (.invokestatic index, 3)) (hf : cells + rm.cells ≤ R.cells ∧ slots + rm.slots ≤ R.slots) (hpc : pc + 3 = pc') (hst1 : r.toList ++ rest = st1)
    (kk : ∀ M' : mp, P M' → V p l e R s m args below meth c H0 D cl Q nL M' (cells + rm.cells) (slots + rm.slots) pc' lv st1) : V p l e R s m args below meth c H0 D cl Q nL M cells slots pc lv st0 :=
  V.run (fun H locs ls hH hl => va_runS X hM cw ⟨MC.blind, fun U hU hW => ⟨rfl, by rw [hU]; exact hH, hK.moved hW⟩⟩ rfl hn hl.1 hst (lv_room hroom) hdg hf) hpc (fun v M' h => by rw [h.1, hst1]; exact kk M' h.2)
theorem V.callS0 (X : CallFix p m c cc nL s args Ts own) (hK : KK D cl tys NW s) {y : MethodName} {ws : List Cond} {rm : Room} {r : Option Value} {bytes : ByteArray} {maxL n index : Nat} {ret : Option FieldType} {As rest st0 st1 : List Value} (hM : MC l H0 D cl tys NW y ws rm As M (fun v M' => v = r ∧ M' = M)) (cw : CallB R s args own index y bytes maxL ret ws rm rm.cells rm.slots n ∧ (Cond.static y).before args s = true) (hn : As.length = n) (hst : st0 = As.reverse ++ rest) (hroom : (rest.map fun v => v.category).sum ≤ 8) (hdg : decode cc pc = .ok (.invokestatic index, 3)) (hf : cells + rm.cells ≤ R.cells ∧ slots + rm.slots ≤ R.slots) (hpc : pc + 3 = pc') (hst1 : r.toList ++ rest = st1)
    (kk : V p l e R s m args below meth c H0 D cl Q nL M (cells + rm.cells) (slots + rm.slots) pc' lv st1) : V p l e R s m args below meth c H0 D cl Q nL M cells slots pc lv st0 :=
  V.run (fun H locs ls hH hl => va_runS X hM cw ⟨MC.blind, fun U hU hW => ⟨rfl, by rw [hU]; exact hH, hK.moved hW⟩⟩ rfl hn hl.1 hst (lv_room hroom) hdg hf) hpc (fun v M' h => by rw [h.1, hst1]; rw [h.2]; exact kk)
theorem V.callI (X : CallFix p m c cc nL s args Ts own) (hK : KK D cl tys NW s) {y : MethodName} {ws : List Cond} {rm : Room} {r : Option Value} {P : mp → Prop} {bytes : ByteArray} {maxL n index b : Nat} {As rest st0 st1 : List Value} (hM : MC l H0 D cl tys NW y ws rm (.ref b :: As) M (fun v M' => v = r ∧ P M')) (cw : CallB R s args own index y bytes maxL none ws rm rm.cells rm.slots n ∧ y.name = "<init>" ∧ (Cond.instanceMethod y).before args s = true) (hn : As.length = n) (hst : st0 = As.reverse ++ .ref b :: rest) (hroom : (rest.map fun v => v.category).sum ≤ 8) (hdg : decode cc pc = .ok (.invokespecial index, 3)) (hf : cells + rm.cells ≤ R.cells ∧ slots + rm.slots ≤ R.slots) (hpc : pc + 3 = pc') (hst1 : r.toList ++ rest = st1)
    (kk : ∀ M' : mp, P M' → V p l e R s m args below meth c H0 D cl Q nL M' (cells + rm.cells) (slots + rm.slots) pc' lv st1) : V p l e R s m args below meth c H0 D cl Q nL M cells slots pc lv st0 :=
  V.run (fun H locs ls hH hl => va_runI X hM cw ⟨MC.blind, fun U hU hW => ⟨rfl, by rw [hU]; exact hH, hK.moved hW⟩⟩ rfl hn hl.1 hst (lv_room hroom) hdg hf) hpc (fun v M' h => by rw [h.1, hst1]; exact kk M' h.2)
theorem V.callI0 (X : CallFix p m c cc nL s args Ts own) (hK : KK D cl tys NW s) {y : MethodName} {ws : List Cond} {rm : Room} {r : Option Value} {bytes : ByteArray} {maxL n index b : Nat} {As rest st0 st1 : List Value} (hM : MC l H0 D cl tys NW y ws rm (.ref b :: As) M (fun v M' => v = r ∧ M' = M)) (cw : CallB R s args own index y bytes maxL none ws rm rm.cells rm.slots n ∧ y.name = "<init>" ∧ (Cond.instanceMethod y).before args s = true) (hn : As.length = n) (hst : st0 = As.reverse ++ .ref b :: rest) (hroom : (rest.map fun v => v.category).sum ≤ 8) (hdg : decode cc pc = .ok (.invokespecial index, 3)) (hf : cells + rm.cells ≤ R.cells ∧ slots + rm.slots ≤ R.slots) (hpc : pc + 3 = pc') (hst1 : r.toList ++ rest = st1)
    (kk : V p l e R s m args below meth c H0 D cl Q nL M (cells + rm.cells) (slots + rm.slots) pc' lv st1) : V p l e R s m args below meth c H0 D cl Q nL M cells slots pc lv st0 :=
  V.run (fun H locs ls hH hl => va_runI X hM cw ⟨MC.blind, fun U hU hW => ⟨rfl, by rw [hU]; exact hH, hK.moved hW⟩⟩ rfl hn hl.1 hst (lv_room hroom) hdg hf) hpc (fun v M' h => by rw [h.1, hst1]; rw [h.2]; exact kk)
/-- branches, loads, stores -/
theorem V.br {P : Prop} {tgt : Nat} {st' : List Value} (f : ∀ {H : Heap} {locs : List Loc} {ls : Array Slot}, (P → W p l e R s m args below meth c H locs cells slots Q (F0 m tgt ls st')) → (¬ P → W p l e R s m args below meth c H locs cells slots Q (F0 m pc' ls st')) → W p l e R s m args below meth c H locs cells slots Q (F0 m pc ls st)) (k1 : P → V p l e R s m args below meth c H0 D cl Q nL M cells slots tgt lv st') (k2 : ¬ P → V p l e R s m args below meth c H0 D cl Q nL M cells slots pc' lv st') : V p l e R s m args below meth c H0 D cl Q nL M cells slots pc lv st :=
  fun H locs ls hH hL hl => f (fun h => k1 h H locs ls hH hL hl) (fun h => k2 h H locs ls hH hL hl)
theorem V.wr {st' : List Value} (f : ∀ {H : Heap} {locs : List Loc} {ls : Array Slot}, lv_has ls nL lv → (∀ ls' : Array Slot, lv_has ls' nL lv' → W p l e R s m args below meth c H locs cells slots Q (F0 m pc' ls' st')) → W p l e R s m args below meth c H locs cells slots Q (F0 m pc ls st)) (k : V p l e R s m args below meth c H0 D cl Q nL M cells slots pc' lv' st') : V p l e R s m args below meth c H0 D cl Q nL M cells slots pc lv st :=
  fun H locs ls hH hL hl => f hl (fun ls' hl' => k H locs ls' hH hL hl')
theorem V.dec {P : Prop} (k1 : P → V p l e R s m args below meth c H0 D cl Q nL M cells slots pc lv st) (k2 : ¬ P → V p l e R s m args below meth c H0 D cl Q nL M cells slots pc lv st) : V p l e R s m args below meth c H0 D cl Q nL M cells slots pc lv st := (Classical.em P).elim k1 k2
theorem V.brT {P : Prop} {tgt : Nat} {st' : List Value} (f : ∀ {H : Heap} {locs : List Loc} {ls : Array Slot}, (P → W p l e R s m args below meth c H locs cells slots Q (F0 m tgt ls st')) → (¬ P → W p l e R s m args below meth c H locs cells slots Q (F0 m pc' ls st')) → W p l e R s m args below meth c H locs cells slots Q (F0 m pc ls st)) (h : P) (k : V p l e R s m args below meth c H0 D cl Q nL M cells slots tgt lv st') : V p l e R s m args below meth c H0 D cl Q nL M cells slots pc lv st := V.br f (fun _ => k) (fun n => absurd h n)
theorem V.brF {P : Prop} {tgt : Nat} {st' : List Value} (f : ∀ {H : Heap} {locs : List Loc} {ls : Array Slot}, (P → W p l e R s m args below meth c H locs cells slots Q (F0 m tgt ls st')) → (¬ P → W p l e R s m args below meth c H locs cells slots Q (F0 m pc' ls st')) → W p l e R s m args below meth c H locs cells slots Q (F0 m pc ls st)) (h : ¬ P) (k : V p l e R s m args below meth c H0 D cl Q nL M cells slots pc' lv st') : V p l e R s m args below meth c H0 D cl Q nL M cells slots pc lv st := V.br f (fun n => absurd n h) (fun _ => k)
/-- '!=' : the first goal is that of equality, which goes on behind -/
theorem V.bn {P : Prop} {tgt : Nat} {st' : List Value} (f : ∀ {H : Heap} {locs : List Loc} {ls : Array Slot}, (¬ P → W p l e R s m args below meth c H locs cells slots Q (F0 m tgt ls st')) → (P → W p l e R s m args below meth c H locs cells slots Q (F0 m pc' ls st')) → W p l e R s m args below meth c H locs cells slots Q (F0 m pc ls st)) (k1 : P → V p l e R s m args below meth c H0 D cl Q nL M cells slots pc' lv st') (k2 : ¬ P → V p l e R s m args below meth c H0 D cl Q nL M cells slots tgt lv st') : V p l e R s m args below meth c H0 D cl Q nL M cells slots pc lv st :=
  fun H locs ls hH hL hl => f (fun h => k2 h H locs ls hH hL hl) (fun h => k1 h H locs ls hH hL hl)
theorem V.bnT {P : Prop} {tgt : Nat} {st' : List Value} (f : ∀ {H : Heap} {locs : List Loc} {ls : Array Slot}, (¬ P → W p l e R s m args below meth c H locs cells slots Q (F0 m tgt ls st')) → (P → W p l e R s m args below meth c H locs cells slots Q (F0 m pc' ls st')) → W p l e R s m args below meth c H locs cells slots Q (F0 m pc ls st)) (h : P) (k : V p l e R s m args below meth c H0 D cl Q nL M cells slots pc' lv st') : V p l e R s m args below meth c H0 D cl Q nL M cells slots pc lv st := V.bn f (fun _ => k) (fun n => absurd h n)
theorem V.bnF {P : Prop} {tgt : Nat} {st' : List Value} (f : ∀ {H : Heap} {locs : List Loc} {ls : Array Slot}, (¬ P → W p l e R s m args below meth c H locs cells slots Q (F0 m tgt ls st')) → (P → W p l e R s m args below meth c H locs cells slots Q (F0 m pc' ls st')) → W p l e R s m args below meth c H locs cells slots Q (F0 m pc ls st)) (h : ¬ P) (k : V p l e R s m args below meth c H0 D cl Q nL M cells slots tgt lv st') : V p l e R s m args below meth c H0 D cl Q nL M cells slots pc lv st := V.bn f (fun n => absurd n h) (fun _ => k)
/-- a reference that may be null: the two roads -/
theorem V.sp {o : Option Nat} {g : Nat → Nat} (k1 : o = none → V p l e R s m args below meth c H0 D cl Q nL M cells slots pc lv (.null :: st)) (k2 : ∀ i : Nat, o = some i → V p l e R s m args below meth c H0 D cl Q nL M cells slots pc lv (.ref (g i) :: st)) : V p l e R s m args below meth c H0 D cl Q nL M cells slots pc lv (va_rf (Option.map g o) :: st) := by
  cases o with
  | none => exact k1 rfl
  | some i => exact k2 i rfl
theorem V.spN {o : Option Nat} {g : Nat → Nat} (h : o = none) (k : V p l e R s m args below meth c H0 D cl Q nL M cells slots pc lv (.null :: st)) : V p l e R s m args below meth c H0 D cl Q nL M cells slots pc lv (va_rf (Option.map g o) :: st) := by
  subst h
  exact k
theorem V.spS {o : Option Nat} {g : Nat → Nat} {i : Nat} (h : o = some i) (k : V p l e R s m args below meth c H0 D cl Q nL M cells slots pc lv (.ref (g i) :: st)) : V p l e R s m args below meth c H0 D cl Q nL M cells slots pc lv (va_rf (Option.map g o) :: st) := by
  subst h
  exact k
/-- a loop: an invariant with a number that falls -/
theorem V.ind {α : Type} (I : Nat → α → mp → List (Nat × Value) → Prop) {n0 : Nat} {x0 : α} (h0 : I n0 x0 M lv) (step : ∀ n : Nat, (∀ k : Nat, k < n → ∀ (x : α) (M' : mp) (lv' : List (Nat × Value)), I k x M' lv' → V p l e R s m args below meth c H0 D cl Q nL M' cells slots pc lv' st) → ∀ (x : α) (M' : mp) (lv' : List (Nat × Value)), I n x M' lv' → V p l e R s m args below meth c H0 D cl Q nL M' cells slots pc lv' st) : V p l e R s m args below meth c H0 D cl Q nL M cells slots pc lv st := by
  have key : ∀ (n : Nat) (x : α) (M' : mp) (lv' : List (Nat × Value)), I n x M' lv' → V p l e R s m args below meth c H0 D cl Q nL M' cells slots pc lv' st := fun n => Nat.strongRecOn n step
  exact key n0 x0 M lv h0
/-- Math.max -/
theorem V.mmax (X : CallFix p m c cc nL s args Ts own) {index : Nat} {x y : Int32} (hlink : Cond.methodLink own index Lib.Math.max.name ∈ Ts) (hstat : Cond.static Lib.Math.max.name ∈ Ts) (hini : Cond.initialized "java/lang/Math" ∈ Ts) (hcode : Cond.code Lib.Math.max.name Lib.Math.max.code 2 (some .int) ∈ Ts) (hst : (st.map fun v => v.category).sum ≤ 8) (hframes : 1 ≤ R.frames) (hlocals : 21 ≤ R.locals) (hc : cells ≤ R.cells) (hs : slots ≤ R.slots) (hdg : decode cc pc = .ok (.invokestatic index, 3)) (hpc : pc + 3 = pc')
    (kk : V p l e R s m args below meth c H0 D cl Q nL M cells slots pc' lv (.int (imax x y) :: st)) : V p l e R s m args below meth c H0 D cl Q nL M cells slots pc lv (.int y :: .int x :: st) := by
  subst hpc
  intro H locs ls hH hL hl
  exact va_mmax X.1 X.2.1 (X.2.2.1.trans hl.1.symm) X.2.2.2.1 (X.2.2.2.2 _ hlink) (X.2.2.2.2 _ hstat) (X.2.2.2.2 _ hini) (X.2.2.2.2 _ hcode) hframes (by omega) hc hs hdg (kk H locs ls hH hL hl)
/-- Object.<init> -/
theorem V.obj (X : CallFix p m c cc nL s args Ts own) {idx a : Nat} (hlink : Cond.methodLink own idx objectInit ∈ Ts) (hinst : Cond.instanceMethod objectInit ∈ Ts) (hcode : Cond.code objectInit ⟨#[0xb1]⟩ 1 none ∈ Ts) (hst : (st.map fun v => v.category).sum ≤ 8) (hdg : decode cc pc = .ok (.invokespecial idx, 3)) (hframes : 1 ≤ R.frames) (hlocals : 20 ≤ R.locals) (hpc : pc + 3 = pc')
    (kk : V p l e R s m args below meth c H0 D cl Q nL M cells slots pc' lv st) : V p l e R s m args below meth c H0 D cl Q nL M cells slots pc lv (.ref a :: st) := by
  subst hpc
  intro H locs ls hH hL hl
  have h8 := lv_room (m := m) (pc := pc) (ls := ls) (rest := .ref a :: st) hst
  exact W.objInit X.1 X.2.1 X.2.2.2.1 (X.2.2.2.2 _ hlink) (X.2.2.2.2 _ hinst) (X.2.2.2.2 _ hcode) rfl (by rw [X.2.2.1]; exact hl.1) rfl hdg hframes (by omega) (kk H locs ls hH hL hl)
end VL
/-- the kind of a content: contents of different kinds lie apart -/
def tg (x : va_E) : Nat := match x with
  | .inr (ci, _) => ci
  | .inl (_, n, .inl _) => 1000 + n
  | .inl (_, n, .inr (.inl _)) => 100000 + n
  | .inl (_, n, .inr (.inr (.inr (.inr _)))) => 10000000 + n
  | .inl (_, _, _) => 999999999
theorem ne_k {M : mp} {a b : Nat} {x y : va_E} (ha : M a = some x) (hb : M b = some y) {i j : Nat} (hi : tg x = i) (hj : tg y = j) (h : i ≠ j) : a ≠ b := by
  intro e
  rw [e, hb] at ha
  cases ha
  exact h (hi.symm.trans hj)
theorem ne_z {M : mp} {a b : Nat} {x : va_E} (ha : M a = some x) (hb : M b = none) : a ≠ b := by
  intro e
  rw [e, hb] at ha
  cases ha
def oc {α : Type} (o : Option Nat) (a : α) (f : Nat → α) : α := match o with
  | none => a
  | some i => f i
theorem oc_none {α : Type} (a : α) (f : Nat → α) : oc none a f = a := rfl
theorem oc_some {α : Type} (i : Nat) (a : α) (f : Nat → α) : oc (some i) a f = f i := rfl
theorem vin {i : Int32} {n : Nat} (h1 : 0 ≤ i.toInt) (h2 : i.toInt < (n : Int)) : vp_in i n := vp_in_iff.mpr ⟨h1, h2⟩
theorem i32_add1 {x : Int32} (h : x.toInt < 2147483647) : (x + 1).toInt = x.toInt + 1 := by
  have h1 := Int32.le_toInt x
  rw [Int32.toInt_add, show (1 : Int32).toInt = 1 from rfl]
  exact Int.bmod_eq_of_le (by omega) (by omega)
theorem i32_addm1 {x : Int32} (h : -2147483648 < x.toInt) : (x + (-1)).toInt = x.toInt + (-1) := by
  have h1 := Int32.toInt_lt x
  rw [Int32.toInt_add, show (-1 : Int32).toInt = -1 from rfl]
  exact Int.bmod_eq_of_le (by omega) (by omega)
theorem i32_sub1 {x : Int32} (h : -2147483648 < x.toInt) : (x - 1).toInt = x.toInt - 1 := by
  have h1 := Int32.toInt_lt x
  rw [Int32.toInt_sub, show (1 : Int32).toInt = 1 from rfl]
  exact Int.bmod_eq_of_le (by omega) (by omega)
/-! the statements of a program: a pool -/
def Stm : Type := Int32 × Int32 × Int32 × Int32 × Int32 × Int32 × Int32 × (Nat → Int32) × (Nat → Int64) × (Nat → Int32) × (Nat → Int64) × (Nat → Int64)
def st_f (x : Stm) : Int32 := x.1
def st_t (x : Stm) : Int32 := x.2.1
def st_k (x : Stm) : Int32 := x.2.2.1
def st_n (x : Stm) : Int32 := x.2.2.2.1
def st_a (x : Stm) : Int32 := x.2.2.2.2.1
def st_c (x : Stm) : Int32 := x.2.2.2.2.2.1
def st_l (x : Stm) : Int32 := x.2.2.2.2.2.2.1
def st_kc (x : Stm) : Nat → Int32 := x.2.2.2.2.2.2.2.1
def st_kv (x : Stm) : Nat → Int64 := x.2.2.2.2.2.2.2.2.1
def st_lc (x : Stm) : Nat → Int32 := x.2.2.2.2.2.2.2.2.2.1
def st_fv (x : Stm) : Nat → Int64 := x.2.2.2.2.2.2.2.2.2.2.1
def st_lz (x : Stm) : Nat → Int64 := x.2.2.2.2.2.2.2.2.2.2.2
def SP (cI cL : ClassId) (M : mp) (ns : Int32) (sa u1 u2 u3 u4 u5 : Nat → Nat) (σ : Nat → Stm) : Prop := ∀ i : Nat, (i : Int) < ns.toInt →
  M (sa i) = some (.inr (4, [.int (st_f (σ i)), .int (st_t (σ i)), .int (st_k (σ i)), .int (st_n (σ i)), .int (st_a (σ i)), .int (st_c (σ i)), .int (st_l (σ i)), .ref (u1 i), .ref (u2 i), .ref (u3 i), .ref (u4 i), .ref (u5 i)])) ∧
  M (u1 i) = some (.inl (cI, 7, .inl (st_kc (σ i)))) ∧ M (u2 i) = some (.inl (cL, 7, .inr (.inl (st_kv (σ i))))) ∧ M (u3 i) = some (.inl (cI, 7, .inl (st_lc (σ i)))) ∧ M (u4 i) = some (.inl (cL, 7, .inr (.inl (st_fv (σ i))))) ∧ M (u5 i) = some (.inl (cL, 7, .inr (.inl (st_lz (σ i)))))
def pt (j : Nat) : Bool := j == 4 || j == 1007 || j == 100007
theorem SP.keep {cI cL : ClassId} {M M' : mp} {ns : Int32} {sa u1 u2 u3 u4 u5 : Nat → Nat} {σ : Nat → Stm} (h : SP cI cL M ns sa u1 u2 u3 u4 u5 σ) (hk : ∀ (q : Nat) (e : va_E), M q = some e → pt (tg e) = true → M' q = M q) : SP cI cL M' ns sa u1 u2 u3 u4 u5 σ := by
  intro i hi
  obtain ⟨h0, h1, h2, h3, h4, h5⟩ := h i hi
  exact ⟨(hk _ _ h0 rfl).trans h0, (hk _ _ h1 rfl).trans h1, (hk _ _ h2 rfl).trans h2, (hk _ _ h3 rfl).trans h3, (hk _ _ h4 rfl).trans h4, (hk _ _ h5 rfl).trans h5⟩
theorem ne_p {M : mp} {q a : Nat} {e x : va_E} (hq : M q = some e) (ht : pt (tg e) = true) (ha : M a = some x) {j : Nat} (hj : tg x = j) (hn : pt j = false) : q ≠ a := by
  intro h
  rw [h, ha] at hq
  cases hq
  rw [hj, hn] at ht
  cases ht
abbrev tysOf (cI cL cQ cB : ClassId) : List (ClassId × FieldType) := [(cI, .int), (cL, .long), (cQ, .object "PerformRanges$Statement"), (cB, .boolean)]
theorem gw_good {z y : Cond} (hy : y ∈ GW) : GoodIn (z :: GW) (y :: GW) := by
  intro w hw
  have h1 : w ∈ GW := by
    rcases List.mem_cons.mp hw with h | h
    · rw [h]; exact hy
    · exact h
  exact ⟨mcs h1, good_of_word (List.mem_filter.mp h1).2⟩
section CG
variable {p : Program} {m : MethodId} {c : Code} {cc bytes : ByteArray} {nL maxL n index : Nat} {s : State} {args : Array Value} {own C : String} {z : Cond} {R rm : Room} {y : MethodName} {ret : Option FieldType}
theorem cwG (X : CallFix p m c cc nL s args (z :: GW) own) (h1 : Cond.methodLink own index y ∈ z :: GW) (h2 : Cond.instanceMethod y ∈ z :: GW) (h3 : Cond.selects C y y ∈ z :: GW) (h4 : Cond.initialized y.cls ∈ z :: GW) (h5 : Cond.code y bytes maxL ret ∈ GW)
    (hd : y.cls ≠ "java/lang/invoke/MethodHandle" ∧ y.cls ≠ "java/lang/invoke/VarHandle" ∧ (parseMethodDescriptor y.desc).map (fun d => d.parameters.length) = some n) (hR1 : rm.frames + 1 ≤ R.frames) (hR2 : 8 + (maxL + 11) + rm.locals ≤ R.locals) : CallW R s args own C index y bytes maxL ret (Cond.code y bytes maxL ret :: GW) rm rm.cells rm.slots n :=
  ⟨callB_of n X.2.2.2.2 (gw_good h5) rfl rfl rfl (X.2.2.2.2 _ h4) (X.2.2.2.2 _ h1) hd ⟨hR1, hR2⟩, X.2.2.2.2 _ h2, X.2.2.2.2 _ h3⟩
theorem csG (X : CallFix p m c cc nL s args (z :: GW) own) (h1 : Cond.methodLink own index y ∈ z :: GW) (h2 : Cond.static y ∈ z :: GW) (h4 : Cond.initialized y.cls ∈ z :: GW) (h5 : Cond.code y bytes maxL ret ∈ GW)
    (hd : y.cls ≠ "java/lang/invoke/MethodHandle" ∧ y.cls ≠ "java/lang/invoke/VarHandle" ∧ (parseMethodDescriptor y.desc).map (fun d => d.parameters.length) = some n) (hR1 : rm.frames + 1 ≤ R.frames) (hR2 : 8 + (maxL + 11) + rm.locals ≤ R.locals) : CallB R s args own index y bytes maxL ret (Cond.code y bytes maxL ret :: GW) rm rm.cells rm.slots n ∧ (Cond.static y).before args s = true :=
  ⟨callB_of n X.2.2.2.2 (gw_good h5) rfl rfl rfl (X.2.2.2.2 _ h4) (X.2.2.2.2 _ h1) hd ⟨hR1, hR2⟩, X.2.2.2.2 _ h2⟩
theorem ciG (X : CallFix p m c cc nL s args (z :: GW) own) (h1 : Cond.methodLink own index y ∈ z :: GW) (h2 : Cond.instanceMethod y ∈ z :: GW) (h4 : Cond.initialized y.cls ∈ z :: GW) (h5 : Cond.code y bytes maxL none ∈ GW) (hy : y.name = "<init>")
    (hd : y.cls ≠ "java/lang/invoke/MethodHandle" ∧ y.cls ≠ "java/lang/invoke/VarHandle" ∧ (parseMethodDescriptor y.desc).map (fun d => d.parameters.length) = some n) (hR1 : rm.frames + 1 ≤ R.frames) (hR2 : 8 + (maxL + 11) + rm.locals ≤ R.locals) : CallB R s args own index y bytes maxL none (Cond.code y bytes maxL none :: GW) rm rm.cells rm.slots n ∧ y.name = "<init>" ∧ (Cond.instanceMethod y).before args s = true :=
  ⟨callB_of n X.2.2.2.2 (gw_good h5) rfl rfl rfl (X.2.2.2.2 _ h4) (X.2.2.2.2 _ h1) hd ⟨hR1, hR2⟩, hy, X.2.2.2.2 _ h2⟩
end CG
theorem nb_ok {b : Int32} (h : b = 0 ∨ b = 1) : narrow .boolean (.int b) = .int b := by
  rcases h with rfl | rfl <;> rfl
theorem fb_ok {b : Int32} (h : b = 0 ∨ b = 1) : fits .boolean (.int b) = true := by
  rcases h with rfl | rfl <;> rfl
def lq (lo : Nat → Option Nat) (sa : Nat → Nat) : Nat → Option Nat := fun k => Option.map sa (lo k)
theorem lq_up {lo : Nat → Option Nat} {sa : Nat → Nat} {k i : Nat} : va_up (lq lo sa) k (some (sa i)) = lq (va_up lo k (some i)) sa := by
  funext j
  by_cases h : j = k
  · subst h
    simp [va_up, lq]
  · simp [va_up, lq, h]
def tdOf (ns : Int32) (sa : Nat → Nat) : Nat → Option Nat := fun k => if (k : Int) < ns.toInt then some (sa k) else none
theorem tdOf_lt {ns : Int32} {sa : Nat → Nat} {k : Nat} (h : (k : Int) < ns.toInt) : tdOf ns sa k = some (sa k) := if_pos h
theorem clampI {x : Int32} (h : 0 ≤ x.toInt) : (x.toNatClampNeg : Int) = x.toInt := by
  show ((x.toInt.toNat : Nat) : Int) = x.toInt
  omega
theorem opt_ok {o o' : Option Nat} {sa : Nat → Nat} {v : Value} (h : o = o') (hv : v = va_rf (Option.map sa o')) : some v = some (va_rf (Option.map sa o)) := by
  rw [h, hv]
end
section
theorem wd_0 : (Jvm.Cond.fieldLink "PerformRanges$Cells" (9 : Nat) "PerformRanges$Cells" "values" "[J") ∈ GW := gw_of (i := 90) (by decide +kernel) (by decide +kernel)
theorem d_Cells_value_0 : decode prog_2_method_2_code 0 = .ok (.iload_n 1, 1) := by decide +kernel
theorem d_Cells_value_1 : decode prog_2_method_2_code 1 = .ok (.ifCond .lt 18, 3) := by decide +kernel
theorem d_Cells_value_4 : decode prog_2_method_2_code 4 = .ok (.iload_n 1, 1) := by decide +kernel
theorem d_Cells_value_5 : decode prog_2_method_2_code 5 = .ok (.bipush 16, 2) := by decide +kernel
theorem d_Cells_value_7 : decode prog_2_method_2_code 7 = .ok (.if_icmp .ge 12, 3) := by decide +kernel
theorem d_Cells_value_10 : decode prog_2_method_2_code 10 = .ok (.aload_n 0, 1) := by decide +kernel
theorem d_Cells_value_11 : decode prog_2_method_2_code 11 = .ok (.getfield 9, 3) := by decide +kernel
theorem d_Cells_value_14 : decode prog_2_method_2_code 14 = .ok (.iload_n 1, 1) := by decide +kernel
theorem d_Cells_value_15 : decode prog_2_method_2_code 15 = .ok (.laload, 1) := by decide +kernel
theorem d_Cells_value_16 : decode prog_2_method_2_code 16 = .ok (.goto 4, 3) := by decide +kernel
theorem d_Cells_value_19 : decode prog_2_method_2_code 19 = .ok (.lconst 0, 1) := by decide +kernel
theorem d_Cells_value_20 : decode prog_2_method_2_code 20 = .ok (.lreturn, 1) := by decide +kernel

def sp_Cells_value (f : Nat → Int64) (x : Int32) : Int64 := if x < 0 then 0 else if 16 ≤ x then 0 else f x.toNatClampNeg
set_option maxHeartbeats 4000000 in
set_option maxRecDepth 100000 in
theorem c_Cells_value {l : Launch} {H0 : Heap} {D : va_G} {cI cL cQ cB : ClassId} {M : mp} {ce va : Nat} {f : Nat → Int64} {x : Int32} (gh0 : M ce = some (.inr (0, [.ref va]))) (gh1 : M va = some (.inl (cL, 16, .inr (.inl f)))) : MC l H0 D cls7 (tysOf cI cL cQ cB) NW ({ cls := "PerformRanges$Cells", name := "value", desc := "(I)J" } : Jvm.MethodName) (Cond.code ({ cls := "PerformRanges$Cells", name := "value", desc := "(I)J" } : Jvm.MethodName) prog_2_method_2_code 2 (Option.some Jvm.ClassFile.FieldType.long) :: GW) ({ frames := 0, cells := 0, slots := 0, locals := 0 }) [.ref ce, .int x] M (fun v M' => v = some (.long (sp_Cells_value f x)) ∧ M' = M) := by
  refine MC.of (cc := prog_2_method_2_code) (nL := 2) (ret := (Option.some Jvm.ClassFile.FieldType.long)) (lv := [(0, .ref ce), (1, .int x)]) (by decide) rfl (Nat.le_of_ble_eq_true rfl) rfl ?_
  intro p e s m below meth c X hr hlk hnm hK
  have k0 : (0 : Int32).toInt = 0 := rfl
  have k16 : (16 : Int32).toInt = 16 := rfl
  refine V.rd (pc' := 1) (fun hl => lv_iload_n X.1 X.2.1 d_Cells_value_0 rfl (lv_at hl 1 rfl)) ?_
  refine V.br (pc' := 4) (tgt := 19) (P := x < 0) (lv_if_lt X.1 X.2.1 d_Cells_value_1 (by decide)) (fun c_1 => ?_) (fun c_1 => ?_)
  · have i_2 := Int32.lt_iff_toInt_lt.mp c_1
    refine V.go (pc' := 20) (lv_lconst (v := 0) X.1 X.2.1 d_Cells_value_19 (by decide)) ?_
    exact V.lret X hr hlk ⟨(by simp only [sp_Cells_value, if_pos c_1]), rfl⟩ d_Cells_value_20
  · have i_3 := mt Int32.lt_iff_toInt_lt.mpr c_1
    refine V.rd (pc' := 5) (fun hl => lv_iload_n X.1 X.2.1 d_Cells_value_4 rfl (lv_at hl 1 rfl)) ?_
    refine V.go (pc' := 7) (lv_bipush (v := 16) X.1 X.2.1 d_Cells_value_5 (by decide)) ?_
    refine V.br (pc' := 10) (tgt := 19) (P := 16 ≤ x) (lv_icmp_ge X.1 X.2.1 d_Cells_value_7 (by decide)) (fun c_4 => ?_) (fun c_4 => ?_)
    · have i_5 := Int32.le_iff_toInt_le.mp c_4
      refine V.go (pc' := 20) (lv_lconst (v := 0) X.1 X.2.1 d_Cells_value_19 (by decide)) ?_
      exact V.lret X hr hlk ⟨(by simp only [sp_Cells_value, if_neg c_1, if_pos c_4]), rfl⟩ d_Cells_value_20
    · have i_6 := mt Int32.le_iff_toInt_le.mpr c_4
      refine V.rd (pc' := 11) (fun hl => lv_aload_n X.1 X.2.1 d_Cells_value_10 rfl (lv_at hl 0 rfl)) ?_
      refine V.get (pc' := 14) X hK gh0 uw_Cells rfl 0 (by decide) (mcs wd_0) rfl d_Cells_value_11 rfl ?_
      refine V.rd (pc' := 15) (fun hl => lv_iload_n X.1 X.2.1 d_Cells_value_14 rfl (lv_at hl 1 rfl)) ?_
      refine V.lald (pc' := 16) X hK 1 gh1 rfl (vin (by omega) (by omega)) d_Cells_value_15 rfl ?_
      refine V.go (pc' := 20) (lv_goto X.1 X.2.1 d_Cells_value_16 (by decide)) ?_
      exact V.lret X hr hlk ⟨(by simp only [sp_Cells_value, if_neg c_1, if_neg c_4]), rfl⟩ d_Cells_value_20

theorem d_Cells_become_0 : decode prog_2_method_3_code 0 = .ok (.iload_n 1, 1) := by decide +kernel
theorem d_Cells_become_1 : decode prog_2_method_3_code 1 = .ok (.ifCond .lt 16, 3) := by decide +kernel
theorem d_Cells_become_4 : decode prog_2_method_3_code 4 = .ok (.iload_n 1, 1) := by decide +kernel
theorem d_Cells_become_5 : decode prog_2_method_3_code 5 = .ok (.bipush 16, 2) := by decide +kernel
theorem d_Cells_become_7 : decode prog_2_method_3_code 7 = .ok (.if_icmp .ge 10, 3) := by decide +kernel
theorem d_Cells_become_10 : decode prog_2_method_3_code 10 = .ok (.aload_n 0, 1) := by decide +kernel
theorem d_Cells_become_11 : decode prog_2_method_3_code 11 = .ok (.getfield 9, 3) := by decide +kernel
theorem d_Cells_become_14 : decode prog_2_method_3_code 14 = .ok (.iload_n 1, 1) := by decide +kernel
theorem d_Cells_become_15 : decode prog_2_method_3_code 15 = .ok (.lload_n 2, 1) := by decide +kernel
theorem d_Cells_become_16 : decode prog_2_method_3_code 16 = .ok (.lastore, 1) := by decide +kernel
theorem d_Cells_become_17 : decode prog_2_method_3_code 17 = .ok (.return_, 1) := by decide +kernel

def sp_Cells_become_va (f : Nat → Int64) (x : Int32) (y : Int64) : Nat → Int64 := if x < 0 then f else if 16 ≤ x then f else vp_updL f x.toNatClampNeg y
set_option maxHeartbeats 4000000 in
set_option maxRecDepth 100000 in
theorem c_Cells_become {l : Launch} {H0 : Heap} {D : va_G} {cI cL cQ cB : ClassId} {M : mp} {ce va : Nat} {f : Nat → Int64} {x : Int32} {y : Int64} (gh0 : M ce = some (.inr (0, [.ref va]))) (gh1 : M va = some (.inl (cL, 16, .inr (.inl f)))) : MC l H0 D cls7 (tysOf cI cL cQ cB) NW ({ cls := "PerformRanges$Cells", name := "become", desc := "(IJ)V" } : Jvm.MethodName) (Cond.code ({ cls := "PerformRanges$Cells", name := "become", desc := "(IJ)V" } : Jvm.MethodName) prog_2_method_3_code 4 (Option.none : Option Jvm.ClassFile.FieldType) :: GW) ({ frames := 0, cells := 0, slots := 0, locals := 0 }) [.ref ce, .int x, .long y] M (fun v M' => v = none ∧ M' va = some (.inl (cL, 16, .inr (.inl (sp_Cells_become_va f x y)))) ∧ ∀ q, q ≠ va → M' q = M q) := by
  refine MC.of (cc := prog_2_method_3_code) (nL := 4) (ret := (Option.none : Option Jvm.ClassFile.FieldType)) (lv := [(0, .ref ce), (1, .int x), (2, .long y)]) (by decide) rfl (Nat.le_of_ble_eq_true rfl) rfl ?_
  intro p e s m below meth c X hr hlk hnm hK
  have k0 : (0 : Int32).toInt = 0 := rfl
  have k16 : (16 : Int32).toInt = 16 := rfl
  refine V.rd (pc' := 1) (fun hl => lv_iload_n X.1 X.2.1 d_Cells_become_0 rfl (lv_at hl 1 rfl)) ?_
  refine V.br (pc' := 4) (tgt := 17) (P := x < 0) (lv_if_lt X.1 X.2.1 d_Cells_become_1 (by decide)) (fun c_1 => ?_) (fun c_1 => ?_)
  · have i_2 := Int32.lt_iff_toInt_lt.mp c_1
    exact V.vret X hr hlk ⟨rfl, (by simp only [sp_Cells_become_va, if_pos c_1]; exact gh1), (fun q n0_ => rfl)⟩ d_Cells_become_17
  · have i_3 := mt Int32.lt_iff_toInt_lt.mpr c_1
    refine V.rd (pc' := 5) (fun hl => lv_iload_n X.1 X.2.1 d_Cells_become_4 rfl (lv_at hl 1 rfl)) ?_
    refine V.go (pc' := 7) (lv_bipush (v := 16) X.1 X.2.1 d_Cells_become_5 (by decide)) ?_
    refine V.br (pc' := 10) (tgt := 17) (P := 16 ≤ x) (lv_icmp_ge X.1 X.2.1 d_Cells_become_7 (by decide)) (fun c_4 => ?_) (fun c_4 => ?_)
    · have i_5 := Int32.le_iff_toInt_le.mp c_4
      exact V.vret X hr hlk ⟨rfl, (by simp only [sp_Cells_become_va, if_neg c_1, if_pos c_4]; exact gh1), (fun q n0_ => rfl)⟩ d_Cells_become_17
    · have i_6 := mt Int32.le_iff_toInt_le.mpr c_4
      refine V.rd (pc' := 11) (fun hl => lv_aload_n X.1 X.2.1 d_Cells_become_10 rfl (lv_at hl 0 rfl)) ?_
      refine V.get (pc' := 14) X hK gh0 uw_Cells rfl 0 (by decide) (mcs wd_0) rfl d_Cells_become_11 rfl ?_
      refine V.rd (pc' := 15) (fun hl => lv_iload_n X.1 X.2.1 d_Cells_become_14 rfl (lv_at hl 1 rfl)) ?_
      refine V.rd (pc' := 16) (fun hl => lv_lload_n X.1 X.2.1 d_Cells_become_15 rfl (lv_at hl 2 rfl)) ?_
      refine V.last (pc' := 17) X hK 1 gh1 rfl (vin (by omega) (by omega)) d_Cells_become_16 rfl (fun M_7 h_8 fr_9 => ?_)
      have h_10 : M_7 ce = some (.inr (0, [.ref va])) := (fr_9 _ (ne_k gh0 gh1 (i := 0) (j := 100016) rfl rfl (by decide))).trans gh0
      exact V.vret X hr hlk ⟨rfl, (by simp only [sp_Cells_become_va, if_neg c_1, if_neg c_4]; exact h_8), (fun q n0_ => (fr_9 q n0_))⟩ d_Cells_become_17

theorem d_Cells_grow_0 : decode prog_2_method_4_code 0 = .ok (.iload_n 1, 1) := by decide +kernel
theorem d_Cells_grow_1 : decode prog_2_method_4_code 1 = .ok (.ifCond .lt 19, 3) := by decide +kernel
theorem d_Cells_grow_4 : decode prog_2_method_4_code 4 = .ok (.iload_n 1, 1) := by decide +kernel
theorem d_Cells_grow_5 : decode prog_2_method_4_code 5 = .ok (.bipush 16, 2) := by decide +kernel
theorem d_Cells_grow_7 : decode prog_2_method_4_code 7 = .ok (.if_icmp .ge 13, 3) := by decide +kernel
theorem d_Cells_grow_10 : decode prog_2_method_4_code 10 = .ok (.aload_n 0, 1) := by decide +kernel
theorem d_Cells_grow_11 : decode prog_2_method_4_code 11 = .ok (.getfield 9, 3) := by decide +kernel
theorem d_Cells_grow_14 : decode prog_2_method_4_code 14 = .ok (.iload_n 1, 1) := by decide +kernel
theorem d_Cells_grow_15 : decode prog_2_method_4_code 15 = .ok (.dup2, 1) := by decide +kernel
theorem d_Cells_grow_16 : decode prog_2_method_4_code 16 = .ok (.laload, 1) := by decide +kernel
theorem d_Cells_grow_17 : decode prog_2_method_4_code 17 = .ok (.lload_n 2, 1) := by decide +kernel
theorem d_Cells_grow_18 : decode prog_2_method_4_code 18 = .ok (.ladd, 1) := by decide +kernel
theorem d_Cells_grow_19 : decode prog_2_method_4_code 19 = .ok (.lastore, 1) := by decide +kernel
theorem d_Cells_grow_20 : decode prog_2_method_4_code 20 = .ok (.return_, 1) := by decide +kernel

def sp_Cells_grow_va (f : Nat → Int64) (x : Int32) (y : Int64) : Nat → Int64 := if x < 0 then f else if 16 ≤ x then f else vp_updL f x.toNatClampNeg ((f x.toNatClampNeg) + y)
set_option maxHeartbeats 4000000 in
set_option maxRecDepth 100000 in
theorem c_Cells_grow {l : Launch} {H0 : Heap} {D : va_G} {cI cL cQ cB : ClassId} {M : mp} {ce va : Nat} {f : Nat → Int64} {x : Int32} {y : Int64} (gh0 : M ce = some (.inr (0, [.ref va]))) (gh1 : M va = some (.inl (cL, 16, .inr (.inl f)))) : MC l H0 D cls7 (tysOf cI cL cQ cB) NW ({ cls := "PerformRanges$Cells", name := "grow", desc := "(IJ)V" } : Jvm.MethodName) (Cond.code ({ cls := "PerformRanges$Cells", name := "grow", desc := "(IJ)V" } : Jvm.MethodName) prog_2_method_4_code 4 (Option.none : Option Jvm.ClassFile.FieldType) :: GW) ({ frames := 0, cells := 0, slots := 0, locals := 0 }) [.ref ce, .int x, .long y] M (fun v M' => v = none ∧ M' va = some (.inl (cL, 16, .inr (.inl (sp_Cells_grow_va f x y)))) ∧ ∀ q, q ≠ va → M' q = M q) := by
  refine MC.of (cc := prog_2_method_4_code) (nL := 4) (ret := (Option.none : Option Jvm.ClassFile.FieldType)) (lv := [(0, .ref ce), (1, .int x), (2, .long y)]) (by decide) rfl (Nat.le_of_ble_eq_true rfl) rfl ?_
  intro p e s m below meth c X hr hlk hnm hK
  have k0 : (0 : Int32).toInt = 0 := rfl
  have k16 : (16 : Int32).toInt = 16 := rfl
  refine V.rd (pc' := 1) (fun hl => lv_iload_n X.1 X.2.1 d_Cells_grow_0 rfl (lv_at hl 1 rfl)) ?_
  refine V.br (pc' := 4) (tgt := 20) (P := x < 0) (lv_if_lt X.1 X.2.1 d_Cells_grow_1 (by decide)) (fun c_1 => ?_) (fun c_1 => ?_)
  · have i_2 := Int32.lt_iff_toInt_lt.mp c_1
    exact V.vret X hr hlk ⟨rfl, (by simp only [sp_Cells_grow_va, if_pos c_1]; exact gh1), (fun q n0_ => rfl)⟩ d_Cells_grow_20
  · have i_3 := mt Int32.lt_iff_toInt_lt.mpr c_1
    refine V.rd (pc' := 5) (fun hl => lv_iload_n X.1 X.2.1 d_Cells_grow_4 rfl (lv_at hl 1 rfl)) ?_
    refine V.go (pc' := 7) (lv_bipush (v := 16) X.1 X.2.1 d_Cells_grow_5 (by decide)) ?_
    refine V.br (pc' := 10) (tgt := 20) (P := 16 ≤ x) (lv_icmp_ge X.1 X.2.1 d_Cells_grow_7 (by decide)) (fun c_4 => ?_) (fun c_4 => ?_)
    · have i_5 := Int32.le_iff_toInt_le.mp c_4
      exact V.vret X hr hlk ⟨rfl, (by simp only [sp_Cells_grow_va, if_neg c_1, if_pos c_4]; exact gh1), (fun q n0_ => rfl)⟩ d_Cells_grow_20
    · have i_6 := mt Int32.le_iff_toInt_le.mpr c_4
      refine V.rd (pc' := 11) (fun hl => lv_aload_n X.1 X.2.1 d_Cells_grow_10 rfl (lv_at hl 0 rfl)) ?_
      refine V.get (pc' := 14) X hK gh0 uw_Cells rfl 0 (by decide) (mcs wd_0) rfl d_Cells_grow_11 rfl ?_
      refine V.rd (pc' := 15) (fun hl => lv_iload_n X.1 X.2.1 d_Cells_grow_14 rfl (lv_at hl 1 rfl)) ?_
      refine V.go (pc' := 16) (lv_dup2_11 X.1 X.2.1 d_Cells_grow_15 rfl rfl) ?_
      refine V.lald (pc' := 17) X hK 1 gh1 rfl (vin (by omega) (by omega)) d_Cells_grow_16 rfl ?_
      refine V.rd (pc' := 18) (fun hl => lv_lload_n X.1 X.2.1 d_Cells_grow_17 rfl (lv_at hl 2 rfl)) ?_
      refine V.go (pc' := 19) (lv_ladd X.1 X.2.1 d_Cells_grow_18) ?_
      refine V.last (pc' := 20) X hK 1 gh1 rfl (vin (by omega) (by omega)) d_Cells_grow_19 rfl (fun M_7 h_8 fr_9 => ?_)
      have h_10 : M_7 ce = some (.inr (0, [.ref va])) := (fr_9 _ (ne_k gh0 gh1 (i := 0) (j := 100016) rfl rfl (by decide))).trans gh0
      exact V.vret X hr hlk ⟨rfl, (by simp only [sp_Cells_grow_va, if_neg c_1, if_neg c_4]; exact h_8), (fun q n0_ => (fr_9 q n0_))⟩ d_Cells_grow_20

theorem d_PR_isCell_0 : decode prog_1_method_15_code 0 = .ok (.iload_n 0, 1) := by decide +kernel
theorem d_PR_isCell_1 : decode prog_1_method_15_code 1 = .ok (.ifCond .lt 13, 3) := by decide +kernel
theorem d_PR_isCell_4 : decode prog_1_method_15_code 4 = .ok (.iload_n 0, 1) := by decide +kernel
theorem d_PR_isCell_5 : decode prog_1_method_15_code 5 = .ok (.bipush 16, 2) := by decide +kernel
theorem d_PR_isCell_7 : decode prog_1_method_15_code 7 = .ok (.if_icmp .ge 7, 3) := by decide +kernel
theorem d_PR_isCell_10 : decode prog_1_method_15_code 10 = .ok (.iconst 1, 1) := by decide +kernel
theorem d_PR_isCell_11 : decode prog_1_method_15_code 11 = .ok (.goto 4, 3) := by decide +kernel
theorem d_PR_isCell_14 : decode prog_1_method_15_code 14 = .ok (.iconst 0, 1) := by decide +kernel
theorem d_PR_isCell_15 : decode prog_1_method_15_code 15 = .ok (.ireturn, 1) := by decide +kernel

def sp_isCell (x : Int32) : Int32 := if x < 0 then 0 else if 16 ≤ x then 0 else 1
set_option maxHeartbeats 4000000 in
set_option maxRecDepth 100000 in
theorem c_isCell {l : Launch} {H0 : Heap} {D : va_G} {cI cL cQ cB : ClassId} {M : mp} {x : Int32} : MC l H0 D cls7 (tysOf cI cL cQ cB) NW ({ cls := "PerformRanges", name := "isCell", desc := "(I)Z" } : Jvm.MethodName) (Cond.code ({ cls := "PerformRanges", name := "isCell", desc := "(I)Z" } : Jvm.MethodName) prog_1_method_15_code 1 (Option.some Jvm.ClassFile.FieldType.boolean) :: GW) ({ frames := 0, cells := 0, slots := 0, locals := 0 }) [.int x] M (fun v M' => v = some (.int (sp_isCell x)) ∧ M' = M) := by
  refine MC.of (cc := prog_1_method_15_code) (nL := 1) (ret := (Option.some Jvm.ClassFile.FieldType.boolean)) (lv := [(0, .int x)]) (by decide) rfl (Nat.le_of_ble_eq_true rfl) rfl ?_
  intro p e s m below meth c X hr hlk hnm hK
  have k0 : (0 : Int32).toInt = 0 := rfl
  have k1 : (1 : Int32).toInt = 1 := rfl
  have k16 : (16 : Int32).toInt = 16 := rfl
  refine V.rd (pc' := 1) (fun hl => lv_iload_n X.1 X.2.1 d_PR_isCell_0 rfl (lv_at hl 0 rfl)) ?_
  refine V.br (pc' := 4) (tgt := 14) (P := x < 0) (lv_if_lt X.1 X.2.1 d_PR_isCell_1 (by decide)) (fun c_1 => ?_) (fun c_1 => ?_)
  · have i_2 := Int32.lt_iff_toInt_lt.mp c_1
    refine V.go (pc' := 15) (lv_iconst (v := 0) X.1 X.2.1 d_PR_isCell_14 (by decide)) ?_
    exact V.zret X hr hlk rfl ⟨(by simp only [sp_isCell, if_pos c_1]), rfl⟩ d_PR_isCell_15
  · have i_3 := mt Int32.lt_iff_toInt_lt.mpr c_1
    refine V.rd (pc' := 5) (fun hl => lv_iload_n X.1 X.2.1 d_PR_isCell_4 rfl (lv_at hl 0 rfl)) ?_
    refine V.go (pc' := 7) (lv_bipush (v := 16) X.1 X.2.1 d_PR_isCell_5 (by decide)) ?_
    refine V.br (pc' := 10) (tgt := 14) (P := 16 ≤ x) (lv_icmp_ge X.1 X.2.1 d_PR_isCell_7 (by decide)) (fun c_4 => ?_) (fun c_4 => ?_)
    · have i_5 := Int32.le_iff_toInt_le.mp c_4
      refine V.go (pc' := 15) (lv_iconst (v := 0) X.1 X.2.1 d_PR_isCell_14 (by decide)) ?_
      exact V.zret X hr hlk rfl ⟨(by simp only [sp_isCell, if_neg c_1, if_pos c_4]), rfl⟩ d_PR_isCell_15
    · have i_6 := mt Int32.le_iff_toInt_le.mpr c_4
      refine V.go (pc' := 11) (lv_iconst (v := 1) X.1 X.2.1 d_PR_isCell_10 (by decide)) ?_
      refine V.go (pc' := 15) (lv_goto X.1 X.2.1 d_PR_isCell_11 (by decide)) ?_
      exact V.zret X hr hlk rfl ⟨(by simp only [sp_isCell, if_neg c_1, if_neg c_4]), rfl⟩ d_PR_isCell_15
end
section
theorem wd_1 : (Jvm.Cond.fieldLink "PerformRanges$Program" (24 : Nat) "PerformRanges$Program" "paragraphs" "I") ∈ GW := gw_of (i := 62) (by decide +kernel) (by decide +kernel)
theorem wd_2 : (Jvm.Cond.fieldLink "PerformRanges$Program" (36 : Nat) "PerformRanges$Program" "statements" "I") ∈ GW := gw_of (i := 64) (by decide +kernel) (by decide +kernel)
theorem wd_3 : (Jvm.Cond.fieldLink "PerformRanges$Program" (9 : Nat) "PerformRanges$Program" "doings" "[I") ∈ GW := gw_of (i := 59) (by decide +kernel) (by decide +kernel)
theorem wd_4 : (Jvm.Cond.methodLink "PerformRanges$Program" (28 : Nat) ({ cls := "PerformRanges$Program", name := "isParagraph", desc := "(I)Z" } : Jvm.MethodName)) ∈ GW := gw_of (i := 257) (by decide +kernel) (by decide +kernel)
theorem wd_5 : (Jvm.Cond.instanceMethod ({ cls := "PerformRanges$Program", name := "isParagraph", desc := "(I)Z" } : Jvm.MethodName)) ∈ GW := gw_of (i := 165) (by decide +kernel) (by decide +kernel)
theorem wd_6 : (Jvm.Cond.selects "PerformRanges$Program" ({ cls := "PerformRanges$Program", name := "isParagraph", desc := "(I)Z" } : Jvm.MethodName) ({ cls := "PerformRanges$Program", name := "isParagraph", desc := "(I)Z" } : Jvm.MethodName)) ∈ GW := gw_of (i := 166) (by decide +kernel) (by decide +kernel)
theorem wd_7 : (Jvm.Cond.initialized "PerformRanges$Program") ∈ GW := gw_of (i := 32) (by decide +kernel) (by decide +kernel)
theorem wd_8 : (Jvm.Cond.code ({ cls := "PerformRanges$Program", name := "isParagraph", desc := "(I)Z" } : Jvm.MethodName) prog_5_method_2_code (2 : Nat) (Option.some Jvm.ClassFile.FieldType.boolean)) ∈ GW := gw_of (i := 167) (by decide +kernel) (by decide +kernel)
theorem wd_9 : (Jvm.Cond.methodLink "PerformRanges$Program" (32 : Nat) ({ cls := "PerformRanges$Program", name := "doingOf", desc := "(I)I" } : Jvm.MethodName)) ∈ GW := gw_of (i := 351) (by decide +kernel) (by decide +kernel)
theorem wd_10 : (Jvm.Cond.instanceMethod ({ cls := "PerformRanges$Program", name := "doingOf", desc := "(I)I" } : Jvm.MethodName)) ∈ GW := gw_of (i := 352) (by decide +kernel) (by decide +kernel)
theorem wd_11 : (Jvm.Cond.selects "PerformRanges$Program" ({ cls := "PerformRanges$Program", name := "doingOf", desc := "(I)I" } : Jvm.MethodName) ({ cls := "PerformRanges$Program", name := "doingOf", desc := "(I)I" } : Jvm.MethodName)) ∈ GW := gw_of (i := 353) (by decide +kernel) (by decide +kernel)
theorem wd_12 : (Jvm.Cond.code ({ cls := "PerformRanges$Program", name := "doingOf", desc := "(I)I" } : Jvm.MethodName) prog_5_method_4_code (2 : Nat) (Option.some Jvm.ClassFile.FieldType.int)) ∈ GW := gw_of (i := 354) (by decide +kernel) (by decide +kernel)
theorem wd_13 : (Jvm.Cond.fieldLink "PerformRanges$Program" (15 : Nat) "PerformRanges$Program" "goings" "[I") ∈ GW := gw_of (i := 60) (by decide +kernel) (by decide +kernel)
theorem d_Program_isParagraph_0 : decode prog_5_method_2_code 0 = .ok (.iload_n 1, 1) := by decide +kernel
theorem d_Program_isParagraph_1 : decode prog_5_method_2_code 1 = .ok (.iconst 1, 1) := by decide +kernel
theorem d_Program_isParagraph_2 : decode prog_5_method_2_code 2 = .ok (.if_icmp .lt 21, 3) := by decide +kernel
theorem d_Program_isParagraph_5 : decode prog_5_method_2_code 5 = .ok (.iload_n 1, 1) := by decide +kernel
theorem d_Program_isParagraph_6 : decode prog_5_method_2_code 6 = .ok (.aload_n 0, 1) := by decide +kernel
theorem d_Program_isParagraph_7 : decode prog_5_method_2_code 7 = .ok (.getfield 24, 3) := by decide +kernel
theorem d_Program_isParagraph_10 : decode prog_5_method_2_code 10 = .ok (.if_icmp .gt 13, 3) := by decide +kernel
theorem d_Program_isParagraph_13 : decode prog_5_method_2_code 13 = .ok (.iload_n 1, 1) := by decide +kernel
theorem d_Program_isParagraph_14 : decode prog_5_method_2_code 14 = .ok (.bipush 60, 2) := by decide +kernel
theorem d_Program_isParagraph_16 : decode prog_5_method_2_code 16 = .ok (.if_icmp .gt 7, 3) := by decide +kernel
theorem d_Program_isParagraph_19 : decode prog_5_method_2_code 19 = .ok (.iconst 1, 1) := by decide +kernel
theorem d_Program_isParagraph_20 : decode prog_5_method_2_code 20 = .ok (.goto 4, 3) := by decide +kernel
theorem d_Program_isParagraph_23 : decode prog_5_method_2_code 23 = .ok (.iconst 0, 1) := by decide +kernel
theorem d_Program_isParagraph_24 : decode prog_5_method_2_code 24 = .ok (.ireturn, 1) := by decide +kernel

def sp_isParagraph (np : Int32) (x : Int32) : Int32 := if x < 1 then 0 else if np < x then 0 else if 60 < x then 0 else 1
set_option maxHeartbeats 4000000 in
set_option maxRecDepth 100000 in
theorem c_isParagraph {l : Launch} {H0 : Heap} {D : va_G} {cI cL cQ cB : ClassId} {M : mp} {pg dg gg tg0 : Nat} {np : Int32} {ns : Int32} {x : Int32} (gh0 : M pg = some (.inr (3, [.ref dg, .ref gg, .ref tg0, .int np, .int ns]))) : MC l H0 D cls7 (tysOf cI cL cQ cB) NW ({ cls := "PerformRanges$Program", name := "isParagraph", desc := "(I)Z" } : Jvm.MethodName) (Cond.code ({ cls := "PerformRanges$Program", name := "isParagraph", desc := "(I)Z" } : Jvm.MethodName) prog_5_method_2_code 2 (Option.some Jvm.ClassFile.FieldType.boolean) :: GW) ({ frames := 0, cells := 0, slots := 0, locals := 0 }) [.ref pg, .int x] M (fun v M' => v = some (.int (sp_isParagraph np x)) ∧ M' = M) := by
  refine MC.of (cc := prog_5_method_2_code) (nL := 2) (ret := (Option.some Jvm.ClassFile.FieldType.boolean)) (lv := [(0, .ref pg), (1, .int x)]) (by decide) rfl (Nat.le_of_ble_eq_true rfl) rfl ?_
  intro p e s m below meth c X hr hlk hnm hK
  have k0 : (0 : Int32).toInt = 0 := rfl
  have k1 : (1 : Int32).toInt = 1 := rfl
  have k60 : (60 : Int32).toInt = 60 := rfl
  refine V.rd (pc' := 1) (fun hl => lv_iload_n X.1 X.2.1 d_Program_isParagraph_0 rfl (lv_at hl 1 rfl)) ?_
  refine V.go (pc' := 2) (lv_iconst (v := 1) X.1 X.2.1 d_Program_isParagraph_1 (by decide)) ?_
  refine V.br (pc' := 5) (tgt := 23) (P := x < 1) (lv_icmp_lt X.1 X.2.1 d_Program_isParagraph_2 (by decide)) (fun c_1 => ?_) (fun c_1 => ?_)
  · have i_2 := Int32.lt_iff_toInt_lt.mp c_1
    refine V.go (pc' := 24) (lv_iconst (v := 0) X.1 X.2.1 d_Program_isParagraph_23 (by decide)) ?_
    exact V.zret X hr hlk rfl ⟨(by simp only [sp_isParagraph, if_pos c_1]), rfl⟩ d_Program_isParagraph_24
  · have i_3 := mt Int32.lt_iff_toInt_lt.mpr c_1
    refine V.rd (pc' := 6) (fun hl => lv_iload_n X.1 X.2.1 d_Program_isParagraph_5 rfl (lv_at hl 1 rfl)) ?_
    refine V.rd (pc' := 7) (fun hl => lv_aload_n X.1 X.2.1 d_Program_isParagraph_6 rfl (lv_at hl 0 rfl)) ?_
    refine V.get (pc' := 10) X hK gh0 uw_Program rfl 3 (by decide) (mcs wd_1) rfl d_Program_isParagraph_7 rfl ?_
    refine V.br (pc' := 13) (tgt := 23) (P := np < x) (lv_icmp_gt X.1 X.2.1 d_Program_isParagraph_10 (by decide)) (fun c_4 => ?_) (fun c_4 => ?_)
    · have i_5 := Int32.lt_iff_toInt_lt.mp c_4
      refine V.go (pc' := 24) (lv_iconst (v := 0) X.1 X.2.1 d_Program_isParagraph_23 (by decide)) ?_
      exact V.zret X hr hlk rfl ⟨(by simp only [sp_isParagraph, if_neg c_1, if_pos c_4]), rfl⟩ d_Program_isParagraph_24
    · have i_6 := mt Int32.lt_iff_toInt_lt.mpr c_4
      refine V.rd (pc' := 14) (fun hl => lv_iload_n X.1 X.2.1 d_Program_isParagraph_13 rfl (lv_at hl 1 rfl)) ?_
      refine V.go (pc' := 16) (lv_bipush (v := 60) X.1 X.2.1 d_Program_isParagraph_14 (by decide)) ?_
      refine V.br (pc' := 19) (tgt := 23) (P := 60 < x) (lv_icmp_gt X.1 X.2.1 d_Program_isParagraph_16 (by decide)) (fun c_7 => ?_) (fun c_7 => ?_)
      · have i_8 := Int32.lt_iff_toInt_lt.mp c_7
        refine V.go (pc' := 24) (lv_iconst (v := 0) X.1 X.2.1 d_Program_isParagraph_23 (by decide)) ?_
        exact V.zret X hr hlk rfl ⟨(by simp only [sp_isParagraph, if_neg c_1, if_neg c_4, if_pos c_7]), rfl⟩ d_Program_isParagraph_24
      · have i_9 := mt Int32.lt_iff_toInt_lt.mpr c_7
        refine V.go (pc' := 20) (lv_iconst (v := 1) X.1 X.2.1 d_Program_isParagraph_19 (by decide)) ?_
        refine V.go (pc' := 24) (lv_goto X.1 X.2.1 d_Program_isParagraph_20 (by decide)) ?_
        exact V.zret X hr hlk rfl ⟨(by simp only [sp_isParagraph, if_neg c_1, if_neg c_4, if_neg c_7]), rfl⟩ d_Program_isParagraph_24

theorem isPar_ne {np x : Int32} (h : ¬ sp_isParagraph np x = 0) : 1 ≤ x.toInt ∧ x.toInt ≤ np.toInt ∧ x.toInt ≤ 60 := by
  unfold sp_isParagraph at h
  have k1 : (1 : Int32).toInt = 1 := rfl
  have k60 : (60 : Int32).toInt = 60 := rfl
  by_cases h1 : x < 1
  · rw [if_pos h1] at h
    exact absurd rfl h
  · rw [if_neg h1] at h
    by_cases h2 : np < x
    · rw [if_pos h2] at h
      exact absurd rfl h
    · rw [if_neg h2] at h
      by_cases h3 : (60 : Int32) < x
      · rw [if_pos h3] at h
        exact absurd rfl h
      · have a1 := mt Int32.lt_iff_toInt_lt.mpr h1
        have a2 := mt Int32.lt_iff_toInt_lt.mpr h2
        have a3 := mt Int32.lt_iff_toInt_lt.mpr h3
        refine ⟨?_, ?_, ?_⟩ <;> omega

theorem d_Program_isFullOfStatements_0 : decode prog_5_method_8_code 0 = .ok (.aload_n 0, 1) := by decide +kernel
theorem d_Program_isFullOfStatements_1 : decode prog_5_method_8_code 1 = .ok (.getfield 36, 3) := by decide +kernel
theorem d_Program_isFullOfStatements_4 : decode prog_5_method_8_code 4 = .ok (.bipush 60, 2) := by decide +kernel
theorem d_Program_isFullOfStatements_6 : decode prog_5_method_8_code 6 = .ok (.if_icmp .lt 7, 3) := by decide +kernel
theorem d_Program_isFullOfStatements_9 : decode prog_5_method_8_code 9 = .ok (.iconst 1, 1) := by decide +kernel
theorem d_Program_isFullOfStatements_10 : decode prog_5_method_8_code 10 = .ok (.goto 4, 3) := by decide +kernel
theorem d_Program_isFullOfStatements_13 : decode prog_5_method_8_code 13 = .ok (.iconst 0, 1) := by decide +kernel
theorem d_Program_isFullOfStatements_14 : decode prog_5_method_8_code 14 = .ok (.ireturn, 1) := by decide +kernel

def sp_isFullOfStatements (ns : Int32) : Int32 := if ns < 60 then 0 else 1
set_option maxHeartbeats 4000000 in
set_option maxRecDepth 100000 in
theorem c_isFullOfStatements {l : Launch} {H0 : Heap} {D : va_G} {cI cL cQ cB : ClassId} {M : mp} {pg dg gg tg0 : Nat} {np : Int32} {ns : Int32} (gh0 : M pg = some (.inr (3, [.ref dg, .ref gg, .ref tg0, .int np, .int ns]))) : MC l H0 D cls7 (tysOf cI cL cQ cB) NW ({ cls := "PerformRanges$Program", name := "isFullOfStatements", desc := "()Z" } : Jvm.MethodName) (Cond.code ({ cls := "PerformRanges$Program", name := "isFullOfStatements", desc := "()Z" } : Jvm.MethodName) prog_5_method_8_code 1 (Option.some Jvm.ClassFile.FieldType.boolean) :: GW) ({ frames := 0, cells := 0, slots := 0, locals := 0 }) [.ref pg] M (fun v M' => v = some (.int (sp_isFullOfStatements ns)) ∧ M' = M) := by
  refine MC.of (cc := prog_5_method_8_code) (nL := 1) (ret := (Option.some Jvm.ClassFile.FieldType.boolean)) (lv := [(0, .ref pg)]) (by decide) rfl (Nat.le_of_ble_eq_true rfl) rfl ?_
  intro p e s m below meth c X hr hlk hnm hK
  have k0 : (0 : Int32).toInt = 0 := rfl
  have k1 : (1 : Int32).toInt = 1 := rfl
  have k60 : (60 : Int32).toInt = 60 := rfl
  refine V.rd (pc' := 1) (fun hl => lv_aload_n X.1 X.2.1 d_Program_isFullOfStatements_0 rfl (lv_at hl 0 rfl)) ?_
  refine V.get (pc' := 4) X hK gh0 uw_Program rfl 4 (by decide) (mcs wd_2) rfl d_Program_isFullOfStatements_1 rfl ?_
  refine V.go (pc' := 6) (lv_bipush (v := 60) X.1 X.2.1 d_Program_isFullOfStatements_4 (by decide)) ?_
  refine V.br (pc' := 9) (tgt := 13) (P := ns < 60) (lv_icmp_lt X.1 X.2.1 d_Program_isFullOfStatements_6 (by decide)) (fun c_1 => ?_) (fun c_1 => ?_)
  · have i_2 := Int32.lt_iff_toInt_lt.mp c_1
    refine V.go (pc' := 14) (lv_iconst (v := 0) X.1 X.2.1 d_Program_isFullOfStatements_13 (by decide)) ?_
    exact V.zret X hr hlk rfl ⟨(by simp only [sp_isFullOfStatements, if_pos c_1]), rfl⟩ d_Program_isFullOfStatements_14
  · have i_3 := mt Int32.lt_iff_toInt_lt.mpr c_1
    refine V.go (pc' := 10) (lv_iconst (v := 1) X.1 X.2.1 d_Program_isFullOfStatements_9 (by decide)) ?_
    refine V.go (pc' := 14) (lv_goto X.1 X.2.1 d_Program_isFullOfStatements_10 (by decide)) ?_
    exact V.zret X hr hlk rfl ⟨(by simp only [sp_isFullOfStatements, if_neg c_1]), rfl⟩ d_Program_isFullOfStatements_14

theorem d_Program_addParagraph_0 : decode prog_5_method_3_code 0 = .ok (.iload_n 1, 1) := by decide +kernel
theorem d_Program_addParagraph_1 : decode prog_5_method_3_code 1 = .ok (.ifCond .lt 20, 3) := by decide +kernel
theorem d_Program_addParagraph_4 : decode prog_5_method_3_code 4 = .ok (.iload_n 1, 1) := by decide +kernel
theorem d_Program_addParagraph_5 : decode prog_5_method_3_code 5 = .ok (.bipush 8, 2) := by decide +kernel
theorem d_Program_addParagraph_7 : decode prog_5_method_3_code 7 = .ok (.irem, 1) := by decide +kernel
theorem d_Program_addParagraph_8 : decode prog_5_method_3_code 8 = .ok (.iconst 4, 1) := by decide +kernel
theorem d_Program_addParagraph_9 : decode prog_5_method_3_code 9 = .ok (.if_icmp .gt 12, 3) := by decide +kernel
theorem d_Program_addParagraph_12 : decode prog_5_method_3_code 12 = .ok (.aload_n 0, 1) := by decide +kernel
theorem d_Program_addParagraph_13 : decode prog_5_method_3_code 13 = .ok (.getfield 24, 3) := by decide +kernel
theorem d_Program_addParagraph_16 : decode prog_5_method_3_code 16 = .ok (.bipush 60, 2) := by decide +kernel
theorem d_Program_addParagraph_18 : decode prog_5_method_3_code 18 = .ok (.if_icmp .lt 5, 3) := by decide +kernel
theorem d_Program_addParagraph_21 : decode prog_5_method_3_code 21 = .ok (.iconst (-1), 1) := by decide +kernel
theorem d_Program_addParagraph_22 : decode prog_5_method_3_code 22 = .ok (.ireturn, 1) := by decide +kernel
theorem d_Program_addParagraph_23 : decode prog_5_method_3_code 23 = .ok (.aload_n 0, 1) := by decide +kernel
theorem d_Program_addParagraph_24 : decode prog_5_method_3_code 24 = .ok (.getfield 9, 3) := by decide +kernel
theorem d_Program_addParagraph_27 : decode prog_5_method_3_code 27 = .ok (.aload_n 0, 1) := by decide +kernel
theorem d_Program_addParagraph_28 : decode prog_5_method_3_code 28 = .ok (.getfield 24, 3) := by decide +kernel
theorem d_Program_addParagraph_31 : decode prog_5_method_3_code 31 = .ok (.iload_n 1, 1) := by decide +kernel
theorem d_Program_addParagraph_32 : decode prog_5_method_3_code 32 = .ok (.iastore, 1) := by decide +kernel
theorem d_Program_addParagraph_33 : decode prog_5_method_3_code 33 = .ok (.aload_n 0, 1) := by decide +kernel
theorem d_Program_addParagraph_34 : decode prog_5_method_3_code 34 = .ok (.dup, 1) := by decide +kernel
theorem d_Program_addParagraph_35 : decode prog_5_method_3_code 35 = .ok (.getfield 24, 3) := by decide +kernel
theorem d_Program_addParagraph_38 : decode prog_5_method_3_code 38 = .ok (.iconst 1, 1) := by decide +kernel
theorem d_Program_addParagraph_39 : decode prog_5_method_3_code 39 = .ok (.iadd, 1) := by decide +kernel
theorem d_Program_addParagraph_40 : decode prog_5_method_3_code 40 = .ok (.putfield 24, 3) := by decide +kernel
theorem d_Program_addParagraph_43 : decode prog_5_method_3_code 43 = .ok (.aload_n 0, 1) := by decide +kernel
theorem d_Program_addParagraph_44 : decode prog_5_method_3_code 44 = .ok (.getfield 24, 3) := by decide +kernel
theorem d_Program_addParagraph_47 : decode prog_5_method_3_code 47 = .ok (.ireturn, 1) := by decide +kernel

def sp_addParagraph (np : Int32) (x : Int32) : Int32 := if x < 0 then (-1) else if 4 < (x - x / 8 * 8) then (-1) else if np < 60 then np + 1 else (-1)
def sp_addParagraph_dg (np : Int32) (dd : Nat → Int32) (x : Int32) : Nat → Int32 := if x < 0 then dd else if 4 < (x - x / 8 * 8) then dd else if np < 60 then upd dd np.toNatClampNeg x else dd
def sp_addParagraph_pg_3 (np : Int32) (x : Int32) : Int32 := if x < 0 then np else if 4 < (x - x / 8 * 8) then np else if np < 60 then np + 1 else np
set_option maxHeartbeats 4000000 in
set_option maxRecDepth 100000 in
theorem c_addParagraph {l : Launch} {H0 : Heap} {D : va_G} {cI cL cQ cB : ClassId} {M : mp} {pg dg gg tg0 : Nat} {np : Int32} {ns : Int32} {dd : Nat → Int32} {x : Int32} (hnp : 0 ≤ np.toInt) (gh0 : M pg = some (.inr (3, [.ref dg, .ref gg, .ref tg0, .int np, .int ns]))) (gh1 : M dg = some (.inl (cI, 60, .inl dd))) : MC l H0 D cls7 (tysOf cI cL cQ cB) NW ({ cls := "PerformRanges$Program", name := "addParagraph", desc := "(I)I" } : Jvm.MethodName) (Cond.code ({ cls := "PerformRanges$Program", name := "addParagraph", desc := "(I)I" } : Jvm.MethodName) prog_5_method_3_code 2 (Option.some Jvm.ClassFile.FieldType.int) :: GW) ({ frames := 0, cells := 0, slots := 0, locals := 0 }) [.ref pg, .int x] M (fun v M' => v = some (.int (sp_addParagraph np x)) ∧ M' dg = some (.inl (cI, 60, .inl (sp_addParagraph_dg np dd x))) ∧ M' pg = some (.inr (3, [.ref dg, .ref gg, .ref tg0, .int (sp_addParagraph_pg_3 np x), .int ns])) ∧ ∀ q, q ≠ dg → q ≠ pg → M' q = M q) := by
  refine MC.of (cc := prog_5_method_3_code) (nL := 2) (ret := (Option.some Jvm.ClassFile.FieldType.int)) (lv := [(0, .ref pg), (1, .int x)]) (by decide) rfl (Nat.le_of_ble_eq_true rfl) rfl ?_
  intro p e s m below meth c X hr hlk hnm hK
  have km1 : ((-1) : Int32).toInt = -1 := rfl
  have k0 : (0 : Int32).toInt = 0 := rfl
  have k1 : (1 : Int32).toInt = 1 := rfl
  have k4 : (4 : Int32).toInt = 4 := rfl
  have k8 : (8 : Int32).toInt = 8 := rfl
  have k60 : (60 : Int32).toInt = 60 := rfl
  refine V.rd (pc' := 1) (fun hl => lv_iload_n X.1 X.2.1 d_Program_addParagraph_0 rfl (lv_at hl 1 rfl)) ?_
  refine V.br (pc' := 4) (tgt := 21) (P := x < 0) (lv_if_lt X.1 X.2.1 d_Program_addParagraph_1 (by decide)) (fun c_1 => ?_) (fun c_1 => ?_)
  · have i_2 := Int32.lt_iff_toInt_lt.mp c_1
    refine V.go (pc' := 22) (lv_iconst (v := (-1)) X.1 X.2.1 d_Program_addParagraph_21 (by decide)) ?_
    exact V.iret X hr hlk ⟨(by simp only [sp_addParagraph, if_pos c_1]), (by simp only [sp_addParagraph_dg, if_pos c_1]; exact gh1), (by simp only [sp_addParagraph_pg_3, if_pos c_1]; exact gh0), (fun q n0_ n1_ => rfl)⟩ d_Program_addParagraph_22
  · have i_3 := mt Int32.lt_iff_toInt_lt.mpr c_1
    refine V.rd (pc' := 5) (fun hl => lv_iload_n X.1 X.2.1 d_Program_addParagraph_4 rfl (lv_at hl 1 rfl)) ?_
    refine V.go (pc' := 7) (lv_bipush (v := 8) X.1 X.2.1 d_Program_addParagraph_5 (by decide)) ?_
    refine V.go (pc' := 8) (lv_irem X.1 X.2.1 d_Program_addParagraph_7 (by decide)) ?_
    refine V.go (pc' := 9) (lv_iconst (v := 4) X.1 X.2.1 d_Program_addParagraph_8 (by decide)) ?_
    refine V.br (pc' := 12) (tgt := 21) (P := 4 < (x - x / 8 * 8)) (lv_icmp_gt X.1 X.2.1 d_Program_addParagraph_9 (by decide)) (fun c_4 => ?_) (fun c_4 => ?_)
    · have i_5 := Int32.lt_iff_toInt_lt.mp c_4
      refine V.go (pc' := 22) (lv_iconst (v := (-1)) X.1 X.2.1 d_Program_addParagraph_21 (by decide)) ?_
      exact V.iret X hr hlk ⟨(by simp only [sp_addParagraph, if_neg c_1, if_pos c_4]), (by simp only [sp_addParagraph_dg, if_neg c_1, if_pos c_4]; exact gh1), (by simp only [sp_addParagraph_pg_3, if_neg c_1, if_pos c_4]; exact gh0), (fun q n0_ n1_ => rfl)⟩ d_Program_addParagraph_22
    · have i_6 := mt Int32.lt_iff_toInt_lt.mpr c_4
      refine V.rd (pc' := 13) (fun hl => lv_aload_n X.1 X.2.1 d_Program_addParagraph_12 rfl (lv_at hl 0 rfl)) ?_
      refine V.get (pc' := 16) X hK gh0 uw_Program rfl 3 (by decide) (mcs wd_1) rfl d_Program_addParagraph_13 rfl ?_
      refine V.go (pc' := 18) (lv_bipush (v := 60) X.1 X.2.1 d_Program_addParagraph_16 (by decide)) ?_
      refine V.br (pc' := 21) (tgt := 23) (P := np < 60) (lv_icmp_lt X.1 X.2.1 d_Program_addParagraph_18 (by decide)) (fun c_7 => ?_) (fun c_7 => ?_)
      · have i_8 := Int32.lt_iff_toInt_lt.mp c_7
        refine V.rd (pc' := 24) (fun hl => lv_aload_n X.1 X.2.1 d_Program_addParagraph_23 rfl (lv_at hl 0 rfl)) ?_
        refine V.get (pc' := 27) X hK gh0 uw_Program rfl 0 (by decide) (mcs wd_3) rfl d_Program_addParagraph_24 rfl ?_
        refine V.rd (pc' := 28) (fun hl => lv_aload_n X.1 X.2.1 d_Program_addParagraph_27 rfl (lv_at hl 0 rfl)) ?_
        refine V.get (pc' := 31) X hK gh0 uw_Program rfl 3 (by decide) (mcs wd_1) rfl d_Program_addParagraph_28 rfl ?_
        refine V.rd (pc' := 32) (fun hl => lv_iload_n X.1 X.2.1 d_Program_addParagraph_31 rfl (lv_at hl 1 rfl)) ?_
        refine V.iast (pc' := 33) X hK 0 gh1 rfl (vin (by omega) (by omega)) d_Program_addParagraph_32 rfl (fun M_9 h_10 fr_11 => ?_)
        have h_12 : M_9 pg = some (.inr (3, [.ref dg, .ref gg, .ref tg0, .int np, .int ns])) := (fr_11 _ (ne_k gh0 gh1 (i := 3) (j := 1060) rfl rfl (by decide))).trans gh0
        refine V.rd (pc' := 34) (fun hl => lv_aload_n X.1 X.2.1 d_Program_addParagraph_33 rfl (lv_at hl 0 rfl)) ?_
        refine V.go (pc' := 35) (lv_dup X.1 X.2.1 d_Program_addParagraph_34 rfl) ?_
        refine V.get (pc' := 38) X hK h_12 uw_Program rfl 3 (by decide) (mcs wd_1) rfl d_Program_addParagraph_35 rfl ?_
        refine V.go (pc' := 39) (lv_iconst (v := 1) X.1 X.2.1 d_Program_addParagraph_38 (by decide)) ?_
        refine V.go (pc' := 40) (lv_iadd X.1 X.2.1 d_Program_addParagraph_39) ?_
        have s_13 : (np + 1).toInt = np.toInt + 1 := i32_add1 (by omega)
        refine V.put (pc' := 43) X hK h_12 uw_Program t_Program tok_Program nm_Program rfl 3 (by decide) (mcs wd_1) rfl rfl rfl (Nat.le_of_ble_eq_true rfl) (fs' := [.ref dg, .ref gg, .ref tg0, .int (np + 1), .int ns]) rfl d_Program_addParagraph_40 rfl (fun M_14 h_15 fr_16 => ?_)
        have h_17 : M_14 dg = some (.inl (cI, 60, .inl (upd dd np.toNatClampNeg x))) := (fr_16 _ (ne_k h_10 h_12 (i := 1060) (j := 3) rfl rfl (by decide))).trans h_10
        refine V.rd (pc' := 44) (fun hl => lv_aload_n X.1 X.2.1 d_Program_addParagraph_43 rfl (lv_at hl 0 rfl)) ?_
        refine V.get (pc' := 47) X hK h_15 uw_Program rfl 3 (by decide) (mcs wd_1) rfl d_Program_addParagraph_44 rfl ?_
        exact V.iret X hr hlk ⟨(by simp only [sp_addParagraph, if_neg c_1, if_neg c_4, if_pos c_7]), (by simp only [sp_addParagraph_dg, if_neg c_1, if_neg c_4, if_pos c_7]; exact h_17), (by simp only [sp_addParagraph_pg_3, if_neg c_1, if_neg c_4, if_pos c_7]; exact h_15), (fun q n0_ n1_ => (fr_16 q n1_).trans ((fr_11 q n0_)))⟩ d_Program_addParagraph_47
      · have i_18 := mt Int32.lt_iff_toInt_lt.mpr c_7
        refine V.go (pc' := 22) (lv_iconst (v := (-1)) X.1 X.2.1 d_Program_addParagraph_21 (by decide)) ?_
        exact V.iret X hr hlk ⟨(by simp only [sp_addParagraph, if_neg c_1, if_neg c_4, if_neg c_7]), (by simp only [sp_addParagraph_dg, if_neg c_1, if_neg c_4, if_neg c_7]; exact gh1), (by simp only [sp_addParagraph_pg_3, if_neg c_1, if_neg c_4, if_neg c_7]; exact gh0), (fun q n0_ n1_ => rfl)⟩ d_Program_addParagraph_22

theorem d_Program_doingOf_0 : decode prog_5_method_4_code 0 = .ok (.aload_n 0, 1) := by decide +kernel
theorem d_Program_doingOf_1 : decode prog_5_method_4_code 1 = .ok (.iload_n 1, 1) := by decide +kernel
theorem d_Program_doingOf_2 : decode prog_5_method_4_code 2 = .ok (.invokevirtual 28, 3) := by decide +kernel
theorem d_Program_doingOf_5 : decode prog_5_method_4_code 5 = .ok (.ifCond .eq 14, 3) := by decide +kernel
theorem d_Program_doingOf_8 : decode prog_5_method_4_code 8 = .ok (.aload_n 0, 1) := by decide +kernel
theorem d_Program_doingOf_9 : decode prog_5_method_4_code 9 = .ok (.getfield 9, 3) := by decide +kernel
theorem d_Program_doingOf_12 : decode prog_5_method_4_code 12 = .ok (.iload_n 1, 1) := by decide +kernel
theorem d_Program_doingOf_13 : decode prog_5_method_4_code 13 = .ok (.iconst 1, 1) := by decide +kernel
theorem d_Program_doingOf_14 : decode prog_5_method_4_code 14 = .ok (.isub, 1) := by decide +kernel
theorem d_Program_doingOf_15 : decode prog_5_method_4_code 15 = .ok (.iaload, 1) := by decide +kernel
theorem d_Program_doingOf_16 : decode prog_5_method_4_code 16 = .ok (.goto 4, 3) := by decide +kernel
theorem d_Program_doingOf_19 : decode prog_5_method_4_code 19 = .ok (.iconst 0, 1) := by decide +kernel
theorem d_Program_doingOf_20 : decode prog_5_method_4_code 20 = .ok (.ireturn, 1) := by decide +kernel

def sp_doingOf (np : Int32) (dd : Nat → Int32) (x : Int32) : Int32 := if (sp_isParagraph np x) = 0 then 0 else dd (x - 1).toNatClampNeg
set_option maxHeartbeats 4000000 in
set_option maxRecDepth 100000 in
theorem c_doingOf {l : Launch} {H0 : Heap} {D : va_G} {cI cL cQ cB : ClassId} {M : mp} {pg dg gg tg0 : Nat} {np : Int32} {ns : Int32} {dd : Nat → Int32} {x : Int32} (gh0 : M pg = some (.inr (3, [.ref dg, .ref gg, .ref tg0, .int np, .int ns]))) (gh1 : M dg = some (.inl (cI, 60, .inl dd))) : MC l H0 D cls7 (tysOf cI cL cQ cB) NW ({ cls := "PerformRanges$Program", name := "doingOf", desc := "(I)I" } : Jvm.MethodName) (Cond.code ({ cls := "PerformRanges$Program", name := "doingOf", desc := "(I)I" } : Jvm.MethodName) prog_5_method_4_code 2 (Option.some Jvm.ClassFile.FieldType.int) :: GW) ({ frames := 1, cells := 0, slots := 0, locals := 21 }) [.ref pg, .int x] M (fun v M' => v = some (.int (sp_doingOf np dd x)) ∧ M' = M) := by
  refine MC.of (cc := prog_5_method_4_code) (nL := 2) (ret := (Option.some Jvm.ClassFile.FieldType.int)) (lv := [(0, .ref pg), (1, .int x)]) (by decide) rfl (Nat.le_of_ble_eq_true rfl) rfl ?_
  intro p e s m below meth c X hr hlk hnm hK
  have k0 : (0 : Int32).toInt = 0 := rfl
  have k1 : (1 : Int32).toInt = 1 := rfl
  refine V.rd (pc' := 1) (fun hl => lv_aload_n X.1 X.2.1 d_Program_doingOf_0 rfl (lv_at hl 0 rfl)) ?_
  refine V.rd (pc' := 2) (fun hl => lv_iload_n X.1 X.2.1 d_Program_doingOf_1 rfl (lv_at hl 1 rfl)) ?_
  refine V.callV0 (pc' := 5) X hK (c_isParagraph  (pg := pg) (dg := dg) (gg := gg) (tg0 := tg0) (np := np) (ns := ns) (x := x)   gh0  ) gh0 rfl (cwG (n := 1) X (mcs wd_4) (mcs wd_5) (mcs wd_6) (mcs wd_7) wd_8 (by decide +kernel) (by decide) (by decide)) rfl rfl (Nat.le_of_ble_eq_true rfl) d_Program_doingOf_2 ⟨by decide, by decide⟩ rfl (st1 := [.int (sp_isParagraph np x)]) rfl ?_
  refine V.br (pc' := 8) (tgt := 19) (P := (sp_isParagraph np x) = 0) (lv_if_eq X.1 X.2.1 d_Program_doingOf_5 (by decide)) (fun c_2 => ?_) (fun c_2 => ?_)
  · have i_3 := congrArg Int32.toInt c_2
    refine V.go (pc' := 20) (lv_iconst (v := 0) X.1 X.2.1 d_Program_doingOf_19 (by decide)) ?_
    exact V.iret X hr hlk ⟨(by simp only [sp_doingOf, if_pos c_2]), rfl⟩ d_Program_doingOf_20
  · have i_4 := isPar_ne c_2
    refine V.rd (pc' := 9) (fun hl => lv_aload_n X.1 X.2.1 d_Program_doingOf_8 rfl (lv_at hl 0 rfl)) ?_
    refine V.get (pc' := 12) X hK gh0 uw_Program rfl 0 (by decide) (mcs wd_3) rfl d_Program_doingOf_9 rfl ?_
    refine V.rd (pc' := 13) (fun hl => lv_iload_n X.1 X.2.1 d_Program_doingOf_12 rfl (lv_at hl 1 rfl)) ?_
    refine V.go (pc' := 14) (lv_iconst (v := 1) X.1 X.2.1 d_Program_doingOf_13 (by decide)) ?_
    refine V.go (pc' := 15) (lv_isub X.1 X.2.1 d_Program_doingOf_14) ?_
    have s_5 : (x - 1).toInt = x.toInt - 1 := i32_sub1 (by omega)
    refine V.iald (pc' := 16) X hK 0 gh1 rfl (vin (by omega) (by omega)) d_Program_doingOf_15 rfl ?_
    refine V.go (pc' := 20) (lv_goto X.1 X.2.1 d_Program_doingOf_16 (by decide)) ?_
    exact V.iret X hr hlk ⟨(by simp only [sp_doingOf, if_neg c_2]), rfl⟩ d_Program_doingOf_20

theorem d_Program_performedBy_0 : decode prog_5_method_5_code 0 = .ok (.aload_n 0, 1) := by decide +kernel
theorem d_Program_performedBy_1 : decode prog_5_method_5_code 1 = .ok (.iload_n 1, 1) := by decide +kernel
theorem d_Program_performedBy_2 : decode prog_5_method_5_code 2 = .ok (.invokevirtual 32, 3) := by decide +kernel
theorem d_Program_performedBy_5 : decode prog_5_method_5_code 5 = .ok (.istore_n 2, 1) := by decide +kernel
theorem d_Program_performedBy_6 : decode prog_5_method_5_code 6 = .ok (.iload_n 2, 1) := by decide +kernel
theorem d_Program_performedBy_7 : decode prog_5_method_5_code 7 = .ok (.bipush 8, 2) := by decide +kernel
theorem d_Program_performedBy_9 : decode prog_5_method_5_code 9 = .ok (.irem, 1) := by decide +kernel
theorem d_Program_performedBy_10 : decode prog_5_method_5_code 10 = .ok (.iconst 2, 1) := by decide +kernel
theorem d_Program_performedBy_11 : decode prog_5_method_5_code 11 = .ok (.if_icmp .ne 10, 3) := by decide +kernel
theorem d_Program_performedBy_14 : decode prog_5_method_5_code 14 = .ok (.iload_n 2, 1) := by decide +kernel
theorem d_Program_performedBy_15 : decode prog_5_method_5_code 15 = .ok (.bipush 8, 2) := by decide +kernel
theorem d_Program_performedBy_17 : decode prog_5_method_5_code 17 = .ok (.idiv, 1) := by decide +kernel
theorem d_Program_performedBy_18 : decode prog_5_method_5_code 18 = .ok (.goto 4, 3) := by decide +kernel
theorem d_Program_performedBy_21 : decode prog_5_method_5_code 21 = .ok (.iconst (-1), 1) := by decide +kernel
theorem d_Program_performedBy_22 : decode prog_5_method_5_code 22 = .ok (.ireturn, 1) := by decide +kernel

def sp_performedBy (np : Int32) (dd : Nat → Int32) (x : Int32) : Int32 := if ((sp_doingOf np dd x) - (sp_doingOf np dd x) / 8 * 8) = 2 then (sp_doingOf np dd x) / 8 else (-1)
set_option maxHeartbeats 4000000 in
set_option maxRecDepth 100000 in
theorem c_performedBy {l : Launch} {H0 : Heap} {D : va_G} {cI cL cQ cB : ClassId} {M : mp} {pg dg gg tg0 : Nat} {np : Int32} {ns : Int32} {dd : Nat → Int32} {x : Int32} (gh0 : M pg = some (.inr (3, [.ref dg, .ref gg, .ref tg0, .int np, .int ns]))) (gh1 : M dg = some (.inl (cI, 60, .inl dd))) : MC l H0 D cls7 (tysOf cI cL cQ cB) NW ({ cls := "PerformRanges$Program", name := "performedBy", desc := "(I)I" } : Jvm.MethodName) (Cond.code ({ cls := "PerformRanges$Program", name := "performedBy", desc := "(I)I" } : Jvm.MethodName) prog_5_method_5_code 3 (Option.some Jvm.ClassFile.FieldType.int) :: GW) ({ frames := 2, cells := 0, slots := 0, locals := 42 }) [.ref pg, .int x] M (fun v M' => v = some (.int (sp_performedBy np dd x)) ∧ M' = M) := by
  refine MC.of (cc := prog_5_method_5_code) (nL := 3) (ret := (Option.some Jvm.ClassFile.FieldType.int)) (lv := [(0, .ref pg), (1, .int x)]) (by decide) rfl (Nat.le_of_ble_eq_true rfl) rfl ?_
  intro p e s m below meth c X hr hlk hnm hK
  have km1 : ((-1) : Int32).toInt = -1 := rfl
  have k2 : (2 : Int32).toInt = 2 := rfl
  have k8 : (8 : Int32).toInt = 8 := rfl
  refine V.rd (pc' := 1) (fun hl => lv_aload_n X.1 X.2.1 d_Program_performedBy_0 rfl (lv_at hl 0 rfl)) ?_
  refine V.rd (pc' := 2) (fun hl => lv_iload_n X.1 X.2.1 d_Program_performedBy_1 rfl (lv_at hl 1 rfl)) ?_
  refine V.callV0 (pc' := 5) X hK (c_doingOf  (pg := pg) (dg := dg) (gg := gg) (tg0 := tg0) (np := np) (ns := ns) (dd := dd) (x := x)   gh0 gh1  ) gh0 rfl (cwG (n := 1) X (mcs wd_9) (mcs wd_10) (mcs wd_11) (mcs wd_7) wd_12 (by decide +kernel) (by decide) (by decide)) rfl rfl (Nat.le_of_ble_eq_true rfl) d_Program_performedBy_2 ⟨by decide, by decide⟩ rfl (st1 := [.int (sp_doingOf np dd x)]) rfl ?_
  refine V.wr (pc' := 6) (lv' := [(2, .int (sp_doingOf np dd x)), (0, .ref pg), (1, .int x)]) (fun hl => lv_istore_n X.1 X.2.1 d_Program_performedBy_5 rfl hl (by decide) rfl) ?_
  refine V.rd (pc' := 7) (fun hl => lv_iload_n X.1 X.2.1 d_Program_performedBy_6 rfl (lv_at hl 0 rfl)) ?_
  refine V.go (pc' := 9) (lv_bipush (v := 8) X.1 X.2.1 d_Program_performedBy_7 (by decide)) ?_
  refine V.go (pc' := 10) (lv_irem X.1 X.2.1 d_Program_performedBy_9 (by decide)) ?_
  refine V.go (pc' := 11) (lv_iconst (v := 2) X.1 X.2.1 d_Program_performedBy_10 (by decide)) ?_
  refine V.bn (pc' := 14) (tgt := 21) (P := ((sp_doingOf np dd x) - (sp_doingOf np dd x) / 8 * 8) = 2) (lv_icmp_ne X.1 X.2.1 d_Program_performedBy_11 (by decide)) (fun c_2 => ?_) (fun c_2 => ?_)
  · have i_3 := congrArg Int32.toInt c_2
    refine V.rd (pc' := 15) (fun hl => lv_iload_n X.1 X.2.1 d_Program_performedBy_14 rfl (lv_at hl 0 rfl)) ?_
    refine V.go (pc' := 17) (lv_bipush (v := 8) X.1 X.2.1 d_Program_performedBy_15 (by decide)) ?_
    refine V.go (pc' := 18) (lv_idiv X.1 X.2.1 d_Program_performedBy_17 (by decide)) ?_
    refine V.go (pc' := 22) (lv_goto X.1 X.2.1 d_Program_performedBy_18 (by decide)) ?_
    exact V.iret X hr hlk ⟨(by simp only [sp_performedBy, if_pos c_2]), rfl⟩ d_Program_performedBy_22
  · have i_4 := mt Int32.toInt_inj.mp c_2
    refine V.go (pc' := 22) (lv_iconst (v := (-1)) X.1 X.2.1 d_Program_performedBy_21 (by decide)) ?_
    exact V.iret X hr hlk ⟨(by simp only [sp_performedBy, if_neg c_2]), rfl⟩ d_Program_performedBy_22

theorem d_Program_tellGoing_0 : decode prog_5_method_6_code 0 = .ok (.aload_n 0, 1) := by decide +kernel
theorem d_Program_tellGoing_1 : decode prog_5_method_6_code 1 = .ok (.iload_n 1, 1) := by decide +kernel
theorem d_Program_tellGoing_2 : decode prog_5_method_6_code 2 = .ok (.invokevirtual 28, 3) := by decide +kernel
theorem d_Program_tellGoing_5 : decode prog_5_method_6_code 5 = .ok (.ifCond .ne 5, 3) := by decide +kernel
theorem d_Program_tellGoing_8 : decode prog_5_method_6_code 8 = .ok (.iconst (-1), 1) := by decide +kernel
theorem d_Program_tellGoing_9 : decode prog_5_method_6_code 9 = .ok (.ireturn, 1) := by decide +kernel
theorem d_Program_tellGoing_10 : decode prog_5_method_6_code 10 = .ok (.aload_n 0, 1) := by decide +kernel
theorem d_Program_tellGoing_11 : decode prog_5_method_6_code 11 = .ok (.getfield 15, 3) := by decide +kernel
theorem d_Program_tellGoing_14 : decode prog_5_method_6_code 14 = .ok (.iload_n 1, 1) := by decide +kernel
theorem d_Program_tellGoing_15 : decode prog_5_method_6_code 15 = .ok (.iconst 1, 1) := by decide +kernel
theorem d_Program_tellGoing_16 : decode prog_5_method_6_code 16 = .ok (.isub, 1) := by decide +kernel
theorem d_Program_tellGoing_17 : decode prog_5_method_6_code 17 = .ok (.iaload, 1) := by decide +kernel
theorem d_Program_tellGoing_18 : decode prog_5_method_6_code 18 = .ok (.istore_n 3, 1) := by decide +kernel
theorem d_Program_tellGoing_19 : decode prog_5_method_6_code 19 = .ok (.aload_n 0, 1) := by decide +kernel
theorem d_Program_tellGoing_20 : decode prog_5_method_6_code 20 = .ok (.getfield 15, 3) := by decide +kernel
theorem d_Program_tellGoing_23 : decode prog_5_method_6_code 23 = .ok (.iload_n 1, 1) := by decide +kernel
theorem d_Program_tellGoing_24 : decode prog_5_method_6_code 24 = .ok (.iconst 1, 1) := by decide +kernel
theorem d_Program_tellGoing_25 : decode prog_5_method_6_code 25 = .ok (.isub, 1) := by decide +kernel
theorem d_Program_tellGoing_26 : decode prog_5_method_6_code 26 = .ok (.iload_n 2, 1) := by decide +kernel
theorem d_Program_tellGoing_27 : decode prog_5_method_6_code 27 = .ok (.iastore, 1) := by decide +kernel
theorem d_Program_tellGoing_28 : decode prog_5_method_6_code 28 = .ok (.iload_n 3, 1) := by decide +kernel
theorem d_Program_tellGoing_29 : decode prog_5_method_6_code 29 = .ok (.ireturn, 1) := by decide +kernel

def sp_tellGoing (np : Int32) (gd : Nat → Int32) (x : Int32) : Int32 := if (sp_isParagraph np x) = 0 then (-1) else gd (x - 1).toNatClampNeg
def sp_tellGoing_gg (np : Int32) (gd : Nat → Int32) (x : Int32) (y : Int32) : Nat → Int32 := if (sp_isParagraph np x) = 0 then gd else upd gd (x - 1).toNatClampNeg y
set_option maxHeartbeats 4000000 in
set_option maxRecDepth 100000 in
theorem c_tellGoing {l : Launch} {H0 : Heap} {D : va_G} {cI cL cQ cB : ClassId} {M : mp} {pg dg gg tg0 : Nat} {np : Int32} {ns : Int32} {gd : Nat → Int32} {x : Int32} {y : Int32} (gh0 : M pg = some (.inr (3, [.ref dg, .ref gg, .ref tg0, .int np, .int ns]))) (gh1 : M gg = some (.inl (cI, 60, .inl gd))) : MC l H0 D cls7 (tysOf cI cL cQ cB) NW ({ cls := "PerformRanges$Program", name := "tellGoing", desc := "(II)I" } : Jvm.MethodName) (Cond.code ({ cls := "PerformRanges$Program", name := "tellGoing", desc := "(II)I" } : Jvm.MethodName) prog_5_method_6_code 4 (Option.some Jvm.ClassFile.FieldType.int) :: GW) ({ frames := 1, cells := 0, slots := 0, locals := 21 }) [.ref pg, .int x, .int y] M (fun v M' => v = some (.int (sp_tellGoing np gd x)) ∧ M' gg = some (.inl (cI, 60, .inl (sp_tellGoing_gg np gd x y))) ∧ ∀ q, q ≠ gg → M' q = M q) := by
  refine MC.of (cc := prog_5_method_6_code) (nL := 4) (ret := (Option.some Jvm.ClassFile.FieldType.int)) (lv := [(0, .ref pg), (1, .int x), (2, .int y)]) (by decide) rfl (Nat.le_of_ble_eq_true rfl) rfl ?_
  intro p e s m below meth c X hr hlk hnm hK
  have km1 : ((-1) : Int32).toInt = -1 := rfl
  have k0 : (0 : Int32).toInt = 0 := rfl
  have k1 : (1 : Int32).toInt = 1 := rfl
  refine V.rd (pc' := 1) (fun hl => lv_aload_n X.1 X.2.1 d_Program_tellGoing_0 rfl (lv_at hl 0 rfl)) ?_
  refine V.rd (pc' := 2) (fun hl => lv_iload_n X.1 X.2.1 d_Program_tellGoing_1 rfl (lv_at hl 1 rfl)) ?_
  refine V.callV0 (pc' := 5) X hK (c_isParagraph  (pg := pg) (dg := dg) (gg := gg) (tg0 := tg0) (np := np) (ns := ns) (x := x)   gh0  ) gh0 rfl (cwG (n := 1) X (mcs wd_4) (mcs wd_5) (mcs wd_6) (mcs wd_7) wd_8 (by decide +kernel) (by decide) (by decide)) rfl rfl (Nat.le_of_ble_eq_true rfl) d_Program_tellGoing_2 ⟨by decide, by decide⟩ rfl (st1 := [.int (sp_isParagraph np x)]) rfl ?_
  refine V.bn (pc' := 8) (tgt := 10) (P := (sp_isParagraph np x) = 0) (lv_if_ne X.1 X.2.1 d_Program_tellGoing_5 (by decide)) (fun c_2 => ?_) (fun c_2 => ?_)
  · have i_3 := congrArg Int32.toInt c_2
    refine V.go (pc' := 9) (lv_iconst (v := (-1)) X.1 X.2.1 d_Program_tellGoing_8 (by decide)) ?_
    exact V.iret X hr hlk ⟨(by simp only [sp_tellGoing, if_pos c_2]), (by simp only [sp_tellGoing_gg, if_pos c_2]; exact gh1), (fun q n0_ => rfl)⟩ d_Program_tellGoing_9
  · have i_4 := isPar_ne c_2
    refine V.rd (pc' := 11) (fun hl => lv_aload_n X.1 X.2.1 d_Program_tellGoing_10 rfl (lv_at hl 0 rfl)) ?_
    refine V.get (pc' := 14) X hK gh0 uw_Program rfl 1 (by decide) (mcs wd_13) rfl d_Program_tellGoing_11 rfl ?_
    refine V.rd (pc' := 15) (fun hl => lv_iload_n X.1 X.2.1 d_Program_tellGoing_14 rfl (lv_at hl 1 rfl)) ?_
    refine V.go (pc' := 16) (lv_iconst (v := 1) X.1 X.2.1 d_Program_tellGoing_15 (by decide)) ?_
    refine V.go (pc' := 17) (lv_isub X.1 X.2.1 d_Program_tellGoing_16) ?_
    have s_5 : (x - 1).toInt = x.toInt - 1 := i32_sub1 (by omega)
    refine V.iald (pc' := 18) X hK 0 gh1 rfl (vin (by omega) (by omega)) d_Program_tellGoing_17 rfl ?_
    refine V.wr (pc' := 19) (lv' := [(3, .int (gd (x - 1).toNatClampNeg)), (0, .ref pg), (1, .int x), (2, .int y)]) (fun hl => lv_istore_n X.1 X.2.1 d_Program_tellGoing_18 rfl hl (by decide) rfl) ?_
    refine V.rd (pc' := 20) (fun hl => lv_aload_n X.1 X.2.1 d_Program_tellGoing_19 rfl (lv_at hl 1 rfl)) ?_
    refine V.get (pc' := 23) X hK gh0 uw_Program rfl 1 (by decide) (mcs wd_13) rfl d_Program_tellGoing_20 rfl ?_
    refine V.rd (pc' := 24) (fun hl => lv_iload_n X.1 X.2.1 d_Program_tellGoing_23 rfl (lv_at hl 2 rfl)) ?_
    refine V.go (pc' := 25) (lv_iconst (v := 1) X.1 X.2.1 d_Program_tellGoing_24 (by decide)) ?_
    refine V.go (pc' := 26) (lv_isub X.1 X.2.1 d_Program_tellGoing_25) ?_
    have s_6 : (x - 1).toInt = x.toInt - 1 := i32_sub1 (by omega)
    refine V.rd (pc' := 27) (fun hl => lv_iload_n X.1 X.2.1 d_Program_tellGoing_26 rfl (lv_at hl 3 rfl)) ?_
    refine V.iast (pc' := 28) X hK 0 gh1 rfl (vin (by omega) (by omega)) d_Program_tellGoing_27 rfl (fun M_7 h_8 fr_9 => ?_)
    have h_10 : M_7 pg = some (.inr (3, [.ref dg, .ref gg, .ref tg0, .int np, .int ns])) := (fr_9 _ (ne_k gh0 gh1 (i := 3) (j := 1060) rfl rfl (by decide))).trans gh0
    refine V.rd (pc' := 29) (fun hl => lv_iload_n X.1 X.2.1 d_Program_tellGoing_28 rfl (lv_at hl 0 rfl)) ?_
    exact V.iret X hr hlk ⟨(by simp only [sp_tellGoing, if_neg c_2]), (by simp only [sp_tellGoing_gg, if_neg c_2]; exact h_8), (fun q n0_ => (fr_9 q n0_))⟩ d_Program_tellGoing_29

theorem d_Program_goingOf_0 : decode prog_5_method_7_code 0 = .ok (.aload_n 0, 1) := by decide +kernel
theorem d_Program_goingOf_1 : decode prog_5_method_7_code 1 = .ok (.iload_n 1, 1) := by decide +kernel
theorem d_Program_goingOf_2 : decode prog_5_method_7_code 2 = .ok (.invokevirtual 28, 3) := by decide +kernel
theorem d_Program_goingOf_5 : decode prog_5_method_7_code 5 = .ok (.ifCond .eq 14, 3) := by decide +kernel
theorem d_Program_goingOf_8 : decode prog_5_method_7_code 8 = .ok (.aload_n 0, 1) := by decide +kernel
theorem d_Program_goingOf_9 : decode prog_5_method_7_code 9 = .ok (.getfield 15, 3) := by decide +kernel
theorem d_Program_goingOf_12 : decode prog_5_method_7_code 12 = .ok (.iload_n 1, 1) := by decide +kernel
theorem d_Program_goingOf_13 : decode prog_5_method_7_code 13 = .ok (.iconst 1, 1) := by decide +kernel
theorem d_Program_goingOf_14 : decode prog_5_method_7_code 14 = .ok (.isub, 1) := by decide +kernel
theorem d_Program_goingOf_15 : decode prog_5_method_7_code 15 = .ok (.iaload, 1) := by decide +kernel
theorem d_Program_goingOf_16 : decode prog_5_method_7_code 16 = .ok (.goto 4, 3) := by decide +kernel
theorem d_Program_goingOf_19 : decode prog_5_method_7_code 19 = .ok (.iconst 0, 1) := by decide +kernel
theorem d_Program_goingOf_20 : decode prog_5_method_7_code 20 = .ok (.ireturn, 1) := by decide +kernel

def sp_goingOf (np : Int32) (gd : Nat → Int32) (x : Int32) : Int32 := if (sp_isParagraph np x) = 0 then 0 else gd (x - 1).toNatClampNeg
set_option maxHeartbeats 4000000 in
set_option maxRecDepth 100000 in
theorem c_goingOf {l : Launch} {H0 : Heap} {D : va_G} {cI cL cQ cB : ClassId} {M : mp} {pg dg gg tg0 : Nat} {np : Int32} {ns : Int32} {gd : Nat → Int32} {x : Int32} (gh0 : M pg = some (.inr (3, [.ref dg, .ref gg, .ref tg0, .int np, .int ns]))) (gh1 : M gg = some (.inl (cI, 60, .inl gd))) : MC l H0 D cls7 (tysOf cI cL cQ cB) NW ({ cls := "PerformRanges$Program", name := "goingOf", desc := "(I)I" } : Jvm.MethodName) (Cond.code ({ cls := "PerformRanges$Program", name := "goingOf", desc := "(I)I" } : Jvm.MethodName) prog_5_method_7_code 2 (Option.some Jvm.ClassFile.FieldType.int) :: GW) ({ frames := 1, cells := 0, slots := 0, locals := 21 }) [.ref pg, .int x] M (fun v M' => v = some (.int (sp_goingOf np gd x)) ∧ M' = M) := by
  refine MC.of (cc := prog_5_method_7_code) (nL := 2) (ret := (Option.some Jvm.ClassFile.FieldType.int)) (lv := [(0, .ref pg), (1, .int x)]) (by decide) rfl (Nat.le_of_ble_eq_true rfl) rfl ?_
  intro p e s m below meth c X hr hlk hnm hK
  have k0 : (0 : Int32).toInt = 0 := rfl
  have k1 : (1 : Int32).toInt = 1 := rfl
  refine V.rd (pc' := 1) (fun hl => lv_aload_n X.1 X.2.1 d_Program_goingOf_0 rfl (lv_at hl 0 rfl)) ?_
  refine V.rd (pc' := 2) (fun hl => lv_iload_n X.1 X.2.1 d_Program_goingOf_1 rfl (lv_at hl 1 rfl)) ?_
  refine V.callV0 (pc' := 5) X hK (c_isParagraph  (pg := pg) (dg := dg) (gg := gg) (tg0 := tg0) (np := np) (ns := ns) (x := x)   gh0  ) gh0 rfl (cwG (n := 1) X (mcs wd_4) (mcs wd_5) (mcs wd_6) (mcs wd_7) wd_8 (by decide +kernel) (by decide) (by decide)) rfl rfl (Nat.le_of_ble_eq_true rfl) d_Program_goingOf_2 ⟨by decide, by decide⟩ rfl (st1 := [.int (sp_isParagraph np x)]) rfl ?_
  refine V.br (pc' := 8) (tgt := 19) (P := (sp_isParagraph np x) = 0) (lv_if_eq X.1 X.2.1 d_Program_goingOf_5 (by decide)) (fun c_2 => ?_) (fun c_2 => ?_)
  · have i_3 := congrArg Int32.toInt c_2
    refine V.go (pc' := 20) (lv_iconst (v := 0) X.1 X.2.1 d_Program_goingOf_19 (by decide)) ?_
    exact V.iret X hr hlk ⟨(by simp only [sp_goingOf, if_pos c_2]), rfl⟩ d_Program_goingOf_20
  · have i_4 := isPar_ne c_2
    refine V.rd (pc' := 9) (fun hl => lv_aload_n X.1 X.2.1 d_Program_goingOf_8 rfl (lv_at hl 0 rfl)) ?_
    refine V.get (pc' := 12) X hK gh0 uw_Program rfl 1 (by decide) (mcs wd_13) rfl d_Program_goingOf_9 rfl ?_
    refine V.rd (pc' := 13) (fun hl => lv_iload_n X.1 X.2.1 d_Program_goingOf_12 rfl (lv_at hl 1 rfl)) ?_
    refine V.go (pc' := 14) (lv_iconst (v := 1) X.1 X.2.1 d_Program_goingOf_13 (by decide)) ?_
    refine V.go (pc' := 15) (lv_isub X.1 X.2.1 d_Program_goingOf_14) ?_
    have s_5 : (x - 1).toInt = x.toInt - 1 := i32_sub1 (by omega)
    refine V.iald (pc' := 16) X hK 0 gh1 rfl (vin (by omega) (by omega)) d_Program_goingOf_15 rfl ?_
    refine V.go (pc' := 20) (lv_goto X.1 X.2.1 d_Program_goingOf_16 (by decide)) ?_
    exact V.iret X hr hlk ⟨(by simp only [sp_goingOf, if_neg c_2]), rfl⟩ d_Program_goingOf_20
end
section
theorem wd_14 : (Jvm.Cond.fieldLink "PerformRanges$Pile" (24 : Nat) "PerformRanges$Pile" "height" "I") ∈ GW := gw_of (i := 105) (by decide +kernel) (by decide +kernel)
theorem wd_15 : (Jvm.Cond.fieldLink "PerformRanges$Pile" (21 : Nat) "PerformRanges$Pile" "turns" "[I") ∈ GW := gw_of (i := 104) (by decide +kernel) (by decide +kernel)
theorem wd_16 : (Jvm.Cond.fieldLink "PerformRanges$Pile" (17 : Nat) "PerformRanges$Pile" "performers" "[I") ∈ GW := gw_of (i := 103) (by decide +kernel) (by decide +kernel)
theorem d_Pile_clear_0 : decode prog_4_method_2_code 0 = .ok (.aload_n 0, 1) := by decide +kernel
theorem d_Pile_clear_1 : decode prog_4_method_2_code 1 = .ok (.iconst 0, 1) := by decide +kernel
theorem d_Pile_clear_2 : decode prog_4_method_2_code 2 = .ok (.putfield 24, 3) := by decide +kernel
theorem d_Pile_clear_5 : decode prog_4_method_2_code 5 = .ok (.return_, 1) := by decide +kernel

set_option maxHeartbeats 4000000 in
set_option maxRecDepth 100000 in
theorem c_Pile_clear {l : Launch} {H0 : Heap} {D : va_G} {cI cL cQ cB : ClassId} {M : mp} {pi la pe tu : Nat} {hh : Int32} {hi : Int32} (gh0 : M pi = some (.inr (2, [.ref la, .ref pe, .ref tu, .int hh, .int hi]))) : MC l H0 D cls7 (tysOf cI cL cQ cB) NW ({ cls := "PerformRanges$Pile", name := "clear", desc := "()V" } : Jvm.MethodName) (Cond.code ({ cls := "PerformRanges$Pile", name := "clear", desc := "()V" } : Jvm.MethodName) prog_4_method_2_code 1 (Option.none : Option Jvm.ClassFile.FieldType) :: GW) ({ frames := 0, cells := 0, slots := 0, locals := 0 }) [.ref pi] M (fun v M' => v = none ∧ M' pi = some (.inr (2, [.ref la, .ref pe, .ref tu, .int 0, .int hi])) ∧ ∀ q, q ≠ pi → M' q = M q) := by
  refine MC.of (cc := prog_4_method_2_code) (nL := 1) (ret := (Option.none : Option Jvm.ClassFile.FieldType)) (lv := [(0, .ref pi)]) (by decide) rfl (Nat.le_of_ble_eq_true rfl) rfl ?_
  intro p e s m below meth c X hr hlk hnm hK
  have k0 : (0 : Int32).toInt = 0 := rfl
  refine V.rd (pc' := 1) (fun hl => lv_aload_n X.1 X.2.1 d_Pile_clear_0 rfl (lv_at hl 0 rfl)) ?_
  refine V.go (pc' := 2) (lv_iconst (v := 0) X.1 X.2.1 d_Pile_clear_1 (by decide)) ?_
  refine V.put (pc' := 5) X hK gh0 uw_Pile t_Pile tok_Pile nm_Pile rfl 3 (by decide) (mcs wd_14) rfl rfl rfl (Nat.le_of_ble_eq_true rfl) (fs' := [.ref la, .ref pe, .ref tu, .int 0, .int hi]) rfl d_Pile_clear_2 rfl (fun M_1 h_2 fr_3 => ?_)
  exact V.vret X hr hlk ⟨rfl, h_2, (fun q n0_ => (fr_3 q n0_))⟩ d_Pile_clear_5

theorem d_Pile_isFull_0 : decode prog_4_method_3_code 0 = .ok (.aload_n 0, 1) := by decide +kernel
theorem d_Pile_isFull_1 : decode prog_4_method_3_code 1 = .ok (.getfield 24, 3) := by decide +kernel
theorem d_Pile_isFull_4 : decode prog_4_method_3_code 4 = .ok (.bipush 100, 2) := by decide +kernel
theorem d_Pile_isFull_6 : decode prog_4_method_3_code 6 = .ok (.if_icmp .lt 7, 3) := by decide +kernel
theorem d_Pile_isFull_9 : decode prog_4_method_3_code 9 = .ok (.iconst 1, 1) := by decide +kernel
theorem d_Pile_isFull_10 : decode prog_4_method_3_code 10 = .ok (.goto 4, 3) := by decide +kernel
theorem d_Pile_isFull_13 : decode prog_4_method_3_code 13 = .ok (.iconst 0, 1) := by decide +kernel
theorem d_Pile_isFull_14 : decode prog_4_method_3_code 14 = .ok (.ireturn, 1) := by decide +kernel

def sp_Pile_isFull (hh : Int32) : Int32 := if hh < 100 then 0 else 1
set_option maxHeartbeats 4000000 in
set_option maxRecDepth 100000 in
theorem c_Pile_isFull {l : Launch} {H0 : Heap} {D : va_G} {cI cL cQ cB : ClassId} {M : mp} {pi la pe tu : Nat} {hh : Int32} {hi : Int32} (gh0 : M pi = some (.inr (2, [.ref la, .ref pe, .ref tu, .int hh, .int hi]))) : MC l H0 D cls7 (tysOf cI cL cQ cB) NW ({ cls := "PerformRanges$Pile", name := "isFull", desc := "()Z" } : Jvm.MethodName) (Cond.code ({ cls := "PerformRanges$Pile", name := "isFull", desc := "()Z" } : Jvm.MethodName) prog_4_method_3_code 1 (Option.some Jvm.ClassFile.FieldType.boolean) :: GW) ({ frames := 0, cells := 0, slots := 0, locals := 0 }) [.ref pi] M (fun v M' => v = some (.int (sp_Pile_isFull hh)) ∧ M' = M) := by
  refine MC.of (cc := prog_4_method_3_code) (nL := 1) (ret := (Option.some Jvm.ClassFile.FieldType.boolean)) (lv := [(0, .ref pi)]) (by decide) rfl (Nat.le_of_ble_eq_true rfl) rfl ?_
  intro p e s m below meth c X hr hlk hnm hK
  have k0 : (0 : Int32).toInt = 0 := rfl
  have k1 : (1 : Int32).toInt = 1 := rfl
  have k100 : (100 : Int32).toInt = 100 := rfl
  refine V.rd (pc' := 1) (fun hl => lv_aload_n X.1 X.2.1 d_Pile_isFull_0 rfl (lv_at hl 0 rfl)) ?_
  refine V.get (pc' := 4) X hK gh0 uw_Pile rfl 3 (by decide) (mcs wd_14) rfl d_Pile_isFull_1 rfl ?_
  refine V.go (pc' := 6) (lv_bipush (v := 100) X.1 X.2.1 d_Pile_isFull_4 (by decide)) ?_
  refine V.br (pc' := 9) (tgt := 13) (P := hh < 100) (lv_icmp_lt X.1 X.2.1 d_Pile_isFull_6 (by decide)) (fun c_1 => ?_) (fun c_1 => ?_)
  · have i_2 := Int32.lt_iff_toInt_lt.mp c_1
    refine V.go (pc' := 14) (lv_iconst (v := 0) X.1 X.2.1 d_Pile_isFull_13 (by decide)) ?_
    exact V.zret X hr hlk rfl ⟨(by simp only [sp_Pile_isFull, if_pos c_1]), rfl⟩ d_Pile_isFull_14
  · have i_3 := mt Int32.lt_iff_toInt_lt.mpr c_1
    refine V.go (pc' := 10) (lv_iconst (v := 1) X.1 X.2.1 d_Pile_isFull_9 (by decide)) ?_
    refine V.go (pc' := 14) (lv_goto X.1 X.2.1 d_Pile_isFull_10 (by decide)) ?_
    exact V.zret X hr hlk rfl ⟨(by simp only [sp_Pile_isFull, if_neg c_1]), rfl⟩ d_Pile_isFull_14

theorem isFull_0 {hh : Int32} (h : sp_Pile_isFull hh = 0) : hh.toInt < 100 := by
  unfold sp_Pile_isFull at h
  have k : (100 : Int32).toInt = 100 := rfl
  by_cases h1 : hh < 100
  · have := Int32.lt_iff_toInt_lt.mp h1
    omega
  · rw [if_neg h1] at h
    cases h

theorem d_Pile_countTurn_0 : decode prog_4_method_6_code 0 = .ok (.aload_n 0, 1) := by decide +kernel
theorem d_Pile_countTurn_1 : decode prog_4_method_6_code 1 = .ok (.getfield 24, 3) := by decide +kernel
theorem d_Pile_countTurn_4 : decode prog_4_method_6_code 4 = .ok (.iconst 1, 1) := by decide +kernel
theorem d_Pile_countTurn_5 : decode prog_4_method_6_code 5 = .ok (.if_icmp .lt 12, 3) := by decide +kernel
theorem d_Pile_countTurn_8 : decode prog_4_method_6_code 8 = .ok (.aload_n 0, 1) := by decide +kernel
theorem d_Pile_countTurn_9 : decode prog_4_method_6_code 9 = .ok (.getfield 24, 3) := by decide +kernel
theorem d_Pile_countTurn_12 : decode prog_4_method_6_code 12 = .ok (.bipush 100, 2) := by decide +kernel
theorem d_Pile_countTurn_14 : decode prog_4_method_6_code 14 = .ok (.if_icmp .le 5, 3) := by decide +kernel
theorem d_Pile_countTurn_17 : decode prog_4_method_6_code 17 = .ok (.iconst 0, 1) := by decide +kernel
theorem d_Pile_countTurn_18 : decode prog_4_method_6_code 18 = .ok (.ireturn, 1) := by decide +kernel
theorem d_Pile_countTurn_19 : decode prog_4_method_6_code 19 = .ok (.aload_n 0, 1) := by decide +kernel
theorem d_Pile_countTurn_20 : decode prog_4_method_6_code 20 = .ok (.getfield 21, 3) := by decide +kernel
theorem d_Pile_countTurn_23 : decode prog_4_method_6_code 23 = .ok (.aload_n 0, 1) := by decide +kernel
theorem d_Pile_countTurn_24 : decode prog_4_method_6_code 24 = .ok (.getfield 24, 3) := by decide +kernel
theorem d_Pile_countTurn_27 : decode prog_4_method_6_code 27 = .ok (.iconst 1, 1) := by decide +kernel
theorem d_Pile_countTurn_28 : decode prog_4_method_6_code 28 = .ok (.isub, 1) := by decide +kernel
theorem d_Pile_countTurn_29 : decode prog_4_method_6_code 29 = .ok (.dup2, 1) := by decide +kernel
theorem d_Pile_countTurn_30 : decode prog_4_method_6_code 30 = .ok (.iaload, 1) := by decide +kernel
theorem d_Pile_countTurn_31 : decode prog_4_method_6_code 31 = .ok (.iconst 1, 1) := by decide +kernel
theorem d_Pile_countTurn_32 : decode prog_4_method_6_code 32 = .ok (.iadd, 1) := by decide +kernel
theorem d_Pile_countTurn_33 : decode prog_4_method_6_code 33 = .ok (.iastore, 1) := by decide +kernel
theorem d_Pile_countTurn_34 : decode prog_4_method_6_code 34 = .ok (.aload_n 0, 1) := by decide +kernel
theorem d_Pile_countTurn_35 : decode prog_4_method_6_code 35 = .ok (.getfield 21, 3) := by decide +kernel
theorem d_Pile_countTurn_38 : decode prog_4_method_6_code 38 = .ok (.aload_n 0, 1) := by decide +kernel
theorem d_Pile_countTurn_39 : decode prog_4_method_6_code 39 = .ok (.getfield 24, 3) := by decide +kernel
theorem d_Pile_countTurn_42 : decode prog_4_method_6_code 42 = .ok (.iconst 1, 1) := by decide +kernel
theorem d_Pile_countTurn_43 : decode prog_4_method_6_code 43 = .ok (.isub, 1) := by decide +kernel
theorem d_Pile_countTurn_44 : decode prog_4_method_6_code 44 = .ok (.iaload, 1) := by decide +kernel
theorem d_Pile_countTurn_45 : decode prog_4_method_6_code 45 = .ok (.ireturn, 1) := by decide +kernel

def sp_Pile_countTurn (hh : Int32) (ud : Nat → Int32) : Int32 := if hh < 1 then 0 else if hh ≤ 100 then (upd ud (hh - 1).toNatClampNeg ((ud (hh - 1).toNatClampNeg) + 1)) (hh - 1).toNatClampNeg else 0
def sp_Pile_countTurn_tu (hh : Int32) (ud : Nat → Int32) : Nat → Int32 := if hh < 1 then ud else if hh ≤ 100 then upd ud (hh - 1).toNatClampNeg ((ud (hh - 1).toNatClampNeg) + 1) else ud
set_option maxHeartbeats 4000000 in
set_option maxRecDepth 100000 in
theorem c_Pile_countTurn {l : Launch} {H0 : Heap} {D : va_G} {cI cL cQ cB : ClassId} {M : mp} {pi la pe tu : Nat} {hh : Int32} {hi : Int32} {ud : Nat → Int32} (gh0 : M pi = some (.inr (2, [.ref la, .ref pe, .ref tu, .int hh, .int hi]))) (gh1 : M tu = some (.inl (cI, 100, .inl ud))) : MC l H0 D cls7 (tysOf cI cL cQ cB) NW ({ cls := "PerformRanges$Pile", name := "countTurn", desc := "()I" } : Jvm.MethodName) (Cond.code ({ cls := "PerformRanges$Pile", name := "countTurn", desc := "()I" } : Jvm.MethodName) prog_4_method_6_code 1 (Option.some Jvm.ClassFile.FieldType.int) :: GW) ({ frames := 0, cells := 0, slots := 0, locals := 0 }) [.ref pi] M (fun v M' => v = some (.int (sp_Pile_countTurn hh ud)) ∧ M' tu = some (.inl (cI, 100, .inl (sp_Pile_countTurn_tu hh ud))) ∧ ∀ q, q ≠ tu → M' q = M q) := by
  refine MC.of (cc := prog_4_method_6_code) (nL := 1) (ret := (Option.some Jvm.ClassFile.FieldType.int)) (lv := [(0, .ref pi)]) (by decide) rfl (Nat.le_of_ble_eq_true rfl) rfl ?_
  intro p e s m below meth c X hr hlk hnm hK
  have k0 : (0 : Int32).toInt = 0 := rfl
  have k1 : (1 : Int32).toInt = 1 := rfl
  have k100 : (100 : Int32).toInt = 100 := rfl
  refine V.rd (pc' := 1) (fun hl => lv_aload_n X.1 X.2.1 d_Pile_countTurn_0 rfl (lv_at hl 0 rfl)) ?_
  refine V.get (pc' := 4) X hK gh0 uw_Pile rfl 3 (by decide) (mcs wd_14) rfl d_Pile_countTurn_1 rfl ?_
  refine V.go (pc' := 5) (lv_iconst (v := 1) X.1 X.2.1 d_Pile_countTurn_4 (by decide)) ?_
  refine V.br (pc' := 8) (tgt := 17) (P := hh < 1) (lv_icmp_lt X.1 X.2.1 d_Pile_countTurn_5 (by decide)) (fun c_1 => ?_) (fun c_1 => ?_)
  · have i_2 := Int32.lt_iff_toInt_lt.mp c_1
    refine V.go (pc' := 18) (lv_iconst (v := 0) X.1 X.2.1 d_Pile_countTurn_17 (by decide)) ?_
    exact V.iret X hr hlk ⟨(by simp only [sp_Pile_countTurn, if_pos c_1]), (by simp only [sp_Pile_countTurn_tu, if_pos c_1]; exact gh1), (fun q n0_ => rfl)⟩ d_Pile_countTurn_18
  · have i_3 := mt Int32.lt_iff_toInt_lt.mpr c_1
    refine V.rd (pc' := 9) (fun hl => lv_aload_n X.1 X.2.1 d_Pile_countTurn_8 rfl (lv_at hl 0 rfl)) ?_
    refine V.get (pc' := 12) X hK gh0 uw_Pile rfl 3 (by decide) (mcs wd_14) rfl d_Pile_countTurn_9 rfl ?_
    refine V.go (pc' := 14) (lv_bipush (v := 100) X.1 X.2.1 d_Pile_countTurn_12 (by decide)) ?_
    refine V.br (pc' := 17) (tgt := 19) (P := hh ≤ 100) (lv_icmp_le X.1 X.2.1 d_Pile_countTurn_14 (by decide)) (fun c_4 => ?_) (fun c_4 => ?_)
    · have i_5 := Int32.le_iff_toInt_le.mp c_4
      refine V.rd (pc' := 20) (fun hl => lv_aload_n X.1 X.2.1 d_Pile_countTurn_19 rfl (lv_at hl 0 rfl)) ?_
      refine V.get (pc' := 23) X hK gh0 uw_Pile rfl 2 (by decide) (mcs wd_15) rfl d_Pile_countTurn_20 rfl ?_
      refine V.rd (pc' := 24) (fun hl => lv_aload_n X.1 X.2.1 d_Pile_countTurn_23 rfl (lv_at hl 0 rfl)) ?_
      refine V.get (pc' := 27) X hK gh0 uw_Pile rfl 3 (by decide) (mcs wd_14) rfl d_Pile_countTurn_24 rfl ?_
      refine V.go (pc' := 28) (lv_iconst (v := 1) X.1 X.2.1 d_Pile_countTurn_27 (by decide)) ?_
      refine V.go (pc' := 29) (lv_isub X.1 X.2.1 d_Pile_countTurn_28) ?_
      have s_6 : (hh - 1).toInt = hh.toInt - 1 := i32_sub1 (by omega)
      refine V.go (pc' := 30) (lv_dup2_11 X.1 X.2.1 d_Pile_countTurn_29 rfl rfl) ?_
      refine V.iald (pc' := 31) X hK 0 gh1 rfl (vin (by omega) (by omega)) d_Pile_countTurn_30 rfl ?_
      refine V.go (pc' := 32) (lv_iconst (v := 1) X.1 X.2.1 d_Pile_countTurn_31 (by decide)) ?_
      refine V.go (pc' := 33) (lv_iadd X.1 X.2.1 d_Pile_countTurn_32) ?_
      refine V.iast (pc' := 34) X hK 0 gh1 rfl (vin (by omega) (by omega)) d_Pile_countTurn_33 rfl (fun M_7 h_8 fr_9 => ?_)
      have h_10 : M_7 pi = some (.inr (2, [.ref la, .ref pe, .ref tu, .int hh, .int hi])) := (fr_9 _ (ne_k gh0 gh1 (i := 2) (j := 1100) rfl rfl (by decide))).trans gh0
      refine V.rd (pc' := 35) (fun hl => lv_aload_n X.1 X.2.1 d_Pile_countTurn_34 rfl (lv_at hl 0 rfl)) ?_
      refine V.get (pc' := 38) X hK h_10 uw_Pile rfl 2 (by decide) (mcs wd_15) rfl d_Pile_countTurn_35 rfl ?_
      refine V.rd (pc' := 39) (fun hl => lv_aload_n X.1 X.2.1 d_Pile_countTurn_38 rfl (lv_at hl 0 rfl)) ?_
      refine V.get (pc' := 42) X hK h_10 uw_Pile rfl 3 (by decide) (mcs wd_14) rfl d_Pile_countTurn_39 rfl ?_
      refine V.go (pc' := 43) (lv_iconst (v := 1) X.1 X.2.1 d_Pile_countTurn_42 (by decide)) ?_
      refine V.go (pc' := 44) (lv_isub X.1 X.2.1 d_Pile_countTurn_43) ?_
      have s_11 : (hh - 1).toInt = hh.toInt - 1 := i32_sub1 (by omega)
      refine V.iald (pc' := 45) X hK 0 h_8 rfl (vin (by omega) (by omega)) d_Pile_countTurn_44 rfl ?_
      exact V.iret X hr hlk ⟨(by simp only [sp_Pile_countTurn, if_neg c_1, if_pos c_4]), (by simp only [sp_Pile_countTurn_tu, if_neg c_1, if_pos c_4]; exact h_8), (fun q n0_ => (fr_9 q n0_))⟩ d_Pile_countTurn_45
    · have i_12 := mt Int32.le_iff_toInt_le.mpr c_4
      refine V.go (pc' := 18) (lv_iconst (v := 0) X.1 X.2.1 d_Pile_countTurn_17 (by decide)) ?_
      exact V.iret X hr hlk ⟨(by simp only [sp_Pile_countTurn, if_neg c_1, if_neg c_4]), (by simp only [sp_Pile_countTurn_tu, if_neg c_1, if_neg c_4]; exact gh1), (fun q n0_ => rfl)⟩ d_Pile_countTurn_18

theorem d_Pile_takeOff_0 : decode prog_4_method_7_code 0 = .ok (.aload_n 0, 1) := by decide +kernel
theorem d_Pile_takeOff_1 : decode prog_4_method_7_code 1 = .ok (.getfield 24, 3) := by decide +kernel
theorem d_Pile_takeOff_4 : decode prog_4_method_7_code 4 = .ok (.iconst 1, 1) := by decide +kernel
theorem d_Pile_takeOff_5 : decode prog_4_method_7_code 5 = .ok (.if_icmp .lt 12, 3) := by decide +kernel
theorem d_Pile_takeOff_8 : decode prog_4_method_7_code 8 = .ok (.aload_n 0, 1) := by decide +kernel
theorem d_Pile_takeOff_9 : decode prog_4_method_7_code 9 = .ok (.getfield 24, 3) := by decide +kernel
theorem d_Pile_takeOff_12 : decode prog_4_method_7_code 12 = .ok (.bipush 100, 2) := by decide +kernel
theorem d_Pile_takeOff_14 : decode prog_4_method_7_code 14 = .ok (.if_icmp .le 5, 3) := by decide +kernel
theorem d_Pile_takeOff_17 : decode prog_4_method_7_code 17 = .ok (.iconst 0, 1) := by decide +kernel
theorem d_Pile_takeOff_18 : decode prog_4_method_7_code 18 = .ok (.ireturn, 1) := by decide +kernel
theorem d_Pile_takeOff_19 : decode prog_4_method_7_code 19 = .ok (.aload_n 0, 1) := by decide +kernel
theorem d_Pile_takeOff_20 : decode prog_4_method_7_code 20 = .ok (.dup, 1) := by decide +kernel
theorem d_Pile_takeOff_21 : decode prog_4_method_7_code 21 = .ok (.getfield 24, 3) := by decide +kernel
theorem d_Pile_takeOff_24 : decode prog_4_method_7_code 24 = .ok (.iconst 1, 1) := by decide +kernel
theorem d_Pile_takeOff_25 : decode prog_4_method_7_code 25 = .ok (.isub, 1) := by decide +kernel
theorem d_Pile_takeOff_26 : decode prog_4_method_7_code 26 = .ok (.putfield 24, 3) := by decide +kernel
theorem d_Pile_takeOff_29 : decode prog_4_method_7_code 29 = .ok (.aload_n 0, 1) := by decide +kernel
theorem d_Pile_takeOff_30 : decode prog_4_method_7_code 30 = .ok (.getfield 17, 3) := by decide +kernel
theorem d_Pile_takeOff_33 : decode prog_4_method_7_code 33 = .ok (.aload_n 0, 1) := by decide +kernel
theorem d_Pile_takeOff_34 : decode prog_4_method_7_code 34 = .ok (.getfield 24, 3) := by decide +kernel
theorem d_Pile_takeOff_37 : decode prog_4_method_7_code 37 = .ok (.iaload, 1) := by decide +kernel
theorem d_Pile_takeOff_38 : decode prog_4_method_7_code 38 = .ok (.ireturn, 1) := by decide +kernel

def sp_Pile_takeOff (hh : Int32) (pd : Nat → Int32) : Int32 := if hh < 1 then 0 else if hh ≤ 100 then pd (hh - 1).toNatClampNeg else 0
def sp_Pile_takeOff_pi_3 (hh : Int32) : Int32 := if hh < 1 then hh else if hh ≤ 100 then hh - 1 else hh
set_option maxHeartbeats 4000000 in
set_option maxRecDepth 100000 in
theorem c_Pile_takeOff {l : Launch} {H0 : Heap} {D : va_G} {cI cL cQ cB : ClassId} {M : mp} {pi la pe tu : Nat} {hh : Int32} {hi : Int32} {pd : Nat → Int32} (gh0 : M pi = some (.inr (2, [.ref la, .ref pe, .ref tu, .int hh, .int hi]))) (gh1 : M pe = some (.inl (cI, 100, .inl pd))) : MC l H0 D cls7 (tysOf cI cL cQ cB) NW ({ cls := "PerformRanges$Pile", name := "takeOff", desc := "()I" } : Jvm.MethodName) (Cond.code ({ cls := "PerformRanges$Pile", name := "takeOff", desc := "()I" } : Jvm.MethodName) prog_4_method_7_code 1 (Option.some Jvm.ClassFile.FieldType.int) :: GW) ({ frames := 0, cells := 0, slots := 0, locals := 0 }) [.ref pi] M (fun v M' => v = some (.int (sp_Pile_takeOff hh pd)) ∧ M' pi = some (.inr (2, [.ref la, .ref pe, .ref tu, .int (sp_Pile_takeOff_pi_3 hh), .int hi])) ∧ ∀ q, q ≠ pi → M' q = M q) := by
  refine MC.of (cc := prog_4_method_7_code) (nL := 1) (ret := (Option.some Jvm.ClassFile.FieldType.int)) (lv := [(0, .ref pi)]) (by decide) rfl (Nat.le_of_ble_eq_true rfl) rfl ?_
  intro p e s m below meth c X hr hlk hnm hK
  have k0 : (0 : Int32).toInt = 0 := rfl
  have k1 : (1 : Int32).toInt = 1 := rfl
  have k100 : (100 : Int32).toInt = 100 := rfl
  refine V.rd (pc' := 1) (fun hl => lv_aload_n X.1 X.2.1 d_Pile_takeOff_0 rfl (lv_at hl 0 rfl)) ?_
  refine V.get (pc' := 4) X hK gh0 uw_Pile rfl 3 (by decide) (mcs wd_14) rfl d_Pile_takeOff_1 rfl ?_
  refine V.go (pc' := 5) (lv_iconst (v := 1) X.1 X.2.1 d_Pile_takeOff_4 (by decide)) ?_
  refine V.br (pc' := 8) (tgt := 17) (P := hh < 1) (lv_icmp_lt X.1 X.2.1 d_Pile_takeOff_5 (by decide)) (fun c_1 => ?_) (fun c_1 => ?_)
  · have i_2 := Int32.lt_iff_toInt_lt.mp c_1
    refine V.go (pc' := 18) (lv_iconst (v := 0) X.1 X.2.1 d_Pile_takeOff_17 (by decide)) ?_
    exact V.iret X hr hlk ⟨(by simp only [sp_Pile_takeOff, if_pos c_1]), (by simp only [sp_Pile_takeOff_pi_3, if_pos c_1]; exact gh0), (fun q n0_ => rfl)⟩ d_Pile_takeOff_18
  · have i_3 := mt Int32.lt_iff_toInt_lt.mpr c_1
    refine V.rd (pc' := 9) (fun hl => lv_aload_n X.1 X.2.1 d_Pile_takeOff_8 rfl (lv_at hl 0 rfl)) ?_
    refine V.get (pc' := 12) X hK gh0 uw_Pile rfl 3 (by decide) (mcs wd_14) rfl d_Pile_takeOff_9 rfl ?_
    refine V.go (pc' := 14) (lv_bipush (v := 100) X.1 X.2.1 d_Pile_takeOff_12 (by decide)) ?_
    refine V.br (pc' := 17) (tgt := 19) (P := hh ≤ 100) (lv_icmp_le X.1 X.2.1 d_Pile_takeOff_14 (by decide)) (fun c_4 => ?_) (fun c_4 => ?_)
    · have i_5 := Int32.le_iff_toInt_le.mp c_4
      refine V.rd (pc' := 20) (fun hl => lv_aload_n X.1 X.2.1 d_Pile_takeOff_19 rfl (lv_at hl 0 rfl)) ?_
      refine V.go (pc' := 21) (lv_dup X.1 X.2.1 d_Pile_takeOff_20 rfl) ?_
      refine V.get (pc' := 24) X hK gh0 uw_Pile rfl 3 (by decide) (mcs wd_14) rfl d_Pile_takeOff_21 rfl ?_
      refine V.go (pc' := 25) (lv_iconst (v := 1) X.1 X.2.1 d_Pile_takeOff_24 (by decide)) ?_
      refine V.go (pc' := 26) (lv_isub X.1 X.2.1 d_Pile_takeOff_25) ?_
      have s_6 : (hh - 1).toInt = hh.toInt - 1 := i32_sub1 (by omega)
      refine V.put (pc' := 29) X hK gh0 uw_Pile t_Pile tok_Pile nm_Pile rfl 3 (by decide) (mcs wd_14) rfl rfl rfl (Nat.le_of_ble_eq_true rfl) (fs' := [.ref la, .ref pe, .ref tu, .int (hh - 1), .int hi]) rfl d_Pile_takeOff_26 rfl (fun M_7 h_8 fr_9 => ?_)
      have h_10 : M_7 pe = some (.inl (cI, 100, .inl pd)) := (fr_9 _ (ne_k gh1 gh0 (i := 1100) (j := 2) rfl rfl (by decide))).trans gh1
      refine V.rd (pc' := 30) (fun hl => lv_aload_n X.1 X.2.1 d_Pile_takeOff_29 rfl (lv_at hl 0 rfl)) ?_
      refine V.get (pc' := 33) X hK h_8 uw_Pile rfl 1 (by decide) (mcs wd_16) rfl d_Pile_takeOff_30 rfl ?_
      refine V.rd (pc' := 34) (fun hl => lv_aload_n X.1 X.2.1 d_Pile_takeOff_33 rfl (lv_at hl 0 rfl)) ?_
      refine V.get (pc' := 37) X hK h_8 uw_Pile rfl 3 (by decide) (mcs wd_14) rfl d_Pile_takeOff_34 rfl ?_
      refine V.iald (pc' := 38) X hK 0 h_10 rfl (vin (by omega) (by omega)) d_Pile_takeOff_37 rfl ?_
      exact V.iret X hr hlk ⟨(by simp only [sp_Pile_takeOff, if_neg c_1, if_pos c_4]), (by simp only [sp_Pile_takeOff_pi_3, if_neg c_1, if_pos c_4]; exact h_8), (fun q n0_ => (fr_9 q n0_))⟩ d_Pile_takeOff_38
    · have i_11 := mt Int32.le_iff_toInt_le.mpr c_4
      refine V.go (pc' := 18) (lv_iconst (v := 0) X.1 X.2.1 d_Pile_takeOff_17 (by decide)) ?_
      exact V.iret X hr hlk ⟨(by simp only [sp_Pile_takeOff, if_neg c_1, if_neg c_4]), (by simp only [sp_Pile_takeOff_pi_3, if_neg c_1, if_neg c_4]; exact gh0), (fun q n0_ => rfl)⟩ d_Pile_takeOff_18
end
section
theorem wd_17 : (Jvm.Cond.fieldLink "PerformRanges$Statement" (35 : Nat) "PerformRanges$Statement" "kind" "I") ∈ GW := gw_of (i := 183) (by decide +kernel) (by decide +kernel)
theorem wd_18 : (Jvm.Cond.fieldLink "PerformRanges$Statement" (41 : Nat) "PerformRanges$Statement" "conditions" "I") ∈ GW := gw_of (i := 186) (by decide +kernel) (by decide +kernel)
theorem wd_19 : (Jvm.Cond.fieldLink "PerformRanges$Statement" (48 : Nat) "PerformRanges$Statement" "levels" "I") ∈ GW := gw_of (i := 187) (by decide +kernel) (by decide +kernel)
theorem wd_20 : (Jvm.Cond.fieldLink "PerformRanges$Statement" (9 : Nat) "PerformRanges$Statement" "conditionCells" "[I") ∈ GW := gw_of (i := 188) (by decide +kernel) (by decide +kernel)
theorem wd_21 : (Jvm.Cond.methodLink "PerformRanges$Statement" (79 : Nat) ({ cls := "PerformRanges$Cells", name := "value", desc := "(I)J" } : Jvm.MethodName)) ∈ GW := gw_of (i := 311) (by decide +kernel) (by decide +kernel)
theorem wd_22 : (Jvm.Cond.instanceMethod ({ cls := "PerformRanges$Cells", name := "value", desc := "(I)J" } : Jvm.MethodName)) ∈ GW := gw_of (i := 312) (by decide +kernel) (by decide +kernel)
theorem wd_23 : (Jvm.Cond.selects "PerformRanges$Cells" ({ cls := "PerformRanges$Cells", name := "value", desc := "(I)J" } : Jvm.MethodName) ({ cls := "PerformRanges$Cells", name := "value", desc := "(I)J" } : Jvm.MethodName)) ∈ GW := gw_of (i := 313) (by decide +kernel) (by decide +kernel)
theorem wd_24 : (Jvm.Cond.initialized "PerformRanges$Cells") ∈ GW := gw_of (i := 34) (by decide +kernel) (by decide +kernel)
theorem wd_25 : (Jvm.Cond.code ({ cls := "PerformRanges$Cells", name := "value", desc := "(I)J" } : Jvm.MethodName) prog_2_method_2_code (2 : Nat) (Option.some Jvm.ClassFile.FieldType.long)) ∈ GW := gw_of (i := 314) (by decide +kernel) (by decide +kernel)
theorem wd_26 : (Jvm.Cond.fieldLink "PerformRanges$Statement" (15 : Nat) "PerformRanges$Statement" "conditionValues" "[J") ∈ GW := gw_of (i := 189) (by decide +kernel) (by decide +kernel)
theorem wd_27 : (Jvm.Cond.fieldLink "PerformRanges$Statement" (19 : Nat) "PerformRanges$Statement" "levelCells" "[I") ∈ GW := gw_of (i := 190) (by decide +kernel) (by decide +kernel)
theorem wd_28 : (Jvm.Cond.fieldLink "PerformRanges$Statement" (25 : Nat) "PerformRanges$Statement" "levelSteps" "[J") ∈ GW := gw_of (i := 192) (by decide +kernel) (by decide +kernel)
theorem wd_29 : (Jvm.Cond.methodLink "PerformRanges$Statement" (85 : Nat) ({ cls := "PerformRanges$Cells", name := "grow", desc := "(IJ)V" } : Jvm.MethodName)) ∈ GW := gw_of (i := 335) (by decide +kernel) (by decide +kernel)
theorem wd_30 : (Jvm.Cond.instanceMethod ({ cls := "PerformRanges$Cells", name := "grow", desc := "(IJ)V" } : Jvm.MethodName)) ∈ GW := gw_of (i := 336) (by decide +kernel) (by decide +kernel)
theorem wd_31 : (Jvm.Cond.selects "PerformRanges$Cells" ({ cls := "PerformRanges$Cells", name := "grow", desc := "(IJ)V" } : Jvm.MethodName) ({ cls := "PerformRanges$Cells", name := "grow", desc := "(IJ)V" } : Jvm.MethodName)) ∈ GW := gw_of (i := 337) (by decide +kernel) (by decide +kernel)
theorem wd_32 : (Jvm.Cond.code ({ cls := "PerformRanges$Cells", name := "grow", desc := "(IJ)V" } : Jvm.MethodName) prog_2_method_4_code (4 : Nat) (Option.none : Option Jvm.ClassFile.FieldType)) ∈ GW := gw_of (i := 338) (by decide +kernel) (by decide +kernel)
theorem wd_33 : (Jvm.Cond.fieldLink "PerformRanges$Statement" (44 : Nat) "PerformRanges$Statement" "askedFirst" "Z") ∈ GW := gw_of (i := 185) (by decide +kernel) (by decide +kernel)
theorem wd_34 : (Jvm.Cond.fieldLink "PerformRanges$Statement" (22 : Nat) "PerformRanges$Statement" "firstValues" "[J") ∈ GW := gw_of (i := 191) (by decide +kernel) (by decide +kernel)
theorem wd_35 : (Jvm.Cond.methodLink "PerformRanges$Statement" (51 : Nat) ({ cls := "java/lang/Math", name := "max", desc := "(II)I" } : Jvm.MethodName)) ∈ GW := gw_of (i := 246) (by decide +kernel) (by decide +kernel)
theorem wd_36 : (Jvm.Cond.static ({ cls := "java/lang/Math", name := "max", desc := "(II)I" } : Jvm.MethodName)) ∈ GW := gw_of (i := 247) (by decide +kernel) (by decide +kernel)
theorem wd_37 : (Jvm.Cond.initialized "java/lang/Math") ∈ GW := gw_of (i := 38) (by decide +kernel) (by decide +kernel)
theorem wd_38 : (Jvm.Cond.code ({ cls := "java/lang/Math", name := "max", desc := "(II)I" } : Jvm.MethodName) prog_11_method_65_code (2 : Nat) (Option.some Jvm.ClassFile.FieldType.int)) ∈ GW := gw_of (i := 248) (by decide +kernel) (by decide +kernel)
theorem wd_39 : (Jvm.Cond.methodLink "PerformRanges$Statement" (89 : Nat) ({ cls := "PerformRanges$Cells", name := "become", desc := "(IJ)V" } : Jvm.MethodName)) ∈ GW := gw_of (i := 319) (by decide +kernel) (by decide +kernel)
theorem wd_40 : (Jvm.Cond.instanceMethod ({ cls := "PerformRanges$Cells", name := "become", desc := "(IJ)V" } : Jvm.MethodName)) ∈ GW := gw_of (i := 320) (by decide +kernel) (by decide +kernel)
theorem wd_41 : (Jvm.Cond.selects "PerformRanges$Cells" ({ cls := "PerformRanges$Cells", name := "become", desc := "(IJ)V" } : Jvm.MethodName) ({ cls := "PerformRanges$Cells", name := "become", desc := "(IJ)V" } : Jvm.MethodName)) ∈ GW := gw_of (i := 321) (by decide +kernel) (by decide +kernel)
theorem wd_42 : (Jvm.Cond.code ({ cls := "PerformRanges$Cells", name := "become", desc := "(IJ)V" } : Jvm.MethodName) prog_2_method_3_code (4 : Nat) (Option.none : Option Jvm.ClassFile.FieldType)) ∈ GW := gw_of (i := 322) (by decide +kernel) (by decide +kernel)
theorem wd_43 : (Jvm.Cond.methodLink "PerformRanges$Statement" (57 : Nat) ({ cls := "PerformRanges$Statement", name := "holds", desc := "(ILPerformRanges$Cells;)Z" } : Jvm.MethodName)) ∈ GW := gw_of (i := 307) (by decide +kernel) (by decide +kernel)
theorem wd_44 : (Jvm.Cond.instanceMethod ({ cls := "PerformRanges$Statement", name := "holds", desc := "(ILPerformRanges$Cells;)Z" } : Jvm.MethodName)) ∈ GW := gw_of (i := 309) (by decide +kernel) (by decide +kernel)
theorem wd_45 : (Jvm.Cond.selects "PerformRanges$Statement" ({ cls := "PerformRanges$Statement", name := "holds", desc := "(ILPerformRanges$Cells;)Z" } : Jvm.MethodName) ({ cls := "PerformRanges$Statement", name := "holds", desc := "(ILPerformRanges$Cells;)Z" } : Jvm.MethodName)) ∈ GW := gw_of (i := 3) (by decide +kernel) (by decide +kernel)
theorem wd_46 : (Jvm.Cond.initialized "PerformRanges$Statement") ∈ GW := gw_of (i := 37) (by decide +kernel) (by decide +kernel)
theorem wd_47 : (Jvm.Cond.code ({ cls := "PerformRanges$Statement", name := "holds", desc := "(ILPerformRanges$Cells;)Z" } : Jvm.MethodName) prog_6_method_10_code (3 : Nat) (Option.some Jvm.ClassFile.FieldType.boolean)) ∈ GW := gw_of (i := 310) (by decide +kernel) (by decide +kernel)
theorem wd_48 : (Jvm.Cond.methodLink "PerformRanges$Statement" (75 : Nat) ({ cls := "PerformRanges$Statement", name := "firstLevelThatHolds", desc := "(LPerformRanges$Cells;)I" } : Jvm.MethodName)) ∈ GW := gw_of (i := 327) (by decide +kernel) (by decide +kernel)
theorem wd_49 : (Jvm.Cond.instanceMethod ({ cls := "PerformRanges$Statement", name := "firstLevelThatHolds", desc := "(LPerformRanges$Cells;)I" } : Jvm.MethodName)) ∈ GW := gw_of (i := 329) (by decide +kernel) (by decide +kernel)
theorem wd_50 : (Jvm.Cond.selects "PerformRanges$Statement" ({ cls := "PerformRanges$Statement", name := "firstLevelThatHolds", desc := "(LPerformRanges$Cells;)I" } : Jvm.MethodName) ({ cls := "PerformRanges$Statement", name := "firstLevelThatHolds", desc := "(LPerformRanges$Cells;)I" } : Jvm.MethodName)) ∈ GW := gw_of (i := 6) (by decide +kernel) (by decide +kernel)
theorem wd_51 : (Jvm.Cond.code ({ cls := "PerformRanges$Statement", name := "firstLevelThatHolds", desc := "(LPerformRanges$Cells;)I" } : Jvm.MethodName) prog_6_method_8_code (3 : Nat) (Option.some Jvm.ClassFile.FieldType.int)) ∈ GW := gw_of (i := 330) (by decide +kernel) (by decide +kernel)
theorem wd_52 : (Jvm.Cond.methodLink "PerformRanges$Statement" (72 : Nat) ({ cls := "PerformRanges$Statement", name := "takeStep", desc := "(ILPerformRanges$Cells;)V" } : Jvm.MethodName)) ∈ GW := gw_of (i := 331) (by decide +kernel) (by decide +kernel)
theorem wd_53 : (Jvm.Cond.instanceMethod ({ cls := "PerformRanges$Statement", name := "takeStep", desc := "(ILPerformRanges$Cells;)V" } : Jvm.MethodName)) ∈ GW := gw_of (i := 333) (by decide +kernel) (by decide +kernel)
theorem wd_54 : (Jvm.Cond.selects "PerformRanges$Statement" ({ cls := "PerformRanges$Statement", name := "takeStep", desc := "(ILPerformRanges$Cells;)V" } : Jvm.MethodName) ({ cls := "PerformRanges$Statement", name := "takeStep", desc := "(ILPerformRanges$Cells;)V" } : Jvm.MethodName)) ∈ GW := gw_of (i := 7) (by decide +kernel) (by decide +kernel)
theorem wd_55 : (Jvm.Cond.code ({ cls := "PerformRanges$Statement", name := "takeStep", desc := "(ILPerformRanges$Cells;)V" } : Jvm.MethodName) prog_6_method_11_code (3 : Nat) (Option.none : Option Jvm.ClassFile.FieldType)) ∈ GW := gw_of (i := 334) (by decide +kernel) (by decide +kernel)
theorem wd_56 : (Jvm.Cond.methodLink "PerformRanges$Statement" (61 : Nat) ({ cls := "PerformRanges$Statement", name := "takeFirstValues", desc := "(ILPerformRanges$Cells;)V" } : Jvm.MethodName)) ∈ GW := gw_of (i := 315) (by decide +kernel) (by decide +kernel)
theorem wd_57 : (Jvm.Cond.instanceMethod ({ cls := "PerformRanges$Statement", name := "takeFirstValues", desc := "(ILPerformRanges$Cells;)V" } : Jvm.MethodName)) ∈ GW := gw_of (i := 317) (by decide +kernel) (by decide +kernel)
theorem wd_58 : (Jvm.Cond.selects "PerformRanges$Statement" ({ cls := "PerformRanges$Statement", name := "takeFirstValues", desc := "(ILPerformRanges$Cells;)V" } : Jvm.MethodName) ({ cls := "PerformRanges$Statement", name := "takeFirstValues", desc := "(ILPerformRanges$Cells;)V" } : Jvm.MethodName)) ∈ GW := gw_of (i := 4) (by decide +kernel) (by decide +kernel)
theorem wd_59 : (Jvm.Cond.code ({ cls := "PerformRanges$Statement", name := "takeFirstValues", desc := "(ILPerformRanges$Cells;)V" } : Jvm.MethodName) prog_6_method_12_code (4 : Nat) (Option.none : Option Jvm.ClassFile.FieldType)) ∈ GW := gw_of (i := 318) (by decide +kernel) (by decide +kernel)
theorem wd_60 : (Jvm.Cond.fieldLink "PerformRanges$Statement" (38 : Nat) "PerformRanges$Statement" "times" "I") ∈ GW := gw_of (i := 184) (by decide +kernel) (by decide +kernel)
theorem wd_61 : (Jvm.Cond.methodLink "PerformRanges$Statement" (65 : Nat) ({ cls := "PerformRanges$Statement", name := "findsTurn", desc := "(LPerformRanges$Cells;)Z" } : Jvm.MethodName)) ∈ GW := gw_of (i := 323) (by decide +kernel) (by decide +kernel)
theorem wd_62 : (Jvm.Cond.instanceMethod ({ cls := "PerformRanges$Statement", name := "findsTurn", desc := "(LPerformRanges$Cells;)Z" } : Jvm.MethodName)) ∈ GW := gw_of (i := 325) (by decide +kernel) (by decide +kernel)
theorem wd_63 : (Jvm.Cond.selects "PerformRanges$Statement" ({ cls := "PerformRanges$Statement", name := "findsTurn", desc := "(LPerformRanges$Cells;)Z" } : Jvm.MethodName) ({ cls := "PerformRanges$Statement", name := "findsTurn", desc := "(LPerformRanges$Cells;)Z" } : Jvm.MethodName)) ∈ GW := gw_of (i := 5) (by decide +kernel) (by decide +kernel)
theorem wd_64 : (Jvm.Cond.code ({ cls := "PerformRanges$Statement", name := "findsTurn", desc := "(LPerformRanges$Cells;)Z" } : Jvm.MethodName) prog_6_method_7_code (4 : Nat) (Option.some Jvm.ClassFile.FieldType.boolean)) ∈ GW := gw_of (i := 326) (by decide +kernel) (by decide +kernel)
theorem wd_65 : (Jvm.Cond.methodLink "PerformRanges$Statement" (69 : Nat) ({ cls := "PerformRanges$Statement", name := "stepsLastOpenLevel", desc := "(LPerformRanges$Cells;)Z" } : Jvm.MethodName)) ∈ GW := gw_of (i := 392) (by decide +kernel) (by decide +kernel)
theorem wd_66 : (Jvm.Cond.instanceMethod ({ cls := "PerformRanges$Statement", name := "stepsLastOpenLevel", desc := "(LPerformRanges$Cells;)Z" } : Jvm.MethodName)) ∈ GW := gw_of (i := 394) (by decide +kernel) (by decide +kernel)
theorem wd_67 : (Jvm.Cond.selects "PerformRanges$Statement" ({ cls := "PerformRanges$Statement", name := "stepsLastOpenLevel", desc := "(LPerformRanges$Cells;)Z" } : Jvm.MethodName) ({ cls := "PerformRanges$Statement", name := "stepsLastOpenLevel", desc := "(LPerformRanges$Cells;)Z" } : Jvm.MethodName)) ∈ GW := gw_of (i := 13) (by decide +kernel) (by decide +kernel)
theorem wd_68 : (Jvm.Cond.code ({ cls := "PerformRanges$Statement", name := "stepsLastOpenLevel", desc := "(LPerformRanges$Cells;)Z" } : Jvm.MethodName) prog_6_method_9_code (3 : Nat) (Option.some Jvm.ClassFile.FieldType.boolean)) ∈ GW := gw_of (i := 395) (by decide +kernel) (by decide +kernel)
theorem d_Statement_isWhole_0 : decode prog_6_method_4_code 0 = .ok (.aload_n 0, 1) := by decide +kernel
theorem d_Statement_isWhole_1 : decode prog_6_method_4_code 1 = .ok (.getfield 35, 3) := by decide +kernel
theorem d_Statement_isWhole_4 : decode prog_6_method_4_code 4 = .ok (.iconst 2, 1) := by decide +kernel
theorem d_Statement_isWhole_5 : decode prog_6_method_4_code 5 = .ok (.if_icmp .ne 16, 3) := by decide +kernel
theorem d_Statement_isWhole_8 : decode prog_6_method_4_code 8 = .ok (.aload_n 0, 1) := by decide +kernel
theorem d_Statement_isWhole_9 : decode prog_6_method_4_code 9 = .ok (.getfield 41, 3) := by decide +kernel
theorem d_Statement_isWhole_12 : decode prog_6_method_4_code 12 = .ok (.ifCond .le 7, 3) := by decide +kernel
theorem d_Statement_isWhole_15 : decode prog_6_method_4_code 15 = .ok (.iconst 1, 1) := by decide +kernel
theorem d_Statement_isWhole_16 : decode prog_6_method_4_code 16 = .ok (.goto 4, 3) := by decide +kernel
theorem d_Statement_isWhole_19 : decode prog_6_method_4_code 19 = .ok (.iconst 0, 1) := by decide +kernel
theorem d_Statement_isWhole_20 : decode prog_6_method_4_code 20 = .ok (.ireturn, 1) := by decide +kernel
theorem d_Statement_isWhole_21 : decode prog_6_method_4_code 21 = .ok (.aload_n 0, 1) := by decide +kernel
theorem d_Statement_isWhole_22 : decode prog_6_method_4_code 22 = .ok (.getfield 35, 3) := by decide +kernel
theorem d_Statement_isWhole_25 : decode prog_6_method_4_code 25 = .ok (.iconst 3, 1) := by decide +kernel
theorem d_Statement_isWhole_26 : decode prog_6_method_4_code 26 = .ok (.if_icmp .ne 21, 3) := by decide +kernel
theorem d_Statement_isWhole_29 : decode prog_6_method_4_code 29 = .ok (.aload_n 0, 1) := by decide +kernel
theorem d_Statement_isWhole_30 : decode prog_6_method_4_code 30 = .ok (.getfield 48, 3) := by decide +kernel
theorem d_Statement_isWhole_33 : decode prog_6_method_4_code 33 = .ok (.ifCond .le 18, 3) := by decide +kernel
theorem d_Statement_isWhole_36 : decode prog_6_method_4_code 36 = .ok (.aload_n 0, 1) := by decide +kernel
theorem d_Statement_isWhole_37 : decode prog_6_method_4_code 37 = .ok (.getfield 41, 3) := by decide +kernel
theorem d_Statement_isWhole_40 : decode prog_6_method_4_code 40 = .ok (.aload_n 0, 1) := by decide +kernel
theorem d_Statement_isWhole_41 : decode prog_6_method_4_code 41 = .ok (.getfield 48, 3) := by decide +kernel
theorem d_Statement_isWhole_44 : decode prog_6_method_4_code 44 = .ok (.if_icmp .lt 7, 3) := by decide +kernel
theorem d_Statement_isWhole_47 : decode prog_6_method_4_code 47 = .ok (.iconst 1, 1) := by decide +kernel
theorem d_Statement_isWhole_48 : decode prog_6_method_4_code 48 = .ok (.goto 4, 3) := by decide +kernel
theorem d_Statement_isWhole_51 : decode prog_6_method_4_code 51 = .ok (.iconst 0, 1) := by decide +kernel
theorem d_Statement_isWhole_52 : decode prog_6_method_4_code 52 = .ok (.ireturn, 1) := by decide +kernel

def sp_isWhole (sk : Int32) (sc : Int32) (sl : Int32) : Int32 := if sk = 2 then (if sc ≤ 0 then 0 else 1) else if sk = 3 then (if sl ≤ 0 then 0 else if sc < sl then 0 else 1) else 1
set_option maxHeartbeats 4000000 in
set_option maxRecDepth 100000 in
theorem c_isWhole {l : Launch} {H0 : Heap} {D : va_G} {cI cL cQ cB : ClassId} {M : mp} {sm acc acv alc afv als : Nat} {sf : Int32} {sto : Int32} {sk : Int32} {sn : Int32} {saf : Int32} {sc : Int32} {sl : Int32} (gh0 : M sm = some (.inr (4, [.int sf, .int sto, .int sk, .int sn, .int saf, .int sc, .int sl, .ref acc, .ref acv, .ref alc, .ref afv, .ref als]))) : MC l H0 D cls7 (tysOf cI cL cQ cB) NW ({ cls := "PerformRanges$Statement", name := "isWhole", desc := "()Z" } : Jvm.MethodName) (Cond.code ({ cls := "PerformRanges$Statement", name := "isWhole", desc := "()Z" } : Jvm.MethodName) prog_6_method_4_code 1 (Option.some Jvm.ClassFile.FieldType.boolean) :: GW) ({ frames := 0, cells := 0, slots := 0, locals := 0 }) [.ref sm] M (fun v M' => v = some (.int (sp_isWhole sk sc sl)) ∧ M' = M) := by
  refine MC.of (cc := prog_6_method_4_code) (nL := 1) (ret := (Option.some Jvm.ClassFile.FieldType.boolean)) (lv := [(0, .ref sm)]) (by decide) rfl (Nat.le_of_ble_eq_true rfl) rfl ?_
  intro p e s m below meth c X hr hlk hnm hK
  have k0 : (0 : Int32).toInt = 0 := rfl
  have k1 : (1 : Int32).toInt = 1 := rfl
  have k2 : (2 : Int32).toInt = 2 := rfl
  have k3 : (3 : Int32).toInt = 3 := rfl
  refine V.rd (pc' := 1) (fun hl => lv_aload_n X.1 X.2.1 d_Statement_isWhole_0 rfl (lv_at hl 0 rfl)) ?_
  refine V.get (pc' := 4) X hK gh0 uw_Statement rfl 2 (by decide) (mcs wd_17) rfl d_Statement_isWhole_1 rfl ?_
  refine V.go (pc' := 5) (lv_iconst (v := 2) X.1 X.2.1 d_Statement_isWhole_4 (by decide)) ?_
  refine V.bn (pc' := 8) (tgt := 21) (P := sk = 2) (lv_icmp_ne X.1 X.2.1 d_Statement_isWhole_5 (by decide)) (fun c_1 => ?_) (fun c_1 => ?_)
  · have i_2 := congrArg Int32.toInt c_1
    refine V.rd (pc' := 9) (fun hl => lv_aload_n X.1 X.2.1 d_Statement_isWhole_8 rfl (lv_at hl 0 rfl)) ?_
    refine V.get (pc' := 12) X hK gh0 uw_Statement rfl 5 (by decide) (mcs wd_18) rfl d_Statement_isWhole_9 rfl ?_
    refine V.br (pc' := 15) (tgt := 19) (P := sc ≤ 0) (lv_if_le X.1 X.2.1 d_Statement_isWhole_12 (by decide)) (fun c_3 => ?_) (fun c_3 => ?_)
    · have i_4 := Int32.le_iff_toInt_le.mp c_3
      refine V.go (pc' := 20) (lv_iconst (v := 0) X.1 X.2.1 d_Statement_isWhole_19 (by decide)) ?_
      exact V.zret X hr hlk rfl ⟨(by simp only [sp_isWhole, if_pos c_1, if_pos c_3]), rfl⟩ d_Statement_isWhole_20
    · have i_5 := mt Int32.le_iff_toInt_le.mpr c_3
      refine V.go (pc' := 16) (lv_iconst (v := 1) X.1 X.2.1 d_Statement_isWhole_15 (by decide)) ?_
      refine V.go (pc' := 20) (lv_goto X.1 X.2.1 d_Statement_isWhole_16 (by decide)) ?_
      exact V.zret X hr hlk rfl ⟨(by simp only [sp_isWhole, if_pos c_1, if_neg c_3]), rfl⟩ d_Statement_isWhole_20
  · have i_6 := mt Int32.toInt_inj.mp c_1
    refine V.rd (pc' := 22) (fun hl => lv_aload_n X.1 X.2.1 d_Statement_isWhole_21 rfl (lv_at hl 0 rfl)) ?_
    refine V.get (pc' := 25) X hK gh0 uw_Statement rfl 2 (by decide) (mcs wd_17) rfl d_Statement_isWhole_22 rfl ?_
    refine V.go (pc' := 26) (lv_iconst (v := 3) X.1 X.2.1 d_Statement_isWhole_25 (by decide)) ?_
    refine V.bn (pc' := 29) (tgt := 47) (P := sk = 3) (lv_icmp_ne X.1 X.2.1 d_Statement_isWhole_26 (by decide)) (fun c_7 => ?_) (fun c_7 => ?_)
    · have i_8 := congrArg Int32.toInt c_7
      refine V.rd (pc' := 30) (fun hl => lv_aload_n X.1 X.2.1 d_Statement_isWhole_29 rfl (lv_at hl 0 rfl)) ?_
      refine V.get (pc' := 33) X hK gh0 uw_Statement rfl 6 (by decide) (mcs wd_19) rfl d_Statement_isWhole_30 rfl ?_
      refine V.br (pc' := 36) (tgt := 51) (P := sl ≤ 0) (lv_if_le X.1 X.2.1 d_Statement_isWhole_33 (by decide)) (fun c_9 => ?_) (fun c_9 => ?_)
      · have i_10 := Int32.le_iff_toInt_le.mp c_9
        refine V.go (pc' := 52) (lv_iconst (v := 0) X.1 X.2.1 d_Statement_isWhole_51 (by decide)) ?_
        exact V.zret X hr hlk rfl ⟨(by simp only [sp_isWhole, if_neg c_1, if_pos c_7, if_pos c_9]), rfl⟩ d_Statement_isWhole_52
      · have i_11 := mt Int32.le_iff_toInt_le.mpr c_9
        refine V.rd (pc' := 37) (fun hl => lv_aload_n X.1 X.2.1 d_Statement_isWhole_36 rfl (lv_at hl 0 rfl)) ?_
        refine V.get (pc' := 40) X hK gh0 uw_Statement rfl 5 (by decide) (mcs wd_18) rfl d_Statement_isWhole_37 rfl ?_
        refine V.rd (pc' := 41) (fun hl => lv_aload_n X.1 X.2.1 d_Statement_isWhole_40 rfl (lv_at hl 0 rfl)) ?_
        refine V.get (pc' := 44) X hK gh0 uw_Statement rfl 6 (by decide) (mcs wd_19) rfl d_Statement_isWhole_41 rfl ?_
        refine V.br (pc' := 47) (tgt := 51) (P := sc < sl) (lv_icmp_lt X.1 X.2.1 d_Statement_isWhole_44 (by decide)) (fun c_12 => ?_) (fun c_12 => ?_)
        · have i_13 := Int32.lt_iff_toInt_lt.mp c_12
          refine V.go (pc' := 52) (lv_iconst (v := 0) X.1 X.2.1 d_Statement_isWhole_51 (by decide)) ?_
          exact V.zret X hr hlk rfl ⟨(by simp only [sp_isWhole, if_neg c_1, if_pos c_7, if_neg c_9, if_pos c_12]), rfl⟩ d_Statement_isWhole_52
        · have i_14 := mt Int32.lt_iff_toInt_lt.mpr c_12
          refine V.go (pc' := 48) (lv_iconst (v := 1) X.1 X.2.1 d_Statement_isWhole_47 (by decide)) ?_
          refine V.go (pc' := 52) (lv_goto X.1 X.2.1 d_Statement_isWhole_48 (by decide)) ?_
          exact V.zret X hr hlk rfl ⟨(by simp only [sp_isWhole, if_neg c_1, if_pos c_7, if_neg c_9, if_neg c_12]), rfl⟩ d_Statement_isWhole_52
    · have i_15 := mt Int32.toInt_inj.mp c_7
      refine V.go (pc' := 48) (lv_iconst (v := 1) X.1 X.2.1 d_Statement_isWhole_47 (by decide)) ?_
      refine V.go (pc' := 52) (lv_goto X.1 X.2.1 d_Statement_isWhole_48 (by decide)) ?_
      exact V.zret X hr hlk rfl ⟨(by simp only [sp_isWhole, if_neg c_1, if_neg c_7]), rfl⟩ d_Statement_isWhole_52

theorem d_Statement_holds_0 : decode prog_6_method_10_code 0 = .ok (.iload_n 1, 1) := by decide +kernel
theorem d_Statement_holds_1 : decode prog_6_method_10_code 1 = .ok (.iconst 1, 1) := by decide +kernel
theorem d_Statement_holds_2 : decode prog_6_method_10_code 2 = .ok (.if_icmp .lt 9, 3) := by decide +kernel
theorem d_Statement_holds_5 : decode prog_6_method_10_code 5 = .ok (.iload_n 1, 1) := by decide +kernel
theorem d_Statement_holds_6 : decode prog_6_method_10_code 6 = .ok (.bipush 7, 2) := by decide +kernel
theorem d_Statement_holds_8 : decode prog_6_method_10_code 8 = .ok (.if_icmp .le 5, 3) := by decide +kernel
theorem d_Statement_holds_11 : decode prog_6_method_10_code 11 = .ok (.iconst 0, 1) := by decide +kernel
theorem d_Statement_holds_12 : decode prog_6_method_10_code 12 = .ok (.ireturn, 1) := by decide +kernel
theorem d_Statement_holds_13 : decode prog_6_method_10_code 13 = .ok (.aload_n 2, 1) := by decide +kernel
theorem d_Statement_holds_14 : decode prog_6_method_10_code 14 = .ok (.aload_n 0, 1) := by decide +kernel
theorem d_Statement_holds_15 : decode prog_6_method_10_code 15 = .ok (.getfield 9, 3) := by decide +kernel
theorem d_Statement_holds_18 : decode prog_6_method_10_code 18 = .ok (.iload_n 1, 1) := by decide +kernel
theorem d_Statement_holds_19 : decode prog_6_method_10_code 19 = .ok (.iconst 1, 1) := by decide +kernel
theorem d_Statement_holds_20 : decode prog_6_method_10_code 20 = .ok (.isub, 1) := by decide +kernel
theorem d_Statement_holds_21 : decode prog_6_method_10_code 21 = .ok (.iaload, 1) := by decide +kernel
theorem d_Statement_holds_22 : decode prog_6_method_10_code 22 = .ok (.invokevirtual 79, 3) := by decide +kernel
theorem d_Statement_holds_25 : decode prog_6_method_10_code 25 = .ok (.aload_n 0, 1) := by decide +kernel
theorem d_Statement_holds_26 : decode prog_6_method_10_code 26 = .ok (.getfield 15, 3) := by decide +kernel
theorem d_Statement_holds_29 : decode prog_6_method_10_code 29 = .ok (.iload_n 1, 1) := by decide +kernel
theorem d_Statement_holds_30 : decode prog_6_method_10_code 30 = .ok (.iconst 1, 1) := by decide +kernel
theorem d_Statement_holds_31 : decode prog_6_method_10_code 31 = .ok (.isub, 1) := by decide +kernel
theorem d_Statement_holds_32 : decode prog_6_method_10_code 32 = .ok (.laload, 1) := by decide +kernel
theorem d_Statement_holds_33 : decode prog_6_method_10_code 33 = .ok (.lcmp, 1) := by decide +kernel
theorem d_Statement_holds_34 : decode prog_6_method_10_code 34 = .ok (.ifCond .lt 7, 3) := by decide +kernel
theorem d_Statement_holds_37 : decode prog_6_method_10_code 37 = .ok (.iconst 1, 1) := by decide +kernel
theorem d_Statement_holds_38 : decode prog_6_method_10_code 38 = .ok (.goto 4, 3) := by decide +kernel
theorem d_Statement_holds_41 : decode prog_6_method_10_code 41 = .ok (.iconst 0, 1) := by decide +kernel
theorem d_Statement_holds_42 : decode prog_6_method_10_code 42 = .ok (.ireturn, 1) := by decide +kernel

def sp_holds (kc : Nat → Int32) (kv : Nat → Int64) (f : Nat → Int64) (x : Int32) : Int32 := if x < 1 then 0 else if x ≤ 7 then (if (lg_cmp (sp_Cells_value f (kc (x - 1).toNatClampNeg)) (kv (x - 1).toNatClampNeg)) < 0 then 0 else 1) else 0
set_option maxHeartbeats 4000000 in
set_option maxRecDepth 100000 in
theorem c_holds {l : Launch} {H0 : Heap} {D : va_G} {cI cL cQ cB : ClassId} {M : mp} {sm acc acv alc afv als ce va : Nat} {sf : Int32} {sto : Int32} {sk : Int32} {sn : Int32} {saf : Int32} {sc : Int32} {sl : Int32} {kc : Nat → Int32} {kv : Nat → Int64} {f : Nat → Int64} {x : Int32} (gh0 : M sm = some (.inr (4, [.int sf, .int sto, .int sk, .int sn, .int saf, .int sc, .int sl, .ref acc, .ref acv, .ref alc, .ref afv, .ref als]))) (gh1 : M acc = some (.inl (cI, 7, .inl kc))) (gh2 : M acv = some (.inl (cL, 7, .inr (.inl kv)))) (gh3 : M ce = some (.inr (0, [.ref va]))) (gh4 : M va = some (.inl (cL, 16, .inr (.inl f)))) : MC l H0 D cls7 (tysOf cI cL cQ cB) NW ({ cls := "PerformRanges$Statement", name := "holds", desc := "(ILPerformRanges$Cells;)Z" } : Jvm.MethodName) (Cond.code ({ cls := "PerformRanges$Statement", name := "holds", desc := "(ILPerformRanges$Cells;)Z" } : Jvm.MethodName) prog_6_method_10_code 3 (Option.some Jvm.ClassFile.FieldType.boolean) :: GW) ({ frames := 1, cells := 0, slots := 0, locals := 21 }) [.ref sm, .int x, .ref ce] M (fun v M' => v = some (.int (sp_holds kc kv f x)) ∧ M' = M) := by
  refine MC.of (cc := prog_6_method_10_code) (nL := 3) (ret := (Option.some Jvm.ClassFile.FieldType.boolean)) (lv := [(0, .ref sm), (1, .int x), (2, .ref ce)]) (by decide) rfl (Nat.le_of_ble_eq_true rfl) rfl ?_
  intro p e s m below meth c X hr hlk hnm hK
  have k0 : (0 : Int32).toInt = 0 := rfl
  have k1 : (1 : Int32).toInt = 1 := rfl
  have k7 : (7 : Int32).toInt = 7 := rfl
  refine V.rd (pc' := 1) (fun hl => lv_iload_n X.1 X.2.1 d_Statement_holds_0 rfl (lv_at hl 1 rfl)) ?_
  refine V.go (pc' := 2) (lv_iconst (v := 1) X.1 X.2.1 d_Statement_holds_1 (by decide)) ?_
  refine V.br (pc' := 5) (tgt := 11) (P := x < 1) (lv_icmp_lt X.1 X.2.1 d_Statement_holds_2 (by decide)) (fun c_1 => ?_) (fun c_1 => ?_)
  · have i_2 := Int32.lt_iff_toInt_lt.mp c_1
    refine V.go (pc' := 12) (lv_iconst (v := 0) X.1 X.2.1 d_Statement_holds_11 (by decide)) ?_
    exact V.zret X hr hlk rfl ⟨(by simp only [sp_holds, if_pos c_1]), rfl⟩ d_Statement_holds_12
  · have i_3 := mt Int32.lt_iff_toInt_lt.mpr c_1
    refine V.rd (pc' := 6) (fun hl => lv_iload_n X.1 X.2.1 d_Statement_holds_5 rfl (lv_at hl 1 rfl)) ?_
    refine V.go (pc' := 8) (lv_bipush (v := 7) X.1 X.2.1 d_Statement_holds_6 (by decide)) ?_
    refine V.br (pc' := 11) (tgt := 13) (P := x ≤ 7) (lv_icmp_le X.1 X.2.1 d_Statement_holds_8 (by decide)) (fun c_4 => ?_) (fun c_4 => ?_)
    · have i_5 := Int32.le_iff_toInt_le.mp c_4
      refine V.rd (pc' := 14) (fun hl => lv_aload_n X.1 X.2.1 d_Statement_holds_13 rfl (lv_at hl 2 rfl)) ?_
      refine V.rd (pc' := 15) (fun hl => lv_aload_n X.1 X.2.1 d_Statement_holds_14 rfl (lv_at hl 0 rfl)) ?_
      refine V.get (pc' := 18) X hK gh0 uw_Statement rfl 7 (by decide) (mcs wd_20) rfl d_Statement_holds_15 rfl ?_
      refine V.rd (pc' := 19) (fun hl => lv_iload_n X.1 X.2.1 d_Statement_holds_18 rfl (lv_at hl 1 rfl)) ?_
      refine V.go (pc' := 20) (lv_iconst (v := 1) X.1 X.2.1 d_Statement_holds_19 (by decide)) ?_
      refine V.go (pc' := 21) (lv_isub X.1 X.2.1 d_Statement_holds_20) ?_
      have s_6 : (x - 1).toInt = x.toInt - 1 := i32_sub1 (by omega)
      refine V.iald (pc' := 22) X hK 0 gh1 rfl (vin (by omega) (by omega)) d_Statement_holds_21 rfl ?_
      refine V.callV0 (pc' := 25) X hK (c_Cells_value  (ce := ce) (va := va) (f := f) (x := kc (x - 1).toNatClampNeg)   gh3 gh4  ) gh3 rfl (cwG (n := 1) X (mcs wd_21) (mcs wd_22) (mcs wd_23) (mcs wd_24) wd_25 (by decide +kernel) (by decide) (by decide)) rfl rfl (Nat.le_of_ble_eq_true rfl) d_Statement_holds_22 ⟨by decide, by decide⟩ rfl (st1 := [.long (sp_Cells_value f (kc (x - 1).toNatClampNeg))]) rfl ?_
      refine V.rd (pc' := 26) (fun hl => lv_aload_n X.1 X.2.1 d_Statement_holds_25 rfl (lv_at hl 0 rfl)) ?_
      refine V.get (pc' := 29) X hK gh0 uw_Statement rfl 8 (by decide) (mcs wd_26) rfl d_Statement_holds_26 rfl ?_
      refine V.rd (pc' := 30) (fun hl => lv_iload_n X.1 X.2.1 d_Statement_holds_29 rfl (lv_at hl 1 rfl)) ?_
      refine V.go (pc' := 31) (lv_iconst (v := 1) X.1 X.2.1 d_Statement_holds_30 (by decide)) ?_
      refine V.go (pc' := 32) (lv_isub X.1 X.2.1 d_Statement_holds_31) ?_
      have s_8 : (x - 1).toInt = x.toInt - 1 := i32_sub1 (by omega)
      refine V.lald (pc' := 33) X hK 1 gh2 rfl (vin (by omega) (by omega)) d_Statement_holds_32 rfl ?_
      refine V.go (pc' := 34) (W.lcmp X.1 X.2.1 d_Statement_holds_33) ?_
      refine V.br (pc' := 37) (tgt := 41) (P := (lg_cmp (sp_Cells_value f (kc (x - 1).toNatClampNeg)) (kv (x - 1).toNatClampNeg)) < 0) (lv_if_lt X.1 X.2.1 d_Statement_holds_34 (by decide)) (fun c_9 => ?_) (fun c_9 => ?_)
      · refine V.go (pc' := 42) (lv_iconst (v := 0) X.1 X.2.1 d_Statement_holds_41 (by decide)) ?_
        exact V.zret X hr hlk rfl ⟨(by simp only [sp_holds, if_neg c_1, if_pos c_4, if_pos c_9]), rfl⟩ d_Statement_holds_42
      · refine V.go (pc' := 38) (lv_iconst (v := 1) X.1 X.2.1 d_Statement_holds_37 (by decide)) ?_
        refine V.go (pc' := 42) (lv_goto X.1 X.2.1 d_Statement_holds_38 (by decide)) ?_
        exact V.zret X hr hlk rfl ⟨(by simp only [sp_holds, if_neg c_1, if_pos c_4, if_neg c_9]), rfl⟩ d_Statement_holds_42
    · have i_10 := mt Int32.le_iff_toInt_le.mpr c_4
      refine V.go (pc' := 12) (lv_iconst (v := 0) X.1 X.2.1 d_Statement_holds_11 (by decide)) ?_
      exact V.zret X hr hlk rfl ⟨(by simp only [sp_holds, if_neg c_1, if_neg c_4]), rfl⟩ d_Statement_holds_12

theorem d_Statement_takeStep_0 : decode prog_6_method_11_code 0 = .ok (.iload_n 1, 1) := by decide +kernel
theorem d_Statement_takeStep_1 : decode prog_6_method_11_code 1 = .ok (.iconst 1, 1) := by decide +kernel
theorem d_Statement_takeStep_2 : decode prog_6_method_11_code 2 = .ok (.if_icmp .lt 29, 3) := by decide +kernel
theorem d_Statement_takeStep_5 : decode prog_6_method_11_code 5 = .ok (.iload_n 1, 1) := by decide +kernel
theorem d_Statement_takeStep_6 : decode prog_6_method_11_code 6 = .ok (.bipush 7, 2) := by decide +kernel
theorem d_Statement_takeStep_8 : decode prog_6_method_11_code 8 = .ok (.if_icmp .gt 23, 3) := by decide +kernel
theorem d_Statement_takeStep_11 : decode prog_6_method_11_code 11 = .ok (.aload_n 2, 1) := by decide +kernel
theorem d_Statement_takeStep_12 : decode prog_6_method_11_code 12 = .ok (.aload_n 0, 1) := by decide +kernel
theorem d_Statement_takeStep_13 : decode prog_6_method_11_code 13 = .ok (.getfield 19, 3) := by decide +kernel
theorem d_Statement_takeStep_16 : decode prog_6_method_11_code 16 = .ok (.iload_n 1, 1) := by decide +kernel
theorem d_Statement_takeStep_17 : decode prog_6_method_11_code 17 = .ok (.iconst 1, 1) := by decide +kernel
theorem d_Statement_takeStep_18 : decode prog_6_method_11_code 18 = .ok (.isub, 1) := by decide +kernel
theorem d_Statement_takeStep_19 : decode prog_6_method_11_code 19 = .ok (.iaload, 1) := by decide +kernel
theorem d_Statement_takeStep_20 : decode prog_6_method_11_code 20 = .ok (.aload_n 0, 1) := by decide +kernel
theorem d_Statement_takeStep_21 : decode prog_6_method_11_code 21 = .ok (.getfield 25, 3) := by decide +kernel
theorem d_Statement_takeStep_24 : decode prog_6_method_11_code 24 = .ok (.iload_n 1, 1) := by decide +kernel
theorem d_Statement_takeStep_25 : decode prog_6_method_11_code 25 = .ok (.iconst 1, 1) := by decide +kernel
theorem d_Statement_takeStep_26 : decode prog_6_method_11_code 26 = .ok (.isub, 1) := by decide +kernel
theorem d_Statement_takeStep_27 : decode prog_6_method_11_code 27 = .ok (.laload, 1) := by decide +kernel
theorem d_Statement_takeStep_28 : decode prog_6_method_11_code 28 = .ok (.invokevirtual 85, 3) := by decide +kernel
theorem d_Statement_takeStep_31 : decode prog_6_method_11_code 31 = .ok (.return_, 1) := by decide +kernel

def sp_takeStep_va (lc : Nat → Int32) (lz : Nat → Int64) (f : Nat → Int64) (x : Int32) : Nat → Int64 := if x < 1 then f else if 7 < x then f else sp_Cells_grow_va f (lc (x - 1).toNatClampNeg) (lz (x - 1).toNatClampNeg)
set_option maxHeartbeats 4000000 in
set_option maxRecDepth 100000 in
theorem c_takeStep {l : Launch} {H0 : Heap} {D : va_G} {cI cL cQ cB : ClassId} {M : mp} {sm acc acv alc afv als ce va : Nat} {sf : Int32} {sto : Int32} {sk : Int32} {sn : Int32} {saf : Int32} {sc : Int32} {sl : Int32} {lc : Nat → Int32} {lz : Nat → Int64} {f : Nat → Int64} {x : Int32} (gh0 : M sm = some (.inr (4, [.int sf, .int sto, .int sk, .int sn, .int saf, .int sc, .int sl, .ref acc, .ref acv, .ref alc, .ref afv, .ref als]))) (gh1 : M alc = some (.inl (cI, 7, .inl lc))) (gh2 : M als = some (.inl (cL, 7, .inr (.inl lz)))) (gh3 : M ce = some (.inr (0, [.ref va]))) (gh4 : M va = some (.inl (cL, 16, .inr (.inl f)))) : MC l H0 D cls7 (tysOf cI cL cQ cB) NW ({ cls := "PerformRanges$Statement", name := "takeStep", desc := "(ILPerformRanges$Cells;)V" } : Jvm.MethodName) (Cond.code ({ cls := "PerformRanges$Statement", name := "takeStep", desc := "(ILPerformRanges$Cells;)V" } : Jvm.MethodName) prog_6_method_11_code 3 (Option.none : Option Jvm.ClassFile.FieldType) :: GW) ({ frames := 1, cells := 0, slots := 0, locals := 23 }) [.ref sm, .int x, .ref ce] M (fun v M' => v = none ∧ M' va = some (.inl (cL, 16, .inr (.inl (sp_takeStep_va lc lz f x)))) ∧ ∀ q, q ≠ va → M' q = M q) := by
  refine MC.of (cc := prog_6_method_11_code) (nL := 3) (ret := (Option.none : Option Jvm.ClassFile.FieldType)) (lv := [(0, .ref sm), (1, .int x), (2, .ref ce)]) (by decide) rfl (Nat.le_of_ble_eq_true rfl) rfl ?_
  intro p e s m below meth c X hr hlk hnm hK
  have k1 : (1 : Int32).toInt = 1 := rfl
  have k7 : (7 : Int32).toInt = 7 := rfl
  refine V.rd (pc' := 1) (fun hl => lv_iload_n X.1 X.2.1 d_Statement_takeStep_0 rfl (lv_at hl 1 rfl)) ?_
  refine V.go (pc' := 2) (lv_iconst (v := 1) X.1 X.2.1 d_Statement_takeStep_1 (by decide)) ?_
  refine V.br (pc' := 5) (tgt := 31) (P := x < 1) (lv_icmp_lt X.1 X.2.1 d_Statement_takeStep_2 (by decide)) (fun c_1 => ?_) (fun c_1 => ?_)
  · have i_2 := Int32.lt_iff_toInt_lt.mp c_1
    exact V.vret X hr hlk ⟨rfl, (by simp only [sp_takeStep_va, if_pos c_1]; exact gh4), (fun q n0_ => rfl)⟩ d_Statement_takeStep_31
  · have i_3 := mt Int32.lt_iff_toInt_lt.mpr c_1
    refine V.rd (pc' := 6) (fun hl => lv_iload_n X.1 X.2.1 d_Statement_takeStep_5 rfl (lv_at hl 1 rfl)) ?_
    refine V.go (pc' := 8) (lv_bipush (v := 7) X.1 X.2.1 d_Statement_takeStep_6 (by decide)) ?_
    refine V.br (pc' := 11) (tgt := 31) (P := 7 < x) (lv_icmp_gt X.1 X.2.1 d_Statement_takeStep_8 (by decide)) (fun c_4 => ?_) (fun c_4 => ?_)
    · have i_5 := Int32.lt_iff_toInt_lt.mp c_4
      exact V.vret X hr hlk ⟨rfl, (by simp only [sp_takeStep_va, if_neg c_1, if_pos c_4]; exact gh4), (fun q n0_ => rfl)⟩ d_Statement_takeStep_31
    · have i_6 := mt Int32.lt_iff_toInt_lt.mpr c_4
      refine V.rd (pc' := 12) (fun hl => lv_aload_n X.1 X.2.1 d_Statement_takeStep_11 rfl (lv_at hl 2 rfl)) ?_
      refine V.rd (pc' := 13) (fun hl => lv_aload_n X.1 X.2.1 d_Statement_takeStep_12 rfl (lv_at hl 0 rfl)) ?_
      refine V.get (pc' := 16) X hK gh0 uw_Statement rfl 9 (by decide) (mcs wd_27) rfl d_Statement_takeStep_13 rfl ?_
      refine V.rd (pc' := 17) (fun hl => lv_iload_n X.1 X.2.1 d_Statement_takeStep_16 rfl (lv_at hl 1 rfl)) ?_
      refine V.go (pc' := 18) (lv_iconst (v := 1) X.1 X.2.1 d_Statement_takeStep_17 (by decide)) ?_
      refine V.go (pc' := 19) (lv_isub X.1 X.2.1 d_Statement_takeStep_18) ?_
      have s_7 : (x - 1).toInt = x.toInt - 1 := i32_sub1 (by omega)
      refine V.iald (pc' := 20) X hK 0 gh1 rfl (vin (by omega) (by omega)) d_Statement_takeStep_19 rfl ?_
      refine V.rd (pc' := 21) (fun hl => lv_aload_n X.1 X.2.1 d_Statement_takeStep_20 rfl (lv_at hl 0 rfl)) ?_
      refine V.get (pc' := 24) X hK gh0 uw_Statement rfl 11 (by decide) (mcs wd_28) rfl d_Statement_takeStep_21 rfl ?_
      refine V.rd (pc' := 25) (fun hl => lv_iload_n X.1 X.2.1 d_Statement_takeStep_24 rfl (lv_at hl 1 rfl)) ?_
      refine V.go (pc' := 26) (lv_iconst (v := 1) X.1 X.2.1 d_Statement_takeStep_25 (by decide)) ?_
      refine V.go (pc' := 27) (lv_isub X.1 X.2.1 d_Statement_takeStep_26) ?_
      have s_8 : (x - 1).toInt = x.toInt - 1 := i32_sub1 (by omega)
      refine V.lald (pc' := 28) X hK 1 gh2 rfl (vin (by omega) (by omega)) d_Statement_takeStep_27 rfl ?_
      refine V.callV (pc' := 31) X hK (c_Cells_grow  (ce := ce) (va := va) (f := f) (x := lc (x - 1).toNatClampNeg) (y := lz (x - 1).toNatClampNeg)   gh3 gh4  ) gh3 rfl (cwG (n := 2) X (mcs wd_29) (mcs wd_30) (mcs wd_31) (mcs wd_24) wd_32 (by decide +kernel) (by decide) (by decide)) rfl rfl (Nat.le_of_ble_eq_true rfl) d_Statement_takeStep_28 ⟨by decide, by decide⟩ rfl (st1 := []) rfl (fun M_9 ⟨h_10, fr_11⟩ => ?_)
      have h_12 : M_9 sm = some (.inr (4, [.int sf, .int sto, .int sk, .int sn, .int saf, .int sc, .int sl, .ref acc, .ref acv, .ref alc, .ref afv, .ref als])) := (fr_11 _ (ne_k gh0 gh4 (i := 4) (j := 100016) rfl rfl (by decide))).trans gh0
      have h_13 : M_9 alc = some (.inl (cI, 7, .inl lc)) := (fr_11 _ (ne_k gh1 gh4 (i := 1007) (j := 100016) rfl rfl (by decide))).trans gh1
      have h_14 : M_9 als = some (.inl (cL, 7, .inr (.inl lz))) := (fr_11 _ (ne_k gh2 gh4 (i := 100007) (j := 100016) rfl rfl (by decide))).trans gh2
      have h_15 : M_9 ce = some (.inr (0, [.ref va])) := (fr_11 _ (ne_k gh3 gh4 (i := 0) (j := 100016) rfl rfl (by decide))).trans gh3
      exact V.vret X hr hlk ⟨rfl, (by simp only [sp_takeStep_va, if_neg c_1, if_neg c_4]; exact h_10), (fun q n0_ => (fr_11 q n0_))⟩ d_Statement_takeStep_31

theorem d_Statement_addCondition_0 : decode prog_6_method_2_code 0 = .ok (.aload_n 0, 1) := by decide +kernel
theorem d_Statement_addCondition_1 : decode prog_6_method_2_code 1 = .ok (.getfield 35, 3) := by decide +kernel
theorem d_Statement_addCondition_4 : decode prog_6_method_2_code 4 = .ok (.iconst 2, 1) := by decide +kernel
theorem d_Statement_addCondition_5 : decode prog_6_method_2_code 5 = .ok (.if_icmp .eq 11, 3) := by decide +kernel
theorem d_Statement_addCondition_8 : decode prog_6_method_2_code 8 = .ok (.aload_n 0, 1) := by decide +kernel
theorem d_Statement_addCondition_9 : decode prog_6_method_2_code 9 = .ok (.getfield 35, 3) := by decide +kernel
theorem d_Statement_addCondition_12 : decode prog_6_method_2_code 12 = .ok (.iconst 3, 1) := by decide +kernel
theorem d_Statement_addCondition_13 : decode prog_6_method_2_code 13 = .ok (.if_icmp .ne 12, 3) := by decide +kernel
theorem d_Statement_addCondition_16 : decode prog_6_method_2_code 16 = .ok (.aload_n 0, 1) := by decide +kernel
theorem d_Statement_addCondition_17 : decode prog_6_method_2_code 17 = .ok (.getfield 41, 3) := by decide +kernel
theorem d_Statement_addCondition_20 : decode prog_6_method_2_code 20 = .ok (.bipush 7, 2) := by decide +kernel
theorem d_Statement_addCondition_22 : decode prog_6_method_2_code 22 = .ok (.if_icmp .lt 5, 3) := by decide +kernel
theorem d_Statement_addCondition_25 : decode prog_6_method_2_code 25 = .ok (.iconst (-1), 1) := by decide +kernel
theorem d_Statement_addCondition_26 : decode prog_6_method_2_code 26 = .ok (.ireturn, 1) := by decide +kernel
theorem d_Statement_addCondition_27 : decode prog_6_method_2_code 27 = .ok (.aload_n 0, 1) := by decide +kernel
theorem d_Statement_addCondition_28 : decode prog_6_method_2_code 28 = .ok (.getfield 41, 3) := by decide +kernel
theorem d_Statement_addCondition_31 : decode prog_6_method_2_code 31 = .ok (.ifCond .ne 9, 3) := by decide +kernel
theorem d_Statement_addCondition_34 : decode prog_6_method_2_code 34 = .ok (.aload_n 0, 1) := by decide +kernel
theorem d_Statement_addCondition_35 : decode prog_6_method_2_code 35 = .ok (.iload 4, 2) := by decide +kernel
theorem d_Statement_addCondition_37 : decode prog_6_method_2_code 37 = .ok (.putfield 44, 3) := by decide +kernel
theorem d_Statement_addCondition_40 : decode prog_6_method_2_code 40 = .ok (.aload_n 0, 1) := by decide +kernel
theorem d_Statement_addCondition_41 : decode prog_6_method_2_code 41 = .ok (.getfield 9, 3) := by decide +kernel
theorem d_Statement_addCondition_44 : decode prog_6_method_2_code 44 = .ok (.aload_n 0, 1) := by decide +kernel
theorem d_Statement_addCondition_45 : decode prog_6_method_2_code 45 = .ok (.getfield 41, 3) := by decide +kernel
theorem d_Statement_addCondition_48 : decode prog_6_method_2_code 48 = .ok (.iload_n 1, 1) := by decide +kernel
theorem d_Statement_addCondition_49 : decode prog_6_method_2_code 49 = .ok (.iastore, 1) := by decide +kernel
theorem d_Statement_addCondition_50 : decode prog_6_method_2_code 50 = .ok (.aload_n 0, 1) := by decide +kernel
theorem d_Statement_addCondition_51 : decode prog_6_method_2_code 51 = .ok (.getfield 15, 3) := by decide +kernel
theorem d_Statement_addCondition_54 : decode prog_6_method_2_code 54 = .ok (.aload_n 0, 1) := by decide +kernel
theorem d_Statement_addCondition_55 : decode prog_6_method_2_code 55 = .ok (.getfield 41, 3) := by decide +kernel
theorem d_Statement_addCondition_58 : decode prog_6_method_2_code 58 = .ok (.lload_n 2, 1) := by decide +kernel
theorem d_Statement_addCondition_59 : decode prog_6_method_2_code 59 = .ok (.lastore, 1) := by decide +kernel
theorem d_Statement_addCondition_60 : decode prog_6_method_2_code 60 = .ok (.aload_n 0, 1) := by decide +kernel
theorem d_Statement_addCondition_61 : decode prog_6_method_2_code 61 = .ok (.dup, 1) := by decide +kernel
theorem d_Statement_addCondition_62 : decode prog_6_method_2_code 62 = .ok (.getfield 41, 3) := by decide +kernel
theorem d_Statement_addCondition_65 : decode prog_6_method_2_code 65 = .ok (.iconst 1, 1) := by decide +kernel
theorem d_Statement_addCondition_66 : decode prog_6_method_2_code 66 = .ok (.iadd, 1) := by decide +kernel
theorem d_Statement_addCondition_67 : decode prog_6_method_2_code 67 = .ok (.putfield 41, 3) := by decide +kernel
theorem d_Statement_addCondition_70 : decode prog_6_method_2_code 70 = .ok (.aload_n 0, 1) := by decide +kernel
theorem d_Statement_addCondition_71 : decode prog_6_method_2_code 71 = .ok (.getfield 41, 3) := by decide +kernel
theorem d_Statement_addCondition_74 : decode prog_6_method_2_code 74 = .ok (.ireturn, 1) := by decide +kernel

def sp_addCondition (sk : Int32) (sc : Int32) : Int32 := if sk = 2 then (if sc < 7 then sc + 1 else (-1)) else if sk = 3 then (if sc < 7 then sc + 1 else (-1)) else (-1)
def sp_addCondition_sm_4 (sk : Int32) (saf : Int32) (sc : Int32) (b : Int32) : Int32 := if sk = 2 then (if sc < 7 then (if sc = 0 then b else saf) else saf) else if sk = 3 then (if sc < 7 then (if sc = 0 then b else saf) else saf) else saf
def sp_addCondition_sm_5 (sk : Int32) (sc : Int32) : Int32 := if sk = 2 then (if sc < 7 then sc + 1 else sc) else if sk = 3 then (if sc < 7 then sc + 1 else sc) else sc
def sp_addCondition_acc (sk : Int32) (sc : Int32) (kc : Nat → Int32) (x : Int32) : Nat → Int32 := if sk = 2 then (if sc < 7 then upd kc sc.toNatClampNeg x else kc) else if sk = 3 then (if sc < 7 then upd kc sc.toNatClampNeg x else kc) else kc
def sp_addCondition_acv (sk : Int32) (sc : Int32) (kv : Nat → Int64) (y : Int64) : Nat → Int64 := if sk = 2 then (if sc < 7 then vp_updL kv sc.toNatClampNeg y else kv) else if sk = 3 then (if sc < 7 then vp_updL kv sc.toNatClampNeg y else kv) else kv
set_option maxHeartbeats 4000000 in
set_option maxRecDepth 100000 in
theorem c_addCondition {l : Launch} {H0 : Heap} {D : va_G} {cI cL cQ cB : ClassId} {M : mp} {sm acc acv alc afv als : Nat} {sf : Int32} {sto : Int32} {sk : Int32} {sn : Int32} {saf : Int32} {sc : Int32} {sl : Int32} {kc : Nat → Int32} {kv : Nat → Int64} {x : Int32} {y : Int64} {b : Int32} (hb : b = 0 ∨ b = 1) (hsc : 0 ≤ sc.toInt) (gh0 : M sm = some (.inr (4, [.int sf, .int sto, .int sk, .int sn, .int saf, .int sc, .int sl, .ref acc, .ref acv, .ref alc, .ref afv, .ref als]))) (gh1 : M acc = some (.inl (cI, 7, .inl kc))) (gh2 : M acv = some (.inl (cL, 7, .inr (.inl kv)))) : MC l H0 D cls7 (tysOf cI cL cQ cB) NW ({ cls := "PerformRanges$Statement", name := "addCondition", desc := "(IJZ)I" } : Jvm.MethodName) (Cond.code ({ cls := "PerformRanges$Statement", name := "addCondition", desc := "(IJZ)I" } : Jvm.MethodName) prog_6_method_2_code 5 (Option.some Jvm.ClassFile.FieldType.int) :: GW) ({ frames := 0, cells := 0, slots := 0, locals := 0 }) [.ref sm, .int x, .long y, .int b] M (fun v M' => v = some (.int (sp_addCondition sk sc)) ∧ M' sm = some (.inr (4, [.int sf, .int sto, .int sk, .int sn, .int (sp_addCondition_sm_4 sk saf sc b), .int (sp_addCondition_sm_5 sk sc), .int sl, .ref acc, .ref acv, .ref alc, .ref afv, .ref als])) ∧ M' acc = some (.inl (cI, 7, .inl (sp_addCondition_acc sk sc kc x))) ∧ M' acv = some (.inl (cL, 7, .inr (.inl (sp_addCondition_acv sk sc kv y)))) ∧ ∀ q, q ≠ sm → q ≠ acc → q ≠ acv → M' q = M q) := by
  refine MC.of (cc := prog_6_method_2_code) (nL := 5) (ret := (Option.some Jvm.ClassFile.FieldType.int)) (lv := [(0, .ref sm), (1, .int x), (2, .long y), (4, .int b)]) (by decide) rfl (Nat.le_of_ble_eq_true rfl) rfl ?_
  intro p e s m below meth c X hr hlk hnm hK
  have km1 : ((-1) : Int32).toInt = -1 := rfl
  have k0 : (0 : Int32).toInt = 0 := rfl
  have k1 : (1 : Int32).toInt = 1 := rfl
  have k2 : (2 : Int32).toInt = 2 := rfl
  have k3 : (3 : Int32).toInt = 3 := rfl
  have k7 : (7 : Int32).toInt = 7 := rfl
  refine V.rd (pc' := 1) (fun hl => lv_aload_n X.1 X.2.1 d_Statement_addCondition_0 rfl (lv_at hl 0 rfl)) ?_
  refine V.get (pc' := 4) X hK gh0 uw_Statement rfl 2 (by decide) (mcs wd_17) rfl d_Statement_addCondition_1 rfl ?_
  refine V.go (pc' := 5) (lv_iconst (v := 2) X.1 X.2.1 d_Statement_addCondition_4 (by decide)) ?_
  refine V.br (pc' := 8) (tgt := 16) (P := sk = 2) (lv_icmp_eq X.1 X.2.1 d_Statement_addCondition_5 (by decide)) (fun c_1 => ?_) (fun c_1 => ?_)
  · have i_2 := congrArg Int32.toInt c_1
    refine V.rd (pc' := 17) (fun hl => lv_aload_n X.1 X.2.1 d_Statement_addCondition_16 rfl (lv_at hl 0 rfl)) ?_
    refine V.get (pc' := 20) X hK gh0 uw_Statement rfl 5 (by decide) (mcs wd_18) rfl d_Statement_addCondition_17 rfl ?_
    refine V.go (pc' := 22) (lv_bipush (v := 7) X.1 X.2.1 d_Statement_addCondition_20 (by decide)) ?_
    refine V.br (pc' := 25) (tgt := 27) (P := sc < 7) (lv_icmp_lt X.1 X.2.1 d_Statement_addCondition_22 (by decide)) (fun c_3 => ?_) (fun c_3 => ?_)
    · have i_4 := Int32.lt_iff_toInt_lt.mp c_3
      refine V.rd (pc' := 28) (fun hl => lv_aload_n X.1 X.2.1 d_Statement_addCondition_27 rfl (lv_at hl 0 rfl)) ?_
      refine V.get (pc' := 31) X hK gh0 uw_Statement rfl 5 (by decide) (mcs wd_18) rfl d_Statement_addCondition_28 rfl ?_
      refine V.bn (pc' := 34) (tgt := 40) (P := sc = 0) (lv_if_ne X.1 X.2.1 d_Statement_addCondition_31 (by decide)) (fun c_5 => ?_) (fun c_5 => ?_)
      · have i_6 := congrArg Int32.toInt c_5
        refine V.rd (pc' := 35) (fun hl => lv_aload_n X.1 X.2.1 d_Statement_addCondition_34 rfl (lv_at hl 0 rfl)) ?_
        refine V.rd (pc' := 37) (fun hl => lv_iload X.1 X.2.1 d_Statement_addCondition_35 (lv_at hl 3 rfl)) ?_
        refine V.put (pc' := 40) X hK gh0 uw_Statement t_Statement tok_Statement nm_Statement rfl 4 (by decide) (mcs wd_33) rfl (nb_ok hb) (fb_ok hb) (Nat.le_of_ble_eq_true rfl) (fs' := [.int sf, .int sto, .int sk, .int sn, .int b, .int sc, .int sl, .ref acc, .ref acv, .ref alc, .ref afv, .ref als]) rfl d_Statement_addCondition_37 rfl (fun M_7 h_8 fr_9 => ?_)
        have h_10 : M_7 acc = some (.inl (cI, 7, .inl kc)) := (fr_9 _ (ne_k gh1 gh0 (i := 1007) (j := 4) rfl rfl (by decide))).trans gh1
        have h_11 : M_7 acv = some (.inl (cL, 7, .inr (.inl kv))) := (fr_9 _ (ne_k gh2 gh0 (i := 100007) (j := 4) rfl rfl (by decide))).trans gh2
        refine V.rd (pc' := 41) (fun hl => lv_aload_n X.1 X.2.1 d_Statement_addCondition_40 rfl (lv_at hl 0 rfl)) ?_
        refine V.get (pc' := 44) X hK h_8 uw_Statement rfl 7 (by decide) (mcs wd_20) rfl d_Statement_addCondition_41 rfl ?_
        refine V.rd (pc' := 45) (fun hl => lv_aload_n X.1 X.2.1 d_Statement_addCondition_44 rfl (lv_at hl 0 rfl)) ?_
        refine V.get (pc' := 48) X hK h_8 uw_Statement rfl 5 (by decide) (mcs wd_18) rfl d_Statement_addCondition_45 rfl ?_
        refine V.rd (pc' := 49) (fun hl => lv_iload_n X.1 X.2.1 d_Statement_addCondition_48 rfl (lv_at hl 1 rfl)) ?_
        refine V.iast (pc' := 50) X hK 0 h_10 rfl (vin (by omega) (by omega)) d_Statement_addCondition_49 rfl (fun M_12 h_13 fr_14 => ?_)
        have h_15 : M_12 acv = some (.inl (cL, 7, .inr (.inl kv))) := (fr_14 _ (ne_k h_11 h_10 (i := 100007) (j := 1007) rfl rfl (by decide))).trans h_11
        have h_16 : M_12 sm = some (.inr (4, [.int sf, .int sto, .int sk, .int sn, .int b, .int sc, .int sl, .ref acc, .ref acv, .ref alc, .ref afv, .ref als])) := (fr_14 _ (ne_k h_8 h_10 (i := 4) (j := 1007) rfl rfl (by decide))).trans h_8
        refine V.rd (pc' := 51) (fun hl => lv_aload_n X.1 X.2.1 d_Statement_addCondition_50 rfl (lv_at hl 0 rfl)) ?_
        refine V.get (pc' := 54) X hK h_16 uw_Statement rfl 8 (by decide) (mcs wd_26) rfl d_Statement_addCondition_51 rfl ?_
        refine V.rd (pc' := 55) (fun hl => lv_aload_n X.1 X.2.1 d_Statement_addCondition_54 rfl (lv_at hl 0 rfl)) ?_
        refine V.get (pc' := 58) X hK h_16 uw_Statement rfl 5 (by decide) (mcs wd_18) rfl d_Statement_addCondition_55 rfl ?_
        refine V.rd (pc' := 59) (fun hl => lv_lload_n X.1 X.2.1 d_Statement_addCondition_58 rfl (lv_at hl 2 rfl)) ?_
        refine V.last (pc' := 60) X hK 1 h_15 rfl (vin (by omega) (by omega)) d_Statement_addCondition_59 rfl (fun M_17 h_18 fr_19 => ?_)
        have h_20 : M_17 sm = some (.inr (4, [.int sf, .int sto, .int sk, .int sn, .int b, .int sc, .int sl, .ref acc, .ref acv, .ref alc, .ref afv, .ref als])) := (fr_19 _ (ne_k h_16 h_15 (i := 4) (j := 100007) rfl rfl (by decide))).trans h_16
        have h_21 : M_17 acc = some (.inl (cI, 7, .inl (upd kc sc.toNatClampNeg x))) := (fr_19 _ (ne_k h_13 h_15 (i := 1007) (j := 100007) rfl rfl (by decide))).trans h_13
        refine V.rd (pc' := 61) (fun hl => lv_aload_n X.1 X.2.1 d_Statement_addCondition_60 rfl (lv_at hl 0 rfl)) ?_
        refine V.go (pc' := 62) (lv_dup X.1 X.2.1 d_Statement_addCondition_61 rfl) ?_
        refine V.get (pc' := 65) X hK h_20 uw_Statement rfl 5 (by decide) (mcs wd_18) rfl d_Statement_addCondition_62 rfl ?_
        refine V.go (pc' := 66) (lv_iconst (v := 1) X.1 X.2.1 d_Statement_addCondition_65 (by decide)) ?_
        refine V.go (pc' := 67) (lv_iadd X.1 X.2.1 d_Statement_addCondition_66) ?_
        have s_22 : (sc + 1).toInt = sc.toInt + 1 := i32_add1 (by omega)
        refine V.put (pc' := 70) X hK h_20 uw_Statement t_Statement tok_Statement nm_Statement rfl 5 (by decide) (mcs wd_18) rfl rfl rfl (Nat.le_of_ble_eq_true rfl) (fs' := [.int sf, .int sto, .int sk, .int sn, .int b, .int (sc + 1), .int sl, .ref acc, .ref acv, .ref alc, .ref afv, .ref als]) rfl d_Statement_addCondition_67 rfl (fun M_23 h_24 fr_25 => ?_)
        have h_26 : M_23 acc = some (.inl (cI, 7, .inl (upd kc sc.toNatClampNeg x))) := (fr_25 _ (ne_k h_21 h_20 (i := 1007) (j := 4) rfl rfl (by decide))).trans h_21
        have h_27 : M_23 acv = some (.inl (cL, 7, .inr (.inl (vp_updL kv sc.toNatClampNeg y)))) := (fr_25 _ (ne_k h_18 h_20 (i := 100007) (j := 4) rfl rfl (by decide))).trans h_18
        refine V.rd (pc' := 71) (fun hl => lv_aload_n X.1 X.2.1 d_Statement_addCondition_70 rfl (lv_at hl 0 rfl)) ?_
        refine V.get (pc' := 74) X hK h_24 uw_Statement rfl 5 (by decide) (mcs wd_18) rfl d_Statement_addCondition_71 rfl ?_
        exact V.iret X hr hlk ⟨(by simp only [sp_addCondition, if_pos c_1, if_pos c_3, if_pos c_5]), (by simp only [sp_addCondition_sm_4, sp_addCondition_sm_5, if_pos c_1, if_pos c_3, if_pos c_5]; exact h_24), (by simp only [sp_addCondition_acc, if_pos c_1, if_pos c_3, if_pos c_5]; exact h_26), (by simp only [sp_addCondition_acv, if_pos c_1, if_pos c_3, if_pos c_5]; exact h_27), (fun q n0_ n1_ n2_ => (fr_25 q n0_).trans ((fr_19 q n2_).trans ((fr_14 q n1_).trans ((fr_9 q n0_)))))⟩ d_Statement_addCondition_74
      · have i_28 := mt Int32.toInt_inj.mp c_5
        refine V.rd (pc' := 41) (fun hl => lv_aload_n X.1 X.2.1 d_Statement_addCondition_40 rfl (lv_at hl 0 rfl)) ?_
        refine V.get (pc' := 44) X hK gh0 uw_Statement rfl 7 (by decide) (mcs wd_20) rfl d_Statement_addCondition_41 rfl ?_
        refine V.rd (pc' := 45) (fun hl => lv_aload_n X.1 X.2.1 d_Statement_addCondition_44 rfl (lv_at hl 0 rfl)) ?_
        refine V.get (pc' := 48) X hK gh0 uw_Statement rfl 5 (by decide) (mcs wd_18) rfl d_Statement_addCondition_45 rfl ?_
        refine V.rd (pc' := 49) (fun hl => lv_iload_n X.1 X.2.1 d_Statement_addCondition_48 rfl (lv_at hl 1 rfl)) ?_
        refine V.iast (pc' := 50) X hK 0 gh1 rfl (vin (by omega) (by omega)) d_Statement_addCondition_49 rfl (fun M_29 h_30 fr_31 => ?_)
        have h_32 : M_29 sm = some (.inr (4, [.int sf, .int sto, .int sk, .int sn, .int saf, .int sc, .int sl, .ref acc, .ref acv, .ref alc, .ref afv, .ref als])) := (fr_31 _ (ne_k gh0 gh1 (i := 4) (j := 1007) rfl rfl (by decide))).trans gh0
        have h_33 : M_29 acv = some (.inl (cL, 7, .inr (.inl kv))) := (fr_31 _ (ne_k gh2 gh1 (i := 100007) (j := 1007) rfl rfl (by decide))).trans gh2
        refine V.rd (pc' := 51) (fun hl => lv_aload_n X.1 X.2.1 d_Statement_addCondition_50 rfl (lv_at hl 0 rfl)) ?_
        refine V.get (pc' := 54) X hK h_32 uw_Statement rfl 8 (by decide) (mcs wd_26) rfl d_Statement_addCondition_51 rfl ?_
        refine V.rd (pc' := 55) (fun hl => lv_aload_n X.1 X.2.1 d_Statement_addCondition_54 rfl (lv_at hl 0 rfl)) ?_
        refine V.get (pc' := 58) X hK h_32 uw_Statement rfl 5 (by decide) (mcs wd_18) rfl d_Statement_addCondition_55 rfl ?_
        refine V.rd (pc' := 59) (fun hl => lv_lload_n X.1 X.2.1 d_Statement_addCondition_58 rfl (lv_at hl 2 rfl)) ?_
        refine V.last (pc' := 60) X hK 1 h_33 rfl (vin (by omega) (by omega)) d_Statement_addCondition_59 rfl (fun M_34 h_35 fr_36 => ?_)
        have h_37 : M_34 sm = some (.inr (4, [.int sf, .int sto, .int sk, .int sn, .int saf, .int sc, .int sl, .ref acc, .ref acv, .ref alc, .ref afv, .ref als])) := (fr_36 _ (ne_k h_32 h_33 (i := 4) (j := 100007) rfl rfl (by decide))).trans h_32
        have h_38 : M_34 acc = some (.inl (cI, 7, .inl (upd kc sc.toNatClampNeg x))) := (fr_36 _ (ne_k h_30 h_33 (i := 1007) (j := 100007) rfl rfl (by decide))).trans h_30
        refine V.rd (pc' := 61) (fun hl => lv_aload_n X.1 X.2.1 d_Statement_addCondition_60 rfl (lv_at hl 0 rfl)) ?_
        refine V.go (pc' := 62) (lv_dup X.1 X.2.1 d_Statement_addCondition_61 rfl) ?_
        refine V.get (pc' := 65) X hK h_37 uw_Statement rfl 5 (by decide) (mcs wd_18) rfl d_Statement_addCondition_62 rfl ?_
        refine V.go (pc' := 66) (lv_iconst (v := 1) X.1 X.2.1 d_Statement_addCondition_65 (by decide)) ?_
        refine V.go (pc' := 67) (lv_iadd X.1 X.2.1 d_Statement_addCondition_66) ?_
        have s_39 : (sc + 1).toInt = sc.toInt + 1 := i32_add1 (by omega)
        refine V.put (pc' := 70) X hK h_37 uw_Statement t_Statement tok_Statement nm_Statement rfl 5 (by decide) (mcs wd_18) rfl rfl rfl (Nat.le_of_ble_eq_true rfl) (fs' := [.int sf, .int sto, .int sk, .int sn, .int saf, .int (sc + 1), .int sl, .ref acc, .ref acv, .ref alc, .ref afv, .ref als]) rfl d_Statement_addCondition_67 rfl (fun M_40 h_41 fr_42 => ?_)
        have h_43 : M_40 acc = some (.inl (cI, 7, .inl (upd kc sc.toNatClampNeg x))) := (fr_42 _ (ne_k h_38 h_37 (i := 1007) (j := 4) rfl rfl (by decide))).trans h_38
        have h_44 : M_40 acv = some (.inl (cL, 7, .inr (.inl (vp_updL kv sc.toNatClampNeg y)))) := (fr_42 _ (ne_k h_35 h_37 (i := 100007) (j := 4) rfl rfl (by decide))).trans h_35
        refine V.rd (pc' := 71) (fun hl => lv_aload_n X.1 X.2.1 d_Statement_addCondition_70 rfl (lv_at hl 0 rfl)) ?_
        refine V.get (pc' := 74) X hK h_41 uw_Statement rfl 5 (by decide) (mcs wd_18) rfl d_Statement_addCondition_71 rfl ?_
        exact V.iret X hr hlk ⟨(by simp only [sp_addCondition, if_pos c_1, if_pos c_3, if_neg c_5]), (by simp only [sp_addCondition_sm_4, sp_addCondition_sm_5, if_pos c_1, if_pos c_3, if_neg c_5]; exact h_41), (by simp only [sp_addCondition_acc, if_pos c_1, if_pos c_3, if_neg c_5]; exact h_43), (by simp only [sp_addCondition_acv, if_pos c_1, if_pos c_3, if_neg c_5]; exact h_44), (fun q n0_ n1_ n2_ => (fr_42 q n0_).trans ((fr_36 q n2_).trans ((fr_31 q n1_))))⟩ d_Statement_addCondition_74
    · have i_45 := mt Int32.lt_iff_toInt_lt.mpr c_3
      refine V.go (pc' := 26) (lv_iconst (v := (-1)) X.1 X.2.1 d_Statement_addCondition_25 (by decide)) ?_
      exact V.iret X hr hlk ⟨(by simp only [sp_addCondition, if_pos c_1, if_neg c_3]), (by simp only [sp_addCondition_sm_4, sp_addCondition_sm_5, if_pos c_1, if_neg c_3]; exact gh0), (by simp only [sp_addCondition_acc, if_pos c_1, if_neg c_3]; exact gh1), (by simp only [sp_addCondition_acv, if_pos c_1, if_neg c_3]; exact gh2), (fun q n0_ n1_ n2_ => rfl)⟩ d_Statement_addCondition_26
  · have i_46 := mt Int32.toInt_inj.mp c_1
    refine V.rd (pc' := 9) (fun hl => lv_aload_n X.1 X.2.1 d_Statement_addCondition_8 rfl (lv_at hl 0 rfl)) ?_
    refine V.get (pc' := 12) X hK gh0 uw_Statement rfl 2 (by decide) (mcs wd_17) rfl d_Statement_addCondition_9 rfl ?_
    refine V.go (pc' := 13) (lv_iconst (v := 3) X.1 X.2.1 d_Statement_addCondition_12 (by decide)) ?_
    refine V.bn (pc' := 16) (tgt := 25) (P := sk = 3) (lv_icmp_ne X.1 X.2.1 d_Statement_addCondition_13 (by decide)) (fun c_47 => ?_) (fun c_47 => ?_)
    · have i_48 := congrArg Int32.toInt c_47
      refine V.rd (pc' := 17) (fun hl => lv_aload_n X.1 X.2.1 d_Statement_addCondition_16 rfl (lv_at hl 0 rfl)) ?_
      refine V.get (pc' := 20) X hK gh0 uw_Statement rfl 5 (by decide) (mcs wd_18) rfl d_Statement_addCondition_17 rfl ?_
      refine V.go (pc' := 22) (lv_bipush (v := 7) X.1 X.2.1 d_Statement_addCondition_20 (by decide)) ?_
      refine V.br (pc' := 25) (tgt := 27) (P := sc < 7) (lv_icmp_lt X.1 X.2.1 d_Statement_addCondition_22 (by decide)) (fun c_49 => ?_) (fun c_49 => ?_)
      · have i_50 := Int32.lt_iff_toInt_lt.mp c_49
        refine V.rd (pc' := 28) (fun hl => lv_aload_n X.1 X.2.1 d_Statement_addCondition_27 rfl (lv_at hl 0 rfl)) ?_
        refine V.get (pc' := 31) X hK gh0 uw_Statement rfl 5 (by decide) (mcs wd_18) rfl d_Statement_addCondition_28 rfl ?_
        refine V.bn (pc' := 34) (tgt := 40) (P := sc = 0) (lv_if_ne X.1 X.2.1 d_Statement_addCondition_31 (by decide)) (fun c_51 => ?_) (fun c_51 => ?_)
        · have i_52 := congrArg Int32.toInt c_51
          refine V.rd (pc' := 35) (fun hl => lv_aload_n X.1 X.2.1 d_Statement_addCondition_34 rfl (lv_at hl 0 rfl)) ?_
          refine V.rd (pc' := 37) (fun hl => lv_iload X.1 X.2.1 d_Statement_addCondition_35 (lv_at hl 3 rfl)) ?_
          refine V.put (pc' := 40) X hK gh0 uw_Statement t_Statement tok_Statement nm_Statement rfl 4 (by decide) (mcs wd_33) rfl (nb_ok hb) (fb_ok hb) (Nat.le_of_ble_eq_true rfl) (fs' := [.int sf, .int sto, .int sk, .int sn, .int b, .int sc, .int sl, .ref acc, .ref acv, .ref alc, .ref afv, .ref als]) rfl d_Statement_addCondition_37 rfl (fun M_53 h_54 fr_55 => ?_)
          have h_56 : M_53 acc = some (.inl (cI, 7, .inl kc)) := (fr_55 _ (ne_k gh1 gh0 (i := 1007) (j := 4) rfl rfl (by decide))).trans gh1
          have h_57 : M_53 acv = some (.inl (cL, 7, .inr (.inl kv))) := (fr_55 _ (ne_k gh2 gh0 (i := 100007) (j := 4) rfl rfl (by decide))).trans gh2
          refine V.rd (pc' := 41) (fun hl => lv_aload_n X.1 X.2.1 d_Statement_addCondition_40 rfl (lv_at hl 0 rfl)) ?_
          refine V.get (pc' := 44) X hK h_54 uw_Statement rfl 7 (by decide) (mcs wd_20) rfl d_Statement_addCondition_41 rfl ?_
          refine V.rd (pc' := 45) (fun hl => lv_aload_n X.1 X.2.1 d_Statement_addCondition_44 rfl (lv_at hl 0 rfl)) ?_
          refine V.get (pc' := 48) X hK h_54 uw_Statement rfl 5 (by decide) (mcs wd_18) rfl d_Statement_addCondition_45 rfl ?_
          refine V.rd (pc' := 49) (fun hl => lv_iload_n X.1 X.2.1 d_Statement_addCondition_48 rfl (lv_at hl 1 rfl)) ?_
          refine V.iast (pc' := 50) X hK 0 h_56 rfl (vin (by omega) (by omega)) d_Statement_addCondition_49 rfl (fun M_58 h_59 fr_60 => ?_)
          have h_61 : M_58 acv = some (.inl (cL, 7, .inr (.inl kv))) := (fr_60 _ (ne_k h_57 h_56 (i := 100007) (j := 1007) rfl rfl (by decide))).trans h_57
          have h_62 : M_58 sm = some (.inr (4, [.int sf, .int sto, .int sk, .int sn, .int b, .int sc, .int sl, .ref acc, .ref acv, .ref alc, .ref afv, .ref als])) := (fr_60 _ (ne_k h_54 h_56 (i := 4) (j := 1007) rfl rfl (by decide))).trans h_54
          refine V.rd (pc' := 51) (fun hl => lv_aload_n X.1 X.2.1 d_Statement_addCondition_50 rfl (lv_at hl 0 rfl)) ?_
          refine V.get (pc' := 54) X hK h_62 uw_Statement rfl 8 (by decide) (mcs wd_26) rfl d_Statement_addCondition_51 rfl ?_
          refine V.rd (pc' := 55) (fun hl => lv_aload_n X.1 X.2.1 d_Statement_addCondition_54 rfl (lv_at hl 0 rfl)) ?_
          refine V.get (pc' := 58) X hK h_62 uw_Statement rfl 5 (by decide) (mcs wd_18) rfl d_Statement_addCondition_55 rfl ?_
          refine V.rd (pc' := 59) (fun hl => lv_lload_n X.1 X.2.1 d_Statement_addCondition_58 rfl (lv_at hl 2 rfl)) ?_
          refine V.last (pc' := 60) X hK 1 h_61 rfl (vin (by omega) (by omega)) d_Statement_addCondition_59 rfl (fun M_63 h_64 fr_65 => ?_)
          have h_66 : M_63 sm = some (.inr (4, [.int sf, .int sto, .int sk, .int sn, .int b, .int sc, .int sl, .ref acc, .ref acv, .ref alc, .ref afv, .ref als])) := (fr_65 _ (ne_k h_62 h_61 (i := 4) (j := 100007) rfl rfl (by decide))).trans h_62
          have h_67 : M_63 acc = some (.inl (cI, 7, .inl (upd kc sc.toNatClampNeg x))) := (fr_65 _ (ne_k h_59 h_61 (i := 1007) (j := 100007) rfl rfl (by decide))).trans h_59
          refine V.rd (pc' := 61) (fun hl => lv_aload_n X.1 X.2.1 d_Statement_addCondition_60 rfl (lv_at hl 0 rfl)) ?_
          refine V.go (pc' := 62) (lv_dup X.1 X.2.1 d_Statement_addCondition_61 rfl) ?_
          refine V.get (pc' := 65) X hK h_66 uw_Statement rfl 5 (by decide) (mcs wd_18) rfl d_Statement_addCondition_62 rfl ?_
          refine V.go (pc' := 66) (lv_iconst (v := 1) X.1 X.2.1 d_Statement_addCondition_65 (by decide)) ?_
          refine V.go (pc' := 67) (lv_iadd X.1 X.2.1 d_Statement_addCondition_66) ?_
          have s_68 : (sc + 1).toInt = sc.toInt + 1 := i32_add1 (by omega)
          refine V.put (pc' := 70) X hK h_66 uw_Statement t_Statement tok_Statement nm_Statement rfl 5 (by decide) (mcs wd_18) rfl rfl rfl (Nat.le_of_ble_eq_true rfl) (fs' := [.int sf, .int sto, .int sk, .int sn, .int b, .int (sc + 1), .int sl, .ref acc, .ref acv, .ref alc, .ref afv, .ref als]) rfl d_Statement_addCondition_67 rfl (fun M_69 h_70 fr_71 => ?_)
          have h_72 : M_69 acc = some (.inl (cI, 7, .inl (upd kc sc.toNatClampNeg x))) := (fr_71 _ (ne_k h_67 h_66 (i := 1007) (j := 4) rfl rfl (by decide))).trans h_67
          have h_73 : M_69 acv = some (.inl (cL, 7, .inr (.inl (vp_updL kv sc.toNatClampNeg y)))) := (fr_71 _ (ne_k h_64 h_66 (i := 100007) (j := 4) rfl rfl (by decide))).trans h_64
          refine V.rd (pc' := 71) (fun hl => lv_aload_n X.1 X.2.1 d_Statement_addCondition_70 rfl (lv_at hl 0 rfl)) ?_
          refine V.get (pc' := 74) X hK h_70 uw_Statement rfl 5 (by decide) (mcs wd_18) rfl d_Statement_addCondition_71 rfl ?_
          exact V.iret X hr hlk ⟨(by simp only [sp_addCondition, if_neg c_1, if_pos c_47, if_pos c_49, if_pos c_51]), (by simp only [sp_addCondition_sm_4, sp_addCondition_sm_5, if_neg c_1, if_pos c_47, if_pos c_49, if_pos c_51]; exact h_70), (by simp only [sp_addCondition_acc, if_neg c_1, if_pos c_47, if_pos c_49, if_pos c_51]; exact h_72), (by simp only [sp_addCondition_acv, if_neg c_1, if_pos c_47, if_pos c_49, if_pos c_51]; exact h_73), (fun q n0_ n1_ n2_ => (fr_71 q n0_).trans ((fr_65 q n2_).trans ((fr_60 q n1_).trans ((fr_55 q n0_)))))⟩ d_Statement_addCondition_74
        · have i_74 := mt Int32.toInt_inj.mp c_51
          refine V.rd (pc' := 41) (fun hl => lv_aload_n X.1 X.2.1 d_Statement_addCondition_40 rfl (lv_at hl 0 rfl)) ?_
          refine V.get (pc' := 44) X hK gh0 uw_Statement rfl 7 (by decide) (mcs wd_20) rfl d_Statement_addCondition_41 rfl ?_
          refine V.rd (pc' := 45) (fun hl => lv_aload_n X.1 X.2.1 d_Statement_addCondition_44 rfl (lv_at hl 0 rfl)) ?_
          refine V.get (pc' := 48) X hK gh0 uw_Statement rfl 5 (by decide) (mcs wd_18) rfl d_Statement_addCondition_45 rfl ?_
          refine V.rd (pc' := 49) (fun hl => lv_iload_n X.1 X.2.1 d_Statement_addCondition_48 rfl (lv_at hl 1 rfl)) ?_
          refine V.iast (pc' := 50) X hK 0 gh1 rfl (vin (by omega) (by omega)) d_Statement_addCondition_49 rfl (fun M_75 h_76 fr_77 => ?_)
          have h_78 : M_75 sm = some (.inr (4, [.int sf, .int sto, .int sk, .int sn, .int saf, .int sc, .int sl, .ref acc, .ref acv, .ref alc, .ref afv, .ref als])) := (fr_77 _ (ne_k gh0 gh1 (i := 4) (j := 1007) rfl rfl (by decide))).trans gh0
          have h_79 : M_75 acv = some (.inl (cL, 7, .inr (.inl kv))) := (fr_77 _ (ne_k gh2 gh1 (i := 100007) (j := 1007) rfl rfl (by decide))).trans gh2
          refine V.rd (pc' := 51) (fun hl => lv_aload_n X.1 X.2.1 d_Statement_addCondition_50 rfl (lv_at hl 0 rfl)) ?_
          refine V.get (pc' := 54) X hK h_78 uw_Statement rfl 8 (by decide) (mcs wd_26) rfl d_Statement_addCondition_51 rfl ?_
          refine V.rd (pc' := 55) (fun hl => lv_aload_n X.1 X.2.1 d_Statement_addCondition_54 rfl (lv_at hl 0 rfl)) ?_
          refine V.get (pc' := 58) X hK h_78 uw_Statement rfl 5 (by decide) (mcs wd_18) rfl d_Statement_addCondition_55 rfl ?_
          refine V.rd (pc' := 59) (fun hl => lv_lload_n X.1 X.2.1 d_Statement_addCondition_58 rfl (lv_at hl 2 rfl)) ?_
          refine V.last (pc' := 60) X hK 1 h_79 rfl (vin (by omega) (by omega)) d_Statement_addCondition_59 rfl (fun M_80 h_81 fr_82 => ?_)
          have h_83 : M_80 sm = some (.inr (4, [.int sf, .int sto, .int sk, .int sn, .int saf, .int sc, .int sl, .ref acc, .ref acv, .ref alc, .ref afv, .ref als])) := (fr_82 _ (ne_k h_78 h_79 (i := 4) (j := 100007) rfl rfl (by decide))).trans h_78
          have h_84 : M_80 acc = some (.inl (cI, 7, .inl (upd kc sc.toNatClampNeg x))) := (fr_82 _ (ne_k h_76 h_79 (i := 1007) (j := 100007) rfl rfl (by decide))).trans h_76
          refine V.rd (pc' := 61) (fun hl => lv_aload_n X.1 X.2.1 d_Statement_addCondition_60 rfl (lv_at hl 0 rfl)) ?_
          refine V.go (pc' := 62) (lv_dup X.1 X.2.1 d_Statement_addCondition_61 rfl) ?_
          refine V.get (pc' := 65) X hK h_83 uw_Statement rfl 5 (by decide) (mcs wd_18) rfl d_Statement_addCondition_62 rfl ?_
          refine V.go (pc' := 66) (lv_iconst (v := 1) X.1 X.2.1 d_Statement_addCondition_65 (by decide)) ?_
          refine V.go (pc' := 67) (lv_iadd X.1 X.2.1 d_Statement_addCondition_66) ?_
          have s_85 : (sc + 1).toInt = sc.toInt + 1 := i32_add1 (by omega)
          refine V.put (pc' := 70) X hK h_83 uw_Statement t_Statement tok_Statement nm_Statement rfl 5 (by decide) (mcs wd_18) rfl rfl rfl (Nat.le_of_ble_eq_true rfl) (fs' := [.int sf, .int sto, .int sk, .int sn, .int saf, .int (sc + 1), .int sl, .ref acc, .ref acv, .ref alc, .ref afv, .ref als]) rfl d_Statement_addCondition_67 rfl (fun M_86 h_87 fr_88 => ?_)
          have h_89 : M_86 acc = some (.inl (cI, 7, .inl (upd kc sc.toNatClampNeg x))) := (fr_88 _ (ne_k h_84 h_83 (i := 1007) (j := 4) rfl rfl (by decide))).trans h_84
          have h_90 : M_86 acv = some (.inl (cL, 7, .inr (.inl (vp_updL kv sc.toNatClampNeg y)))) := (fr_88 _ (ne_k h_81 h_83 (i := 100007) (j := 4) rfl rfl (by decide))).trans h_81
          refine V.rd (pc' := 71) (fun hl => lv_aload_n X.1 X.2.1 d_Statement_addCondition_70 rfl (lv_at hl 0 rfl)) ?_
          refine V.get (pc' := 74) X hK h_87 uw_Statement rfl 5 (by decide) (mcs wd_18) rfl d_Statement_addCondition_71 rfl ?_
          exact V.iret X hr hlk ⟨(by simp only [sp_addCondition, if_neg c_1, if_pos c_47, if_pos c_49, if_neg c_51]), (by simp only [sp_addCondition_sm_4, sp_addCondition_sm_5, if_neg c_1, if_pos c_47, if_pos c_49, if_neg c_51]; exact h_87), (by simp only [sp_addCondition_acc, if_neg c_1, if_pos c_47, if_pos c_49, if_neg c_51]; exact h_89), (by simp only [sp_addCondition_acv, if_neg c_1, if_pos c_47, if_pos c_49, if_neg c_51]; exact h_90), (fun q n0_ n1_ n2_ => (fr_88 q n0_).trans ((fr_82 q n2_).trans ((fr_77 q n1_))))⟩ d_Statement_addCondition_74
      · have i_91 := mt Int32.lt_iff_toInt_lt.mpr c_49
        refine V.go (pc' := 26) (lv_iconst (v := (-1)) X.1 X.2.1 d_Statement_addCondition_25 (by decide)) ?_
        exact V.iret X hr hlk ⟨(by simp only [sp_addCondition, if_neg c_1, if_pos c_47, if_neg c_49]), (by simp only [sp_addCondition_sm_4, sp_addCondition_sm_5, if_neg c_1, if_pos c_47, if_neg c_49]; exact gh0), (by simp only [sp_addCondition_acc, if_neg c_1, if_pos c_47, if_neg c_49]; exact gh1), (by simp only [sp_addCondition_acv, if_neg c_1, if_pos c_47, if_neg c_49]; exact gh2), (fun q n0_ n1_ n2_ => rfl)⟩ d_Statement_addCondition_26
    · have i_92 := mt Int32.toInt_inj.mp c_47
      refine V.go (pc' := 26) (lv_iconst (v := (-1)) X.1 X.2.1 d_Statement_addCondition_25 (by decide)) ?_
      exact V.iret X hr hlk ⟨(by simp only [sp_addCondition, if_neg c_1, if_neg c_47]), (by simp only [sp_addCondition_sm_4, sp_addCondition_sm_5, if_neg c_1, if_neg c_47]; exact gh0), (by simp only [sp_addCondition_acc, if_neg c_1, if_neg c_47]; exact gh1), (by simp only [sp_addCondition_acv, if_neg c_1, if_neg c_47]; exact gh2), (fun q n0_ n1_ n2_ => rfl)⟩ d_Statement_addCondition_26

theorem d_Statement_tellLevel_0 : decode prog_6_method_3_code 0 = .ok (.aload_n 0, 1) := by decide +kernel
theorem d_Statement_tellLevel_1 : decode prog_6_method_3_code 1 = .ok (.getfield 35, 3) := by decide +kernel
theorem d_Statement_tellLevel_4 : decode prog_6_method_3_code 4 = .ok (.iconst 3, 1) := by decide +kernel
theorem d_Statement_tellLevel_5 : decode prog_6_method_3_code 5 = .ok (.if_icmp .ne 24, 3) := by decide +kernel
theorem d_Statement_tellLevel_8 : decode prog_6_method_3_code 8 = .ok (.iload_n 1, 1) := by decide +kernel
theorem d_Statement_tellLevel_9 : decode prog_6_method_3_code 9 = .ok (.iconst 1, 1) := by decide +kernel
theorem d_Statement_tellLevel_10 : decode prog_6_method_3_code 10 = .ok (.if_icmp .lt 19, 3) := by decide +kernel
theorem d_Statement_tellLevel_13 : decode prog_6_method_3_code 13 = .ok (.iload_n 1, 1) := by decide +kernel
theorem d_Statement_tellLevel_14 : decode prog_6_method_3_code 14 = .ok (.aload_n 0, 1) := by decide +kernel
theorem d_Statement_tellLevel_15 : decode prog_6_method_3_code 15 = .ok (.getfield 48, 3) := by decide +kernel
theorem d_Statement_tellLevel_18 : decode prog_6_method_3_code 18 = .ok (.iconst 1, 1) := by decide +kernel
theorem d_Statement_tellLevel_19 : decode prog_6_method_3_code 19 = .ok (.iadd, 1) := by decide +kernel
theorem d_Statement_tellLevel_20 : decode prog_6_method_3_code 20 = .ok (.if_icmp .gt 9, 3) := by decide +kernel
theorem d_Statement_tellLevel_23 : decode prog_6_method_3_code 23 = .ok (.iload_n 1, 1) := by decide +kernel
theorem d_Statement_tellLevel_24 : decode prog_6_method_3_code 24 = .ok (.bipush 7, 2) := by decide +kernel
theorem d_Statement_tellLevel_26 : decode prog_6_method_3_code 26 = .ok (.if_icmp .le 5, 3) := by decide +kernel
theorem d_Statement_tellLevel_29 : decode prog_6_method_3_code 29 = .ok (.iconst (-1), 1) := by decide +kernel
theorem d_Statement_tellLevel_30 : decode prog_6_method_3_code 30 = .ok (.ireturn, 1) := by decide +kernel
theorem d_Statement_tellLevel_31 : decode prog_6_method_3_code 31 = .ok (.aload_n 0, 1) := by decide +kernel
theorem d_Statement_tellLevel_32 : decode prog_6_method_3_code 32 = .ok (.getfield 19, 3) := by decide +kernel
theorem d_Statement_tellLevel_35 : decode prog_6_method_3_code 35 = .ok (.iload_n 1, 1) := by decide +kernel
theorem d_Statement_tellLevel_36 : decode prog_6_method_3_code 36 = .ok (.iconst 1, 1) := by decide +kernel
theorem d_Statement_tellLevel_37 : decode prog_6_method_3_code 37 = .ok (.isub, 1) := by decide +kernel
theorem d_Statement_tellLevel_38 : decode prog_6_method_3_code 38 = .ok (.iload_n 2, 1) := by decide +kernel
theorem d_Statement_tellLevel_39 : decode prog_6_method_3_code 39 = .ok (.iastore, 1) := by decide +kernel
theorem d_Statement_tellLevel_40 : decode prog_6_method_3_code 40 = .ok (.aload_n 0, 1) := by decide +kernel
theorem d_Statement_tellLevel_41 : decode prog_6_method_3_code 41 = .ok (.getfield 22, 3) := by decide +kernel
theorem d_Statement_tellLevel_44 : decode prog_6_method_3_code 44 = .ok (.iload_n 1, 1) := by decide +kernel
theorem d_Statement_tellLevel_45 : decode prog_6_method_3_code 45 = .ok (.iconst 1, 1) := by decide +kernel
theorem d_Statement_tellLevel_46 : decode prog_6_method_3_code 46 = .ok (.isub, 1) := by decide +kernel
theorem d_Statement_tellLevel_47 : decode prog_6_method_3_code 47 = .ok (.lload_n 3, 1) := by decide +kernel
theorem d_Statement_tellLevel_48 : decode prog_6_method_3_code 48 = .ok (.lastore, 1) := by decide +kernel
theorem d_Statement_tellLevel_49 : decode prog_6_method_3_code 49 = .ok (.aload_n 0, 1) := by decide +kernel
theorem d_Statement_tellLevel_50 : decode prog_6_method_3_code 50 = .ok (.getfield 25, 3) := by decide +kernel
theorem d_Statement_tellLevel_53 : decode prog_6_method_3_code 53 = .ok (.iload_n 1, 1) := by decide +kernel
theorem d_Statement_tellLevel_54 : decode prog_6_method_3_code 54 = .ok (.iconst 1, 1) := by decide +kernel
theorem d_Statement_tellLevel_55 : decode prog_6_method_3_code 55 = .ok (.isub, 1) := by decide +kernel
theorem d_Statement_tellLevel_56 : decode prog_6_method_3_code 56 = .ok (.lload 5, 2) := by decide +kernel
theorem d_Statement_tellLevel_58 : decode prog_6_method_3_code 58 = .ok (.lastore, 1) := by decide +kernel
theorem d_Statement_tellLevel_59 : decode prog_6_method_3_code 59 = .ok (.aload_n 0, 1) := by decide +kernel
theorem d_Statement_tellLevel_60 : decode prog_6_method_3_code 60 = .ok (.aload_n 0, 1) := by decide +kernel
theorem d_Statement_tellLevel_61 : decode prog_6_method_3_code 61 = .ok (.getfield 48, 3) := by decide +kernel
theorem d_Statement_tellLevel_64 : decode prog_6_method_3_code 64 = .ok (.iload_n 1, 1) := by decide +kernel
theorem d_Statement_tellLevel_65 : decode prog_6_method_3_code 65 = .ok (.invokestatic 51, 3) := by decide +kernel
theorem d_Statement_tellLevel_68 : decode prog_6_method_3_code 68 = .ok (.putfield 48, 3) := by decide +kernel
theorem d_Statement_tellLevel_71 : decode prog_6_method_3_code 71 = .ok (.aload_n 0, 1) := by decide +kernel
theorem d_Statement_tellLevel_72 : decode prog_6_method_3_code 72 = .ok (.getfield 48, 3) := by decide +kernel
theorem d_Statement_tellLevel_75 : decode prog_6_method_3_code 75 = .ok (.ireturn, 1) := by decide +kernel

def sp_tellLevel (sk : Int32) (sl : Int32) (x : Int32) : Int32 := if sk = 3 then (if x < 1 then (-1) else if (sl + 1) < x then (-1) else if x ≤ 7 then imax sl x else (-1)) else (-1)
def sp_tellLevel_alc (sk : Int32) (sl : Int32) (lc : Nat → Int32) (x : Int32) (cx : Int32) : Nat → Int32 := if sk = 3 then (if x < 1 then lc else if (sl + 1) < x then lc else if x ≤ 7 then upd lc (x - 1).toNatClampNeg cx else lc) else lc
def sp_tellLevel_afv (sk : Int32) (sl : Int32) (fv : Nat → Int64) (x : Int32) (y : Int64) : Nat → Int64 := if sk = 3 then (if x < 1 then fv else if (sl + 1) < x then fv else if x ≤ 7 then vp_updL fv (x - 1).toNatClampNeg y else fv) else fv
def sp_tellLevel_als (sk : Int32) (sl : Int32) (lz : Nat → Int64) (x : Int32) (y2 : Int64) : Nat → Int64 := if sk = 3 then (if x < 1 then lz else if (sl + 1) < x then lz else if x ≤ 7 then vp_updL lz (x - 1).toNatClampNeg y2 else lz) else lz
def sp_tellLevel_sm_6 (sk : Int32) (sl : Int32) (x : Int32) : Int32 := if sk = 3 then (if x < 1 then sl else if (sl + 1) < x then sl else if x ≤ 7 then imax sl x else sl) else sl
set_option maxHeartbeats 4000000 in
set_option maxRecDepth 100000 in
theorem c_tellLevel {l : Launch} {H0 : Heap} {D : va_G} {cI cL cQ cB : ClassId} {M : mp} {sm acc acv alc afv als : Nat} {sf : Int32} {sto : Int32} {sk : Int32} {sn : Int32} {saf : Int32} {sc : Int32} {sl : Int32} {lc : Nat → Int32} {fv : Nat → Int64} {lz : Nat → Int64} {x : Int32} {cx : Int32} {y : Int64} {y2 : Int64} (hsl : sl.toInt ≤ 7) (ne0 : afv ≠ als) (gh0 : M sm = some (.inr (4, [.int sf, .int sto, .int sk, .int sn, .int saf, .int sc, .int sl, .ref acc, .ref acv, .ref alc, .ref afv, .ref als]))) (gh1 : M alc = some (.inl (cI, 7, .inl lc))) (gh2 : M afv = some (.inl (cL, 7, .inr (.inl fv)))) (gh3 : M als = some (.inl (cL, 7, .inr (.inl lz)))) : MC l H0 D cls7 (tysOf cI cL cQ cB) NW ({ cls := "PerformRanges$Statement", name := "tellLevel", desc := "(IIJJ)I" } : Jvm.MethodName) (Cond.code ({ cls := "PerformRanges$Statement", name := "tellLevel", desc := "(IIJJ)I" } : Jvm.MethodName) prog_6_method_3_code 7 (Option.some Jvm.ClassFile.FieldType.int) :: GW) ({ frames := 1, cells := 0, slots := 0, locals := 21 }) [.ref sm, .int x, .int cx, .long y, .long y2] M (fun v M' => v = some (.int (sp_tellLevel sk sl x)) ∧ M' alc = some (.inl (cI, 7, .inl (sp_tellLevel_alc sk sl lc x cx))) ∧ M' afv = some (.inl (cL, 7, .inr (.inl (sp_tellLevel_afv sk sl fv x y)))) ∧ M' als = some (.inl (cL, 7, .inr (.inl (sp_tellLevel_als sk sl lz x y2)))) ∧ M' sm = some (.inr (4, [.int sf, .int sto, .int sk, .int sn, .int saf, .int sc, .int (sp_tellLevel_sm_6 sk sl x), .ref acc, .ref acv, .ref alc, .ref afv, .ref als])) ∧ ∀ q, q ≠ alc → q ≠ afv → q ≠ als → q ≠ sm → M' q = M q) := by
  refine MC.of (cc := prog_6_method_3_code) (nL := 7) (ret := (Option.some Jvm.ClassFile.FieldType.int)) (lv := [(0, .ref sm), (1, .int x), (2, .int cx), (3, .long y), (5, .long y2)]) (by decide) rfl (Nat.le_of_ble_eq_true rfl) rfl ?_
  intro p e s m below meth c X hr hlk hnm hK
  have km1 : ((-1) : Int32).toInt = -1 := rfl
  have k1 : (1 : Int32).toInt = 1 := rfl
  have k3 : (3 : Int32).toInt = 3 := rfl
  have k7 : (7 : Int32).toInt = 7 := rfl
  refine V.rd (pc' := 1) (fun hl => lv_aload_n X.1 X.2.1 d_Statement_tellLevel_0 rfl (lv_at hl 0 rfl)) ?_
  refine V.get (pc' := 4) X hK gh0 uw_Statement rfl 2 (by decide) (mcs wd_17) rfl d_Statement_tellLevel_1 rfl ?_
  refine V.go (pc' := 5) (lv_iconst (v := 3) X.1 X.2.1 d_Statement_tellLevel_4 (by decide)) ?_
  refine V.bn (pc' := 8) (tgt := 29) (P := sk = 3) (lv_icmp_ne X.1 X.2.1 d_Statement_tellLevel_5 (by decide)) (fun c_1 => ?_) (fun c_1 => ?_)
  · have i_2 := congrArg Int32.toInt c_1
    refine V.rd (pc' := 9) (fun hl => lv_iload_n X.1 X.2.1 d_Statement_tellLevel_8 rfl (lv_at hl 1 rfl)) ?_
    refine V.go (pc' := 10) (lv_iconst (v := 1) X.1 X.2.1 d_Statement_tellLevel_9 (by decide)) ?_
    refine V.br (pc' := 13) (tgt := 29) (P := x < 1) (lv_icmp_lt X.1 X.2.1 d_Statement_tellLevel_10 (by decide)) (fun c_3 => ?_) (fun c_3 => ?_)
    · have i_4 := Int32.lt_iff_toInt_lt.mp c_3
      refine V.go (pc' := 30) (lv_iconst (v := (-1)) X.1 X.2.1 d_Statement_tellLevel_29 (by decide)) ?_
      exact V.iret X hr hlk ⟨(by simp only [sp_tellLevel, if_pos c_1, if_pos c_3]), (by simp only [sp_tellLevel_alc, if_pos c_1, if_pos c_3]; exact gh1), (by simp only [sp_tellLevel_afv, if_pos c_1, if_pos c_3]; exact gh2), (by simp only [sp_tellLevel_als, if_pos c_1, if_pos c_3]; exact gh3), (by simp only [sp_tellLevel_sm_6, if_pos c_1, if_pos c_3]; exact gh0), (fun q n0_ n1_ n2_ n3_ => rfl)⟩ d_Statement_tellLevel_30
    · have i_5 := mt Int32.lt_iff_toInt_lt.mpr c_3
      refine V.rd (pc' := 14) (fun hl => lv_iload_n X.1 X.2.1 d_Statement_tellLevel_13 rfl (lv_at hl 1 rfl)) ?_
      refine V.rd (pc' := 15) (fun hl => lv_aload_n X.1 X.2.1 d_Statement_tellLevel_14 rfl (lv_at hl 0 rfl)) ?_
      refine V.get (pc' := 18) X hK gh0 uw_Statement rfl 6 (by decide) (mcs wd_19) rfl d_Statement_tellLevel_15 rfl ?_
      refine V.go (pc' := 19) (lv_iconst (v := 1) X.1 X.2.1 d_Statement_tellLevel_18 (by decide)) ?_
      refine V.go (pc' := 20) (lv_iadd X.1 X.2.1 d_Statement_tellLevel_19) ?_
      have s_6 : (sl + 1).toInt = sl.toInt + 1 := i32_add1 (by omega)
      refine V.br (pc' := 23) (tgt := 29) (P := (sl + 1) < x) (lv_icmp_gt X.1 X.2.1 d_Statement_tellLevel_20 (by decide)) (fun c_7 => ?_) (fun c_7 => ?_)
      · have i_8 := Int32.lt_iff_toInt_lt.mp c_7
        refine V.go (pc' := 30) (lv_iconst (v := (-1)) X.1 X.2.1 d_Statement_tellLevel_29 (by decide)) ?_
        exact V.iret X hr hlk ⟨(by simp only [sp_tellLevel, if_pos c_1, if_neg c_3, if_pos c_7]), (by simp only [sp_tellLevel_alc, if_pos c_1, if_neg c_3, if_pos c_7]; exact gh1), (by simp only [sp_tellLevel_afv, if_pos c_1, if_neg c_3, if_pos c_7]; exact gh2), (by simp only [sp_tellLevel_als, if_pos c_1, if_neg c_3, if_pos c_7]; exact gh3), (by simp only [sp_tellLevel_sm_6, if_pos c_1, if_neg c_3, if_pos c_7]; exact gh0), (fun q n0_ n1_ n2_ n3_ => rfl)⟩ d_Statement_tellLevel_30
      · have i_9 := mt Int32.lt_iff_toInt_lt.mpr c_7
        refine V.rd (pc' := 24) (fun hl => lv_iload_n X.1 X.2.1 d_Statement_tellLevel_23 rfl (lv_at hl 1 rfl)) ?_
        refine V.go (pc' := 26) (lv_bipush (v := 7) X.1 X.2.1 d_Statement_tellLevel_24 (by decide)) ?_
        refine V.br (pc' := 29) (tgt := 31) (P := x ≤ 7) (lv_icmp_le X.1 X.2.1 d_Statement_tellLevel_26 (by decide)) (fun c_10 => ?_) (fun c_10 => ?_)
        · have i_11 := Int32.le_iff_toInt_le.mp c_10
          refine V.rd (pc' := 32) (fun hl => lv_aload_n X.1 X.2.1 d_Statement_tellLevel_31 rfl (lv_at hl 0 rfl)) ?_
          refine V.get (pc' := 35) X hK gh0 uw_Statement rfl 9 (by decide) (mcs wd_27) rfl d_Statement_tellLevel_32 rfl ?_
          refine V.rd (pc' := 36) (fun hl => lv_iload_n X.1 X.2.1 d_Statement_tellLevel_35 rfl (lv_at hl 1 rfl)) ?_
          refine V.go (pc' := 37) (lv_iconst (v := 1) X.1 X.2.1 d_Statement_tellLevel_36 (by decide)) ?_
          refine V.go (pc' := 38) (lv_isub X.1 X.2.1 d_Statement_tellLevel_37) ?_
          have s_12 : (x - 1).toInt = x.toInt - 1 := i32_sub1 (by omega)
          refine V.rd (pc' := 39) (fun hl => lv_iload_n X.1 X.2.1 d_Statement_tellLevel_38 rfl (lv_at hl 2 rfl)) ?_
          refine V.iast (pc' := 40) X hK 0 gh1 rfl (vin (by omega) (by omega)) d_Statement_tellLevel_39 rfl (fun M_13 h_14 fr_15 => ?_)
          have h_16 : M_13 sm = some (.inr (4, [.int sf, .int sto, .int sk, .int sn, .int saf, .int sc, .int sl, .ref acc, .ref acv, .ref alc, .ref afv, .ref als])) := (fr_15 _ (ne_k gh0 gh1 (i := 4) (j := 1007) rfl rfl (by decide))).trans gh0
          have h_17 : M_13 afv = some (.inl (cL, 7, .inr (.inl fv))) := (fr_15 _ (ne_k gh2 gh1 (i := 100007) (j := 1007) rfl rfl (by decide))).trans gh2
          have h_18 : M_13 als = some (.inl (cL, 7, .inr (.inl lz))) := (fr_15 _ (ne_k gh3 gh1 (i := 100007) (j := 1007) rfl rfl (by decide))).trans gh3
          refine V.rd (pc' := 41) (fun hl => lv_aload_n X.1 X.2.1 d_Statement_tellLevel_40 rfl (lv_at hl 0 rfl)) ?_
          refine V.get (pc' := 44) X hK h_16 uw_Statement rfl 10 (by decide) (mcs wd_34) rfl d_Statement_tellLevel_41 rfl ?_
          refine V.rd (pc' := 45) (fun hl => lv_iload_n X.1 X.2.1 d_Statement_tellLevel_44 rfl (lv_at hl 1 rfl)) ?_
          refine V.go (pc' := 46) (lv_iconst (v := 1) X.1 X.2.1 d_Statement_tellLevel_45 (by decide)) ?_
          refine V.go (pc' := 47) (lv_isub X.1 X.2.1 d_Statement_tellLevel_46) ?_
          have s_19 : (x - 1).toInt = x.toInt - 1 := i32_sub1 (by omega)
          refine V.rd (pc' := 48) (fun hl => lv_lload_n X.1 X.2.1 d_Statement_tellLevel_47 rfl (lv_at hl 3 rfl)) ?_
          refine V.last (pc' := 49) X hK 1 h_17 rfl (vin (by omega) (by omega)) d_Statement_tellLevel_48 rfl (fun M_20 h_21 fr_22 => ?_)
          have h_23 : M_20 sm = some (.inr (4, [.int sf, .int sto, .int sk, .int sn, .int saf, .int sc, .int sl, .ref acc, .ref acv, .ref alc, .ref afv, .ref als])) := (fr_22 _ (ne_k h_16 h_17 (i := 4) (j := 100007) rfl rfl (by decide))).trans h_16
          have h_24 : M_20 als = some (.inl (cL, 7, .inr (.inl lz))) := (fr_22 _ (Ne.symm ne0)).trans h_18
          have h_25 : M_20 alc = some (.inl (cI, 7, .inl (upd lc (x - 1).toNatClampNeg cx))) := (fr_22 _ (ne_k h_14 h_17 (i := 1007) (j := 100007) rfl rfl (by decide))).trans h_14
          refine V.rd (pc' := 50) (fun hl => lv_aload_n X.1 X.2.1 d_Statement_tellLevel_49 rfl (lv_at hl 0 rfl)) ?_
          refine V.get (pc' := 53) X hK h_23 uw_Statement rfl 11 (by decide) (mcs wd_28) rfl d_Statement_tellLevel_50 rfl ?_
          refine V.rd (pc' := 54) (fun hl => lv_iload_n X.1 X.2.1 d_Statement_tellLevel_53 rfl (lv_at hl 1 rfl)) ?_
          refine V.go (pc' := 55) (lv_iconst (v := 1) X.1 X.2.1 d_Statement_tellLevel_54 (by decide)) ?_
          refine V.go (pc' := 56) (lv_isub X.1 X.2.1 d_Statement_tellLevel_55) ?_
          have s_26 : (x - 1).toInt = x.toInt - 1 := i32_sub1 (by omega)
          refine V.rd (pc' := 58) (fun hl => lv_lload X.1 X.2.1 d_Statement_tellLevel_56 (lv_at hl 4 rfl)) ?_
          refine V.last (pc' := 59) X hK 1 h_24 rfl (vin (by omega) (by omega)) d_Statement_tellLevel_58 rfl (fun M_27 h_28 fr_29 => ?_)
          have h_30 : M_27 sm = some (.inr (4, [.int sf, .int sto, .int sk, .int sn, .int saf, .int sc, .int sl, .ref acc, .ref acv, .ref alc, .ref afv, .ref als])) := (fr_29 _ (ne_k h_23 h_24 (i := 4) (j := 100007) rfl rfl (by decide))).trans h_23
          have h_31 : M_27 alc = some (.inl (cI, 7, .inl (upd lc (x - 1).toNatClampNeg cx))) := (fr_29 _ (ne_k h_25 h_24 (i := 1007) (j := 100007) rfl rfl (by decide))).trans h_25
          have h_32 : M_27 afv = some (.inl (cL, 7, .inr (.inl (vp_updL fv (x - 1).toNatClampNeg y)))) := (fr_29 _ ne0).trans h_21
          refine V.rd (pc' := 60) (fun hl => lv_aload_n X.1 X.2.1 d_Statement_tellLevel_59 rfl (lv_at hl 0 rfl)) ?_
          refine V.rd (pc' := 61) (fun hl => lv_aload_n X.1 X.2.1 d_Statement_tellLevel_60 rfl (lv_at hl 0 rfl)) ?_
          refine V.get (pc' := 64) X hK h_30 uw_Statement rfl 6 (by decide) (mcs wd_19) rfl d_Statement_tellLevel_61 rfl ?_
          refine V.rd (pc' := 65) (fun hl => lv_iload_n X.1 X.2.1 d_Statement_tellLevel_64 rfl (lv_at hl 1 rfl)) ?_
          refine V.mmax (pc' := 68) X (mcs wd_35) (mcs wd_36) (mcs wd_37) (mcs wd_38) (Nat.le_of_ble_eq_true rfl) (by decide) (by decide) (by decide) (by decide) d_Statement_tellLevel_65 rfl ?_
          refine V.put (pc' := 71) X hK h_30 uw_Statement t_Statement tok_Statement nm_Statement rfl 6 (by decide) (mcs wd_19) rfl rfl rfl (Nat.le_of_ble_eq_true rfl) (fs' := [.int sf, .int sto, .int sk, .int sn, .int saf, .int sc, .int (imax sl x), .ref acc, .ref acv, .ref alc, .ref afv, .ref als]) rfl d_Statement_tellLevel_68 rfl (fun M_33 h_34 fr_35 => ?_)
          have h_36 : M_33 alc = some (.inl (cI, 7, .inl (upd lc (x - 1).toNatClampNeg cx))) := (fr_35 _ (ne_k h_31 h_30 (i := 1007) (j := 4) rfl rfl (by decide))).trans h_31
          have h_37 : M_33 afv = some (.inl (cL, 7, .inr (.inl (vp_updL fv (x - 1).toNatClampNeg y)))) := (fr_35 _ (ne_k h_32 h_30 (i := 100007) (j := 4) rfl rfl (by decide))).trans h_32
          have h_38 : M_33 als = some (.inl (cL, 7, .inr (.inl (vp_updL lz (x - 1).toNatClampNeg y2)))) := (fr_35 _ (ne_k h_28 h_30 (i := 100007) (j := 4) rfl rfl (by decide))).trans h_28
          refine V.rd (pc' := 72) (fun hl => lv_aload_n X.1 X.2.1 d_Statement_tellLevel_71 rfl (lv_at hl 0 rfl)) ?_
          refine V.get (pc' := 75) X hK h_34 uw_Statement rfl 6 (by decide) (mcs wd_19) rfl d_Statement_tellLevel_72 rfl ?_
          exact V.iret X hr hlk ⟨(by simp only [sp_tellLevel, if_pos c_1, if_neg c_3, if_neg c_7, if_pos c_10]), (by simp only [sp_tellLevel_alc, if_pos c_1, if_neg c_3, if_neg c_7, if_pos c_10]; exact h_36), (by simp only [sp_tellLevel_afv, if_pos c_1, if_neg c_3, if_neg c_7, if_pos c_10]; exact h_37), (by simp only [sp_tellLevel_als, if_pos c_1, if_neg c_3, if_neg c_7, if_pos c_10]; exact h_38), (by simp only [sp_tellLevel_sm_6, if_pos c_1, if_neg c_3, if_neg c_7, if_pos c_10]; exact h_34), (fun q n0_ n1_ n2_ n3_ => (fr_35 q n3_).trans ((fr_29 q n2_).trans ((fr_22 q n1_).trans ((fr_15 q n0_)))))⟩ d_Statement_tellLevel_75
        · have i_39 := mt Int32.le_iff_toInt_le.mpr c_10
          refine V.go (pc' := 30) (lv_iconst (v := (-1)) X.1 X.2.1 d_Statement_tellLevel_29 (by decide)) ?_
          exact V.iret X hr hlk ⟨(by simp only [sp_tellLevel, if_pos c_1, if_neg c_3, if_neg c_7, if_neg c_10]), (by simp only [sp_tellLevel_alc, if_pos c_1, if_neg c_3, if_neg c_7, if_neg c_10]; exact gh1), (by simp only [sp_tellLevel_afv, if_pos c_1, if_neg c_3, if_neg c_7, if_neg c_10]; exact gh2), (by simp only [sp_tellLevel_als, if_pos c_1, if_neg c_3, if_neg c_7, if_neg c_10]; exact gh3), (by simp only [sp_tellLevel_sm_6, if_pos c_1, if_neg c_3, if_neg c_7, if_neg c_10]; exact gh0), (fun q n0_ n1_ n2_ n3_ => rfl)⟩ d_Statement_tellLevel_30
  · have i_40 := mt Int32.toInt_inj.mp c_1
    refine V.go (pc' := 30) (lv_iconst (v := (-1)) X.1 X.2.1 d_Statement_tellLevel_29 (by decide)) ?_
    exact V.iret X hr hlk ⟨(by simp only [sp_tellLevel, if_neg c_1]), (by simp only [sp_tellLevel_alc, if_neg c_1]; exact gh1), (by simp only [sp_tellLevel_afv, if_neg c_1]; exact gh2), (by simp only [sp_tellLevel_als, if_neg c_1]; exact gh3), (by simp only [sp_tellLevel_sm_6, if_neg c_1]; exact gh0), (fun q n0_ n1_ n2_ n3_ => rfl)⟩ d_Statement_tellLevel_30

theorem d_Statement_takeFirstValues_0 : decode prog_6_method_12_code 0 = .ok (.iload_n 1, 1) := by decide +kernel
theorem d_Statement_takeFirstValues_1 : decode prog_6_method_12_code 1 = .ok (.iconst 1, 1) := by decide +kernel
theorem d_Statement_takeFirstValues_2 : decode prog_6_method_12_code 2 = .ok (.if_icmp .ge 4, 3) := by decide +kernel
theorem d_Statement_takeFirstValues_5 : decode prog_6_method_12_code 5 = .ok (.return_, 1) := by decide +kernel
theorem d_Statement_takeFirstValues_6 : decode prog_6_method_12_code 6 = .ok (.iload_n 1, 1) := by decide +kernel
theorem d_Statement_takeFirstValues_7 : decode prog_6_method_12_code 7 = .ok (.istore_n 3, 1) := by decide +kernel
theorem d_Statement_takeFirstValues_8 : decode prog_6_method_12_code 8 = .ok (.iload_n 3, 1) := by decide +kernel
theorem d_Statement_takeFirstValues_9 : decode prog_6_method_12_code 9 = .ok (.aload_n 0, 1) := by decide +kernel
theorem d_Statement_takeFirstValues_10 : decode prog_6_method_12_code 10 = .ok (.getfield 48, 3) := by decide +kernel
theorem d_Statement_takeFirstValues_13 : decode prog_6_method_12_code 13 = .ok (.if_icmp .gt 35, 3) := by decide +kernel
theorem d_Statement_takeFirstValues_16 : decode prog_6_method_12_code 16 = .ok (.iload_n 3, 1) := by decide +kernel
theorem d_Statement_takeFirstValues_17 : decode prog_6_method_12_code 17 = .ok (.bipush 7, 2) := by decide +kernel
theorem d_Statement_takeFirstValues_19 : decode prog_6_method_12_code 19 = .ok (.if_icmp .gt 29, 3) := by decide +kernel
theorem d_Statement_takeFirstValues_22 : decode prog_6_method_12_code 22 = .ok (.aload_n 2, 1) := by decide +kernel
theorem d_Statement_takeFirstValues_23 : decode prog_6_method_12_code 23 = .ok (.aload_n 0, 1) := by decide +kernel
theorem d_Statement_takeFirstValues_24 : decode prog_6_method_12_code 24 = .ok (.getfield 19, 3) := by decide +kernel
theorem d_Statement_takeFirstValues_27 : decode prog_6_method_12_code 27 = .ok (.iload_n 3, 1) := by decide +kernel
theorem d_Statement_takeFirstValues_28 : decode prog_6_method_12_code 28 = .ok (.iconst 1, 1) := by decide +kernel
theorem d_Statement_takeFirstValues_29 : decode prog_6_method_12_code 29 = .ok (.isub, 1) := by decide +kernel
theorem d_Statement_takeFirstValues_30 : decode prog_6_method_12_code 30 = .ok (.iaload, 1) := by decide +kernel
theorem d_Statement_takeFirstValues_31 : decode prog_6_method_12_code 31 = .ok (.aload_n 0, 1) := by decide +kernel
theorem d_Statement_takeFirstValues_32 : decode prog_6_method_12_code 32 = .ok (.getfield 22, 3) := by decide +kernel
theorem d_Statement_takeFirstValues_35 : decode prog_6_method_12_code 35 = .ok (.iload_n 3, 1) := by decide +kernel
theorem d_Statement_takeFirstValues_36 : decode prog_6_method_12_code 36 = .ok (.iconst 1, 1) := by decide +kernel
theorem d_Statement_takeFirstValues_37 : decode prog_6_method_12_code 37 = .ok (.isub, 1) := by decide +kernel
theorem d_Statement_takeFirstValues_38 : decode prog_6_method_12_code 38 = .ok (.laload, 1) := by decide +kernel
theorem d_Statement_takeFirstValues_39 : decode prog_6_method_12_code 39 = .ok (.invokevirtual 89, 3) := by decide +kernel
theorem d_Statement_takeFirstValues_42 : decode prog_6_method_12_code 42 = .ok (.iinc 3 1, 3) := by decide +kernel
theorem d_Statement_takeFirstValues_45 : decode prog_6_method_12_code 45 = .ok (.goto (-37), 3) := by decide +kernel
theorem d_Statement_takeFirstValues_48 : decode prog_6_method_12_code 48 = .ok (.return_, 1) := by decide +kernel

def lp_takeFirstValues_va (sl : Int32) (lc : Nat → Int32) (fv : Nat → Int64) : Nat → Int32 → (Nat → Int64) → Nat → Int64
  | 0, _, g => g
  | n_ + 1, k, g => if sl < k then g else if 7 < k then g else lp_takeFirstValues_va sl lc fv n_ (k + 1) (sp_Cells_become_va g (lc (k - 1).toNatClampNeg) (fv (k - 1).toNatClampNeg))
def sp_takeFirstValues_va (sl : Int32) (lc : Nat → Int32) (fv : Nat → Int64) (f : Nat → Int64) (x : Int32) : Nat → Int64 := if 1 ≤ x then lp_takeFirstValues_va sl lc fv 9 x f else f
set_option maxHeartbeats 4000000 in
set_option maxRecDepth 100000 in
theorem c_takeFirstValues {l : Launch} {H0 : Heap} {D : va_G} {cI cL cQ cB : ClassId} {M : mp} {sm acc acv alc afv als ce va : Nat} {sf : Int32} {sto : Int32} {sk : Int32} {sn : Int32} {saf : Int32} {sc : Int32} {sl : Int32} {lc : Nat → Int32} {fv : Nat → Int64} {f : Nat → Int64} {x : Int32} (gh0 : M sm = some (.inr (4, [.int sf, .int sto, .int sk, .int sn, .int saf, .int sc, .int sl, .ref acc, .ref acv, .ref alc, .ref afv, .ref als]))) (gh1 : M alc = some (.inl (cI, 7, .inl lc))) (gh2 : M afv = some (.inl (cL, 7, .inr (.inl fv)))) (gh3 : M ce = some (.inr (0, [.ref va]))) (gh4 : M va = some (.inl (cL, 16, .inr (.inl f)))) : MC l H0 D cls7 (tysOf cI cL cQ cB) NW ({ cls := "PerformRanges$Statement", name := "takeFirstValues", desc := "(ILPerformRanges$Cells;)V" } : Jvm.MethodName) (Cond.code ({ cls := "PerformRanges$Statement", name := "takeFirstValues", desc := "(ILPerformRanges$Cells;)V" } : Jvm.MethodName) prog_6_method_12_code 4 (Option.none : Option Jvm.ClassFile.FieldType) :: GW) ({ frames := 1, cells := 0, slots := 0, locals := 23 }) [.ref sm, .int x, .ref ce] M (fun v M' => v = none ∧ M' va = some (.inl (cL, 16, .inr (.inl (sp_takeFirstValues_va sl lc fv f x)))) ∧ ∀ q, q ≠ va → M' q = M q) := by
  refine MC.of (cc := prog_6_method_12_code) (nL := 4) (ret := (Option.none : Option Jvm.ClassFile.FieldType)) (lv := [(0, .ref sm), (1, .int x), (2, .ref ce)]) (by decide) rfl (Nat.le_of_ble_eq_true rfl) rfl ?_
  intro p e s m below meth c X hr hlk hnm hK
  have k1 : (1 : Int32).toInt = 1 := rfl
  have k7 : (7 : Int32).toInt = 7 := rfl
  refine V.rd (pc' := 1) (fun hl => lv_iload_n X.1 X.2.1 d_Statement_takeFirstValues_0 rfl (lv_at hl 1 rfl)) ?_
  refine V.go (pc' := 2) (lv_iconst (v := 1) X.1 X.2.1 d_Statement_takeFirstValues_1 (by decide)) ?_
  refine V.br (pc' := 5) (tgt := 6) (P := 1 ≤ x) (lv_icmp_ge X.1 X.2.1 d_Statement_takeFirstValues_2 (by decide)) (fun c_1 => ?_) (fun c_1 => ?_)
  · have i_2 := Int32.le_iff_toInt_le.mp c_1
    refine V.rd (pc' := 7) (fun hl => lv_iload_n X.1 X.2.1 d_Statement_takeFirstValues_6 rfl (lv_at hl 1 rfl)) ?_
    refine V.wr (pc' := 8) (lv' := [(3, .int x), (0, .ref sm), (1, .int x), (2, .ref ce)]) (fun hl => lv_istore_n X.1 X.2.1 d_Statement_takeFirstValues_7 rfl hl (by decide) rfl) ?_
    obtain ⟨ze_14, hze_14⟩ : ∃ z, z = lp_takeFirstValues_va sl lc fv 9 x f := ⟨_, rfl⟩
    refine V.pick [1, 2, 3, 0] rfl ?_
    refine V.ind (α := Unit) (x0 := ()) (n0 := 9) (I := fun nn_ _ M' lv' => ∃ (k : Int32) (g : Nat → Int64), lv' = [(0, .ref sm), (1, .int x), (2, .ref ce), (3, .int k)] ∧ M' sm = some (.inr (4, [.int sf, .int sto, .int sk, .int sn, .int saf, .int sc, .int sl, .ref acc, .ref acv, .ref alc, .ref afv, .ref als])) ∧ M' alc = some (.inl (cI, 7, .inl lc)) ∧ M' afv = some (.inl (cL, 7, .inr (.inl fv))) ∧ M' ce = some (.inr (0, [.ref va])) ∧ M' va = some (.inl (cL, 16, .inr (.inl g))) ∧ (∀ q, q ≠ va → M' q = M q) ∧ (1 ≤ k.toInt) ∧ (9 ≤ k.toInt + nn_ ∧ 1 ≤ nn_) ∧ lp_takeFirstValues_va sl lc fv nn_ k g = ze_14) ⟨x, f, rfl, gh0, gh1, gh2, gh3, gh4, (fun q _ => rfl), (by omega), (by omega), hze_14.symm⟩ (fun n_9 ih_10 _ M_8 lv_11 hI_12 => ?_)
    obtain ⟨k, g, rfl, h_3, h_4, h_5, h_6, h_7, fr_13, j1, j2, e_14⟩ := hI_12
    obtain ⟨n_9, rfl⟩ : ∃ j, n_9 = j + 1 := ⟨n_9 - 1, by omega⟩
    refine V.rd (pc' := 9) (fun hl => lv_iload_n X.1 X.2.1 d_Statement_takeFirstValues_8 rfl (lv_at hl 3 rfl)) ?_
    refine V.rd (pc' := 10) (fun hl => lv_aload_n X.1 X.2.1 d_Statement_takeFirstValues_9 rfl (lv_at hl 0 rfl)) ?_
    refine V.get (pc' := 13) X hK h_3 uw_Statement rfl 6 (by decide) (mcs wd_19) rfl d_Statement_takeFirstValues_10 rfl ?_
    refine V.br (pc' := 16) (tgt := 48) (P := sl < k) (lv_icmp_gt X.1 X.2.1 d_Statement_takeFirstValues_13 (by decide)) (fun c_15 => ?_) (fun c_15 => ?_)
    · have i_16 := Int32.lt_iff_toInt_lt.mp c_15
      rw [lp_takeFirstValues_va] at e_14
      simp only [if_pos c_15] at e_14
      exact V.vret X hr hlk ⟨rfl, (by simp only [sp_takeFirstValues_va, if_pos c_1]; rw [← hze_14, ← e_14]; exact h_7), (fun q n0_ => (fr_13 q n0_))⟩ d_Statement_takeFirstValues_48
    · have i_17 := mt Int32.lt_iff_toInt_lt.mpr c_15
      refine V.rd (pc' := 17) (fun hl => lv_iload_n X.1 X.2.1 d_Statement_takeFirstValues_16 rfl (lv_at hl 3 rfl)) ?_
      refine V.go (pc' := 19) (lv_bipush (v := 7) X.1 X.2.1 d_Statement_takeFirstValues_17 (by decide)) ?_
      refine V.br (pc' := 22) (tgt := 48) (P := 7 < k) (lv_icmp_gt X.1 X.2.1 d_Statement_takeFirstValues_19 (by decide)) (fun c_18 => ?_) (fun c_18 => ?_)
      · have i_19 := Int32.lt_iff_toInt_lt.mp c_18
        rw [lp_takeFirstValues_va] at e_14
        simp only [if_neg c_15, if_pos c_18] at e_14
        exact V.vret X hr hlk ⟨rfl, (by simp only [sp_takeFirstValues_va, if_pos c_1]; rw [← hze_14, ← e_14]; exact h_7), (fun q n0_ => (fr_13 q n0_))⟩ d_Statement_takeFirstValues_48
      · have i_20 := mt Int32.lt_iff_toInt_lt.mpr c_18
        refine V.rd (pc' := 23) (fun hl => lv_aload_n X.1 X.2.1 d_Statement_takeFirstValues_22 rfl (lv_at hl 2 rfl)) ?_
        refine V.rd (pc' := 24) (fun hl => lv_aload_n X.1 X.2.1 d_Statement_takeFirstValues_23 rfl (lv_at hl 0 rfl)) ?_
        refine V.get (pc' := 27) X hK h_3 uw_Statement rfl 9 (by decide) (mcs wd_27) rfl d_Statement_takeFirstValues_24 rfl ?_
        refine V.rd (pc' := 28) (fun hl => lv_iload_n X.1 X.2.1 d_Statement_takeFirstValues_27 rfl (lv_at hl 3 rfl)) ?_
        refine V.go (pc' := 29) (lv_iconst (v := 1) X.1 X.2.1 d_Statement_takeFirstValues_28 (by decide)) ?_
        refine V.go (pc' := 30) (lv_isub X.1 X.2.1 d_Statement_takeFirstValues_29) ?_
        have s_21 : (k - 1).toInt = k.toInt - 1 := i32_sub1 (by omega)
        refine V.iald (pc' := 31) X hK 0 h_4 rfl (vin (by omega) (by omega)) d_Statement_takeFirstValues_30 rfl ?_
        refine V.rd (pc' := 32) (fun hl => lv_aload_n X.1 X.2.1 d_Statement_takeFirstValues_31 rfl (lv_at hl 0 rfl)) ?_
        refine V.get (pc' := 35) X hK h_3 uw_Statement rfl 10 (by decide) (mcs wd_34) rfl d_Statement_takeFirstValues_32 rfl ?_
        refine V.rd (pc' := 36) (fun hl => lv_iload_n X.1 X.2.1 d_Statement_takeFirstValues_35 rfl (lv_at hl 3 rfl)) ?_
        refine V.go (pc' := 37) (lv_iconst (v := 1) X.1 X.2.1 d_Statement_takeFirstValues_36 (by decide)) ?_
        refine V.go (pc' := 38) (lv_isub X.1 X.2.1 d_Statement_takeFirstValues_37) ?_
        have s_22 : (k - 1).toInt = k.toInt - 1 := i32_sub1 (by omega)
        refine V.lald (pc' := 39) X hK 1 h_5 rfl (vin (by omega) (by omega)) d_Statement_takeFirstValues_38 rfl ?_
        refine V.callV (pc' := 42) X hK (c_Cells_become  (ce := ce) (va := va) (f := g) (x := lc (k - 1).toNatClampNeg) (y := fv (k - 1).toNatClampNeg)   h_6 h_7  ) h_6 rfl (cwG (n := 2) X (mcs wd_39) (mcs wd_40) (mcs wd_41) (mcs wd_24) wd_42 (by decide +kernel) (by decide) (by decide)) rfl rfl (Nat.le_of_ble_eq_true rfl) d_Statement_takeFirstValues_39 ⟨by decide, by decide⟩ rfl (st1 := []) rfl (fun M_23 ⟨h_24, fr_25⟩ => ?_)
        have h_26 : M_23 sm = some (.inr (4, [.int sf, .int sto, .int sk, .int sn, .int saf, .int sc, .int sl, .ref acc, .ref acv, .ref alc, .ref afv, .ref als])) := (fr_25 _ (ne_k h_3 h_7 (i := 4) (j := 100016) rfl rfl (by decide))).trans h_3
        have h_27 : M_23 alc = some (.inl (cI, 7, .inl lc)) := (fr_25 _ (ne_k h_4 h_7 (i := 1007) (j := 100016) rfl rfl (by decide))).trans h_4
        have h_28 : M_23 afv = some (.inl (cL, 7, .inr (.inl fv))) := (fr_25 _ (ne_k h_5 h_7 (i := 100007) (j := 100016) rfl rfl (by decide))).trans h_5
        have h_29 : M_23 ce = some (.inr (0, [.ref va])) := (fr_25 _ (ne_k h_6 h_7 (i := 0) (j := 100016) rfl rfl (by decide))).trans h_6
        refine V.wr (pc' := 45) (lv' := [(3, .int (k + 1)), (0, .ref sm), (1, .int x), (2, .ref ce)]) (fun hl => lv_iinc (k := 3) (v := k + 1) X.1 X.2.1 d_Statement_takeFirstValues_42 hl rfl rfl (by decide) rfl) ?_
        have s_30 : (k + 1).toInt = k.toInt + (1) := i32_add1 (by omega)
        refine V.go (pc' := 8) (lv_goto X.1 X.2.1 d_Statement_takeFirstValues_45 (by decide)) ?_
        refine V.pick [1, 2, 3, 0] rfl ?_
        exact ih_10 n_9 (by omega) () _ _ ⟨(k + 1), (sp_Cells_become_va g (lc (k - 1).toNatClampNeg) (fv (k - 1).toNatClampNeg)), rfl, h_26, h_27, h_28, h_29, h_24, (fun q n0_ => (fr_25 q n0_).trans ((fr_13 q n0_))), (by omega), (by omega), (by rw [← e_14, lp_takeFirstValues_va]; simp only [if_neg c_15, if_neg c_18])⟩
  · have i_31 := mt Int32.le_iff_toInt_le.mpr c_1
    exact V.vret X hr hlk ⟨rfl, (by simp only [sp_takeFirstValues_va, if_neg c_1]; exact gh4), (fun q n0_ => rfl)⟩ d_Statement_takeFirstValues_5

theorem d_Statement_firstLevelThatHolds_0 : decode prog_6_method_8_code 0 = .ok (.iconst 1, 1) := by decide +kernel
theorem d_Statement_firstLevelThatHolds_1 : decode prog_6_method_8_code 1 = .ok (.istore_n 2, 1) := by decide +kernel
theorem d_Statement_firstLevelThatHolds_2 : decode prog_6_method_8_code 2 = .ok (.iload_n 2, 1) := by decide +kernel
theorem d_Statement_firstLevelThatHolds_3 : decode prog_6_method_8_code 3 = .ok (.aload_n 0, 1) := by decide +kernel
theorem d_Statement_firstLevelThatHolds_4 : decode prog_6_method_8_code 4 = .ok (.getfield 48, 3) := by decide +kernel
theorem d_Statement_firstLevelThatHolds_7 : decode prog_6_method_8_code 7 = .ok (.if_icmp .gt 20, 3) := by decide +kernel
theorem d_Statement_firstLevelThatHolds_10 : decode prog_6_method_8_code 10 = .ok (.aload_n 0, 1) := by decide +kernel
theorem d_Statement_firstLevelThatHolds_11 : decode prog_6_method_8_code 11 = .ok (.iload_n 2, 1) := by decide +kernel
theorem d_Statement_firstLevelThatHolds_12 : decode prog_6_method_8_code 12 = .ok (.aload_n 1, 1) := by decide +kernel
theorem d_Statement_firstLevelThatHolds_13 : decode prog_6_method_8_code 13 = .ok (.invokevirtual 57, 3) := by decide +kernel
theorem d_Statement_firstLevelThatHolds_16 : decode prog_6_method_8_code 16 = .ok (.ifCond .eq 5, 3) := by decide +kernel
theorem d_Statement_firstLevelThatHolds_19 : decode prog_6_method_8_code 19 = .ok (.iload_n 2, 1) := by decide +kernel
theorem d_Statement_firstLevelThatHolds_20 : decode prog_6_method_8_code 20 = .ok (.ireturn, 1) := by decide +kernel
theorem d_Statement_firstLevelThatHolds_21 : decode prog_6_method_8_code 21 = .ok (.iinc 2 1, 3) := by decide +kernel
theorem d_Statement_firstLevelThatHolds_24 : decode prog_6_method_8_code 24 = .ok (.goto (-22), 3) := by decide +kernel
theorem d_Statement_firstLevelThatHolds_27 : decode prog_6_method_8_code 27 = .ok (.iconst 0, 1) := by decide +kernel
theorem d_Statement_firstLevelThatHolds_28 : decode prog_6_method_8_code 28 = .ok (.ireturn, 1) := by decide +kernel

def lp_firstLevel (sl : Int32) (kc : Nat → Int32) (kv : Nat → Int64) (f : Nat → Int64) : Nat → Int32 → Int32
  | 0, _ => 0
  | n_ + 1, k => if sl < k then 0 else if (sp_holds kc kv f k) = 0 then lp_firstLevel sl kc kv f n_ (k + 1) else k
set_option maxHeartbeats 4000000 in
set_option maxRecDepth 100000 in
theorem c_firstLevel {l : Launch} {H0 : Heap} {D : va_G} {cI cL cQ cB : ClassId} {M : mp} {sm acc acv alc afv als ce va : Nat} {sf : Int32} {sto : Int32} {sk : Int32} {sn : Int32} {saf : Int32} {sc : Int32} {sl : Int32} {kc : Nat → Int32} {kv : Nat → Int64} {f : Nat → Int64} (hsl : sl.toInt ≤ 7) (gh0 : M sm = some (.inr (4, [.int sf, .int sto, .int sk, .int sn, .int saf, .int sc, .int sl, .ref acc, .ref acv, .ref alc, .ref afv, .ref als]))) (gh1 : M acc = some (.inl (cI, 7, .inl kc))) (gh2 : M acv = some (.inl (cL, 7, .inr (.inl kv)))) (gh3 : M ce = some (.inr (0, [.ref va]))) (gh4 : M va = some (.inl (cL, 16, .inr (.inl f)))) : MC l H0 D cls7 (tysOf cI cL cQ cB) NW ({ cls := "PerformRanges$Statement", name := "firstLevelThatHolds", desc := "(LPerformRanges$Cells;)I" } : Jvm.MethodName) (Cond.code ({ cls := "PerformRanges$Statement", name := "firstLevelThatHolds", desc := "(LPerformRanges$Cells;)I" } : Jvm.MethodName) prog_6_method_8_code 3 (Option.some Jvm.ClassFile.FieldType.int) :: GW) ({ frames := 2, cells := 0, slots := 0, locals := 43 }) [.ref sm, .ref ce] M (fun v M' => v = some (.int (lp_firstLevel sl kc kv f 9 1)) ∧ M' = M) := by
  refine MC.of (cc := prog_6_method_8_code) (nL := 3) (ret := (Option.some Jvm.ClassFile.FieldType.int)) (lv := [(0, .ref sm), (1, .ref ce)]) (by decide) rfl (Nat.le_of_ble_eq_true rfl) rfl ?_
  intro p e s m below meth c X hr hlk hnm hK
  have k0 : (0 : Int32).toInt = 0 := rfl
  have k1 : (1 : Int32).toInt = 1 := rfl
  refine V.go (pc' := 1) (lv_iconst (v := 1) X.1 X.2.1 d_Statement_firstLevelThatHolds_0 (by decide)) ?_
  refine V.wr (pc' := 2) (lv' := [(2, .int 1), (0, .ref sm), (1, .ref ce)]) (fun hl => lv_istore_n X.1 X.2.1 d_Statement_firstLevelThatHolds_1 rfl hl (by decide) rfl) ?_
  obtain ⟨ze_12, hze_12⟩ : ∃ z, z = lp_firstLevel sl kc kv f 9 1 := ⟨_, rfl⟩
  refine V.pick [1, 2, 0] rfl ?_
  refine V.ind (α := Unit) (x0 := ()) (n0 := 9) (I := fun nn_ _ M' lv' => ∃ (k : Int32), lv' = [(0, .ref sm), (1, .ref ce), (2, .int k)] ∧ M' sm = some (.inr (4, [.int sf, .int sto, .int sk, .int sn, .int saf, .int sc, .int sl, .ref acc, .ref acv, .ref alc, .ref afv, .ref als])) ∧ M' acc = some (.inl (cI, 7, .inl kc)) ∧ M' acv = some (.inl (cL, 7, .inr (.inl kv))) ∧ M' ce = some (.inr (0, [.ref va])) ∧ M' va = some (.inl (cL, 16, .inr (.inl f))) ∧ M' = M ∧ (1 ≤ k.toInt) ∧ (9 ≤ k.toInt + nn_ ∧ 1 ≤ nn_) ∧ lp_firstLevel sl kc kv f nn_ k = ze_12) ⟨1, rfl, gh0, gh1, gh2, gh3, gh4, rfl, (by omega), (by omega), hze_12.symm⟩ (fun n_7 ih_8 _ M_6 lv_9 hI_10 => ?_)
  obtain ⟨k, rfl, h_1, h_2, h_3, h_4, h_5, rfl, j1, j2, e_12⟩ := hI_10
  obtain ⟨n_7, rfl⟩ : ∃ j, n_7 = j + 1 := ⟨n_7 - 1, by omega⟩
  refine V.rd (pc' := 3) (fun hl => lv_iload_n X.1 X.2.1 d_Statement_firstLevelThatHolds_2 rfl (lv_at hl 2 rfl)) ?_
  refine V.rd (pc' := 4) (fun hl => lv_aload_n X.1 X.2.1 d_Statement_firstLevelThatHolds_3 rfl (lv_at hl 0 rfl)) ?_
  refine V.get (pc' := 7) X hK h_1 uw_Statement rfl 6 (by decide) (mcs wd_19) rfl d_Statement_firstLevelThatHolds_4 rfl ?_
  refine V.br (pc' := 10) (tgt := 27) (P := sl < k) (lv_icmp_gt X.1 X.2.1 d_Statement_firstLevelThatHolds_7 (by decide)) (fun c_13 => ?_) (fun c_13 => ?_)
  · have i_14 := Int32.lt_iff_toInt_lt.mp c_13
    refine V.go (pc' := 28) (lv_iconst (v := 0) X.1 X.2.1 d_Statement_firstLevelThatHolds_27 (by decide)) ?_
    rw [lp_firstLevel] at e_12
    simp only [if_pos c_13] at e_12
    exact V.iret X hr hlk ⟨(by exact congrArg (fun z => some (Value.int z)) (e_12.trans hze_12)), rfl⟩ d_Statement_firstLevelThatHolds_28
  · have i_15 := mt Int32.lt_iff_toInt_lt.mpr c_13
    refine V.rd (pc' := 11) (fun hl => lv_aload_n X.1 X.2.1 d_Statement_firstLevelThatHolds_10 rfl (lv_at hl 0 rfl)) ?_
    refine V.rd (pc' := 12) (fun hl => lv_iload_n X.1 X.2.1 d_Statement_firstLevelThatHolds_11 rfl (lv_at hl 2 rfl)) ?_
    refine V.rd (pc' := 13) (fun hl => lv_aload_n X.1 X.2.1 d_Statement_firstLevelThatHolds_12 rfl (lv_at hl 1 rfl)) ?_
    refine V.callV0 (pc' := 16) X hK (c_holds  (sm := sm) (acc := acc) (acv := acv) (alc := alc) (afv := afv) (als := als) (ce := ce) (va := va) (sf := sf) (sto := sto) (sk := sk) (sn := sn) (saf := saf) (sc := sc) (sl := sl) (kc := kc) (kv := kv) (f := f) (x := k)   h_1 h_2 h_3 h_4 h_5  ) h_1 rfl (cwG (n := 2) X (mcs wd_43) (mcs wd_44) (mcs wd_45) (mcs wd_46) wd_47 (by decide +kernel) (by decide) (by decide)) rfl rfl (Nat.le_of_ble_eq_true rfl) d_Statement_firstLevelThatHolds_13 ⟨by decide, by decide⟩ rfl (st1 := [.int (sp_holds kc kv f k)]) rfl ?_
    refine V.br (pc' := 19) (tgt := 21) (P := (sp_holds kc kv f k) = 0) (lv_if_eq X.1 X.2.1 d_Statement_firstLevelThatHolds_16 (by decide)) (fun c_17 => ?_) (fun c_17 => ?_)
    · have i_18 := congrArg Int32.toInt c_17
      refine V.wr (pc' := 24) (lv' := [(2, .int (k + 1)), (0, .ref sm), (1, .ref ce)]) (fun hl => lv_iinc (k := 2) (v := k + 1) X.1 X.2.1 d_Statement_firstLevelThatHolds_21 hl rfl rfl (by decide) rfl) ?_
      have s_19 : (k + 1).toInt = k.toInt + (1) := i32_add1 (by omega)
      refine V.go (pc' := 2) (lv_goto X.1 X.2.1 d_Statement_firstLevelThatHolds_24 (by decide)) ?_
      refine V.pick [1, 2, 0] rfl ?_
      exact ih_8 n_7 (by omega) () _ _ ⟨(k + 1), rfl, h_1, h_2, h_3, h_4, h_5, rfl, (by omega), (by omega), (by rw [← e_12, lp_firstLevel]; simp only [if_neg c_13, if_pos c_17])⟩
    · have i_20 := mt Int32.toInt_inj.mp c_17
      refine V.rd (pc' := 20) (fun hl => lv_iload_n X.1 X.2.1 d_Statement_firstLevelThatHolds_19 rfl (lv_at hl 2 rfl)) ?_
      rw [lp_firstLevel] at e_12
      simp only [if_neg c_13, if_neg c_17] at e_12
      exact V.iret X hr hlk ⟨(by exact congrArg (fun z => some (Value.int z)) (e_12.trans hze_12)), rfl⟩ d_Statement_firstLevelThatHolds_20

theorem d_Statement_findsTurn_0 : decode prog_6_method_7_code 0 = .ok (.iconst 0, 1) := by decide +kernel
theorem d_Statement_findsTurn_1 : decode prog_6_method_7_code 1 = .ok (.istore_n 2, 1) := by decide +kernel
theorem d_Statement_findsTurn_2 : decode prog_6_method_7_code 2 = .ok (.iload_n 2, 1) := by decide +kernel
theorem d_Statement_findsTurn_3 : decode prog_6_method_7_code 3 = .ok (.sipush 1000, 3) := by decide +kernel
theorem d_Statement_findsTurn_6 : decode prog_6_method_7_code 6 = .ok (.if_icmp .ge 42, 3) := by decide +kernel
theorem d_Statement_findsTurn_9 : decode prog_6_method_7_code 9 = .ok (.aload_n 0, 1) := by decide +kernel
theorem d_Statement_findsTurn_10 : decode prog_6_method_7_code 10 = .ok (.aload_n 1, 1) := by decide +kernel
theorem d_Statement_findsTurn_11 : decode prog_6_method_7_code 11 = .ok (.invokevirtual 75, 3) := by decide +kernel
theorem d_Statement_findsTurn_14 : decode prog_6_method_7_code 14 = .ok (.istore_n 3, 1) := by decide +kernel
theorem d_Statement_findsTurn_15 : decode prog_6_method_7_code 15 = .ok (.iload_n 3, 1) := by decide +kernel
theorem d_Statement_findsTurn_16 : decode prog_6_method_7_code 16 = .ok (.ifCond .ne 5, 3) := by decide +kernel
theorem d_Statement_findsTurn_19 : decode prog_6_method_7_code 19 = .ok (.iconst 1, 1) := by decide +kernel
theorem d_Statement_findsTurn_20 : decode prog_6_method_7_code 20 = .ok (.ireturn, 1) := by decide +kernel
theorem d_Statement_findsTurn_21 : decode prog_6_method_7_code 21 = .ok (.iload_n 3, 1) := by decide +kernel
theorem d_Statement_findsTurn_22 : decode prog_6_method_7_code 22 = .ok (.iconst 1, 1) := by decide +kernel
theorem d_Statement_findsTurn_23 : decode prog_6_method_7_code 23 = .ok (.if_icmp .ne 5, 3) := by decide +kernel
theorem d_Statement_findsTurn_26 : decode prog_6_method_7_code 26 = .ok (.iconst 0, 1) := by decide +kernel
theorem d_Statement_findsTurn_27 : decode prog_6_method_7_code 27 = .ok (.ireturn, 1) := by decide +kernel
theorem d_Statement_findsTurn_28 : decode prog_6_method_7_code 28 = .ok (.aload_n 0, 1) := by decide +kernel
theorem d_Statement_findsTurn_29 : decode prog_6_method_7_code 29 = .ok (.iload_n 3, 1) := by decide +kernel
theorem d_Statement_findsTurn_30 : decode prog_6_method_7_code 30 = .ok (.iconst 1, 1) := by decide +kernel
theorem d_Statement_findsTurn_31 : decode prog_6_method_7_code 31 = .ok (.isub, 1) := by decide +kernel
theorem d_Statement_findsTurn_32 : decode prog_6_method_7_code 32 = .ok (.aload_n 1, 1) := by decide +kernel
theorem d_Statement_findsTurn_33 : decode prog_6_method_7_code 33 = .ok (.invokevirtual 72, 3) := by decide +kernel
theorem d_Statement_findsTurn_36 : decode prog_6_method_7_code 36 = .ok (.aload_n 0, 1) := by decide +kernel
theorem d_Statement_findsTurn_37 : decode prog_6_method_7_code 37 = .ok (.iload_n 3, 1) := by decide +kernel
theorem d_Statement_findsTurn_38 : decode prog_6_method_7_code 38 = .ok (.aload_n 1, 1) := by decide +kernel
theorem d_Statement_findsTurn_39 : decode prog_6_method_7_code 39 = .ok (.invokevirtual 61, 3) := by decide +kernel
theorem d_Statement_findsTurn_42 : decode prog_6_method_7_code 42 = .ok (.iinc 2 1, 3) := by decide +kernel
theorem d_Statement_findsTurn_45 : decode prog_6_method_7_code 45 = .ok (.goto (-43), 3) := by decide +kernel
theorem d_Statement_findsTurn_48 : decode prog_6_method_7_code 48 = .ok (.iconst 0, 1) := by decide +kernel
theorem d_Statement_findsTurn_49 : decode prog_6_method_7_code 49 = .ok (.ireturn, 1) := by decide +kernel

def lp_findsTurn (sl : Int32) (kc : Nat → Int32) (kv : Nat → Int64) (lc : Nat → Int32) (fv : Nat → Int64) (lz : Nat → Int64) : Nat → Int32 → (Nat → Int64) → Int32
  | 0, _, _ => 0
  | n_ + 1, k, g => if 1000 ≤ k then 0 else if (lp_firstLevel sl kc kv g 9 1) = 0 then 1 else if (lp_firstLevel sl kc kv g 9 1) = 1 then 0 else lp_findsTurn sl kc kv lc fv lz n_ (k + 1) (sp_takeFirstValues_va sl lc fv (sp_takeStep_va lc lz g ((lp_firstLevel sl kc kv g 9 1) - 1)) (lp_firstLevel sl kc kv g 9 1))
def lp_findsTurn_va (sl : Int32) (kc : Nat → Int32) (kv : Nat → Int64) (lc : Nat → Int32) (fv : Nat → Int64) (lz : Nat → Int64) : Nat → Int32 → (Nat → Int64) → Nat → Int64
  | 0, _, g => g
  | n_ + 1, k, g => if 1000 ≤ k then g else if (lp_firstLevel sl kc kv g 9 1) = 0 then g else if (lp_firstLevel sl kc kv g 9 1) = 1 then g else lp_findsTurn_va sl kc kv lc fv lz n_ (k + 1) (sp_takeFirstValues_va sl lc fv (sp_takeStep_va lc lz g ((lp_firstLevel sl kc kv g 9 1) - 1)) (lp_firstLevel sl kc kv g 9 1))
set_option maxHeartbeats 4000000 in
set_option maxRecDepth 100000 in
theorem c_findsTurn {l : Launch} {H0 : Heap} {D : va_G} {cI cL cQ cB : ClassId} {M : mp} {sm acc acv alc afv als ce va : Nat} {sf : Int32} {sto : Int32} {sk : Int32} {sn : Int32} {saf : Int32} {sc : Int32} {sl : Int32} {kc : Nat → Int32} {kv : Nat → Int64} {lc : Nat → Int32} {fv : Nat → Int64} {lz : Nat → Int64} {f : Nat → Int64} (hsl : sl.toInt ≤ 7) (gh0 : M sm = some (.inr (4, [.int sf, .int sto, .int sk, .int sn, .int saf, .int sc, .int sl, .ref acc, .ref acv, .ref alc, .ref afv, .ref als]))) (gh1 : M acc = some (.inl (cI, 7, .inl kc))) (gh2 : M acv = some (.inl (cL, 7, .inr (.inl kv)))) (gh3 : M alc = some (.inl (cI, 7, .inl lc))) (gh4 : M afv = some (.inl (cL, 7, .inr (.inl fv)))) (gh5 : M als = some (.inl (cL, 7, .inr (.inl lz)))) (gh6 : M ce = some (.inr (0, [.ref va]))) (gh7 : M va = some (.inl (cL, 16, .inr (.inl f)))) : MC l H0 D cls7 (tysOf cI cL cQ cB) NW ({ cls := "PerformRanges$Statement", name := "findsTurn", desc := "(LPerformRanges$Cells;)Z" } : Jvm.MethodName) (Cond.code ({ cls := "PerformRanges$Statement", name := "findsTurn", desc := "(LPerformRanges$Cells;)Z" } : Jvm.MethodName) prog_6_method_7_code 4 (Option.some Jvm.ClassFile.FieldType.boolean) :: GW) ({ frames := 3, cells := 0, slots := 0, locals := 65 }) [.ref sm, .ref ce] M (fun v M' => v = some (.int (lp_findsTurn sl kc kv lc fv lz 1001 0 f)) ∧ M' va = some (.inl (cL, 16, .inr (.inl (lp_findsTurn_va sl kc kv lc fv lz 1001 0 f)))) ∧ ∀ q, q ≠ va → M' q = M q) := by
  refine MC.of (cc := prog_6_method_7_code) (nL := 4) (ret := (Option.some Jvm.ClassFile.FieldType.boolean)) (lv := [(0, .ref sm), (1, .ref ce)]) (by decide) rfl (Nat.le_of_ble_eq_true rfl) rfl ?_
  intro p e s m below meth c X hr hlk hnm hK
  have k0 : (0 : Int32).toInt = 0 := rfl
  have k1 : (1 : Int32).toInt = 1 := rfl
  have k1000 : (1000 : Int32).toInt = 1000 := rfl
  refine V.go (pc' := 1) (lv_iconst (v := 0) X.1 X.2.1 d_Statement_findsTurn_0 (by decide)) ?_
  refine V.wr (pc' := 2) (lv' := [(2, .int 0), (0, .ref sm), (1, .ref ce)]) (fun hl => lv_istore_n X.1 X.2.1 d_Statement_findsTurn_1 rfl hl (by decide) rfl) ?_
  obtain ⟨ze_15, hze_15⟩ : ∃ z, z = lp_findsTurn sl kc kv lc fv lz 1001 0 f := ⟨_, rfl⟩
  obtain ⟨ze_16, hze_16⟩ : ∃ z, z = lp_findsTurn_va sl kc kv lc fv lz 1001 0 f := ⟨_, rfl⟩
  refine V.pick [1, 2, 0] rfl ?_
  refine V.ind (α := Unit) (x0 := ()) (n0 := 1001) (I := fun nn_ _ M' lv' => ∃ (k : Int32) (g : Nat → Int64), lv' = [(0, .ref sm), (1, .ref ce), (2, .int k)] ∧ M' sm = some (.inr (4, [.int sf, .int sto, .int sk, .int sn, .int saf, .int sc, .int sl, .ref acc, .ref acv, .ref alc, .ref afv, .ref als])) ∧ M' acc = some (.inl (cI, 7, .inl kc)) ∧ M' acv = some (.inl (cL, 7, .inr (.inl kv))) ∧ M' alc = some (.inl (cI, 7, .inl lc)) ∧ M' afv = some (.inl (cL, 7, .inr (.inl fv))) ∧ M' als = some (.inl (cL, 7, .inr (.inl lz))) ∧ M' ce = some (.inr (0, [.ref va])) ∧ M' va = some (.inl (cL, 16, .inr (.inl g))) ∧ (∀ q, q ≠ va → M' q = M q) ∧ (0 ≤ k.toInt ∧ k.toInt ≤ 1000) ∧ (k.toInt + nn_ = 1001) ∧ lp_findsTurn sl kc kv lc fv lz nn_ k g = ze_15 ∧ lp_findsTurn_va sl kc kv lc fv lz nn_ k g = ze_16) ⟨0, f, rfl, gh0, gh1, gh2, gh3, gh4, gh5, gh6, gh7, (fun q _ => rfl), (by omega), (by omega), hze_15.symm, hze_16.symm⟩ (fun n_10 ih_11 _ M_9 lv_12 hI_13 => ?_)
  obtain ⟨k, g, rfl, h_1, h_2, h_3, h_4, h_5, h_6, h_7, h_8, fr_14, j1, j2, e_15, e_16⟩ := hI_13
  obtain ⟨n_10, rfl⟩ : ∃ j, n_10 = j + 1 := ⟨n_10 - 1, by omega⟩
  refine V.rd (pc' := 3) (fun hl => lv_iload_n X.1 X.2.1 d_Statement_findsTurn_2 rfl (lv_at hl 2 rfl)) ?_
  refine V.go (pc' := 6) (lv_sipush (v := 1000) X.1 X.2.1 d_Statement_findsTurn_3 (by decide)) ?_
  refine V.br (pc' := 9) (tgt := 48) (P := 1000 ≤ k) (lv_icmp_ge X.1 X.2.1 d_Statement_findsTurn_6 (by decide)) (fun c_17 => ?_) (fun c_17 => ?_)
  · have i_18 := Int32.le_iff_toInt_le.mp c_17
    refine V.go (pc' := 49) (lv_iconst (v := 0) X.1 X.2.1 d_Statement_findsTurn_48 (by decide)) ?_
    rw [lp_findsTurn] at e_15
    simp only [if_pos c_17] at e_15
    rw [lp_findsTurn_va] at e_16
    simp only [if_pos c_17] at e_16
    exact V.zret X hr hlk rfl ⟨(by exact congrArg (fun z => some (Value.int z)) (e_15.trans hze_15)), (by rw [← hze_16, ← e_16]; exact h_8), (fun q n0_ => (fr_14 q n0_))⟩ d_Statement_findsTurn_49
  · have i_19 := mt Int32.le_iff_toInt_le.mpr c_17
    refine V.rd (pc' := 10) (fun hl => lv_aload_n X.1 X.2.1 d_Statement_findsTurn_9 rfl (lv_at hl 0 rfl)) ?_
    refine V.rd (pc' := 11) (fun hl => lv_aload_n X.1 X.2.1 d_Statement_findsTurn_10 rfl (lv_at hl 1 rfl)) ?_
    refine V.callV0 (pc' := 14) X hK (c_firstLevel  (sm := sm) (acc := acc) (acv := acv) (alc := alc) (afv := afv) (als := als) (ce := ce) (va := va) (sf := sf) (sto := sto) (sk := sk) (sn := sn) (saf := saf) (sc := sc) (sl := sl) (kc := kc) (kv := kv) (f := g) (by first | assumption | omega)  h_1 h_2 h_3 h_7 h_8  ) h_1 rfl (cwG (n := 1) X (mcs wd_48) (mcs wd_49) (mcs wd_50) (mcs wd_46) wd_51 (by decide +kernel) (by decide) (by decide)) rfl rfl (Nat.le_of_ble_eq_true rfl) d_Statement_findsTurn_11 ⟨by decide, by decide⟩ rfl (st1 := [.int (lp_firstLevel sl kc kv g 9 1)]) rfl ?_
    refine V.wr (pc' := 15) (lv' := [(3, .int (lp_firstLevel sl kc kv g 9 1)), (0, .ref sm), (1, .ref ce), (2, .int k)]) (fun hl => lv_istore_n X.1 X.2.1 d_Statement_findsTurn_14 rfl hl (by decide) rfl) ?_
    refine V.rd (pc' := 16) (fun hl => lv_iload_n X.1 X.2.1 d_Statement_findsTurn_15 rfl (lv_at hl 0 rfl)) ?_
    refine V.bn (pc' := 19) (tgt := 21) (P := (lp_firstLevel sl kc kv g 9 1) = 0) (lv_if_ne X.1 X.2.1 d_Statement_findsTurn_16 (by decide)) (fun c_21 => ?_) (fun c_21 => ?_)
    · have i_22 := congrArg Int32.toInt c_21
      refine V.go (pc' := 20) (lv_iconst (v := 1) X.1 X.2.1 d_Statement_findsTurn_19 (by decide)) ?_
      rw [lp_findsTurn] at e_15
      simp only [if_neg c_17, if_pos c_21] at e_15
      rw [lp_findsTurn_va] at e_16
      simp only [if_neg c_17, if_pos c_21] at e_16
      exact V.zret X hr hlk rfl ⟨(by exact congrArg (fun z => some (Value.int z)) (e_15.trans hze_15)), (by rw [← hze_16, ← e_16]; exact h_8), (fun q n0_ => (fr_14 q n0_))⟩ d_Statement_findsTurn_20
    · have i_23 := mt Int32.toInt_inj.mp c_21
      refine V.rd (pc' := 22) (fun hl => lv_iload_n X.1 X.2.1 d_Statement_findsTurn_21 rfl (lv_at hl 0 rfl)) ?_
      refine V.go (pc' := 23) (lv_iconst (v := 1) X.1 X.2.1 d_Statement_findsTurn_22 (by decide)) ?_
      refine V.bn (pc' := 26) (tgt := 28) (P := (lp_firstLevel sl kc kv g 9 1) = 1) (lv_icmp_ne X.1 X.2.1 d_Statement_findsTurn_23 (by decide)) (fun c_24 => ?_) (fun c_24 => ?_)
      · have i_25 := congrArg Int32.toInt c_24
        refine V.go (pc' := 27) (lv_iconst (v := 0) X.1 X.2.1 d_Statement_findsTurn_26 (by decide)) ?_
        rw [lp_findsTurn] at e_15
        simp only [if_neg c_17, if_neg c_21, if_pos c_24] at e_15
        rw [lp_findsTurn_va] at e_16
        simp only [if_neg c_17, if_neg c_21, if_pos c_24] at e_16
        exact V.zret X hr hlk rfl ⟨(by exact congrArg (fun z => some (Value.int z)) (e_15.trans hze_15)), (by rw [← hze_16, ← e_16]; exact h_8), (fun q n0_ => (fr_14 q n0_))⟩ d_Statement_findsTurn_27
      · have i_26 := mt Int32.toInt_inj.mp c_24
        refine V.rd (pc' := 29) (fun hl => lv_aload_n X.1 X.2.1 d_Statement_findsTurn_28 rfl (lv_at hl 1 rfl)) ?_
        refine V.rd (pc' := 30) (fun hl => lv_iload_n X.1 X.2.1 d_Statement_findsTurn_29 rfl (lv_at hl 0 rfl)) ?_
        refine V.go (pc' := 31) (lv_iconst (v := 1) X.1 X.2.1 d_Statement_findsTurn_30 (by decide)) ?_
        refine V.go (pc' := 32) (lv_isub X.1 X.2.1 d_Statement_findsTurn_31) ?_
        refine V.rd (pc' := 33) (fun hl => lv_aload_n X.1 X.2.1 d_Statement_findsTurn_32 rfl (lv_at hl 2 rfl)) ?_
        refine V.callV (pc' := 36) X hK (c_takeStep  (sm := sm) (acc := acc) (acv := acv) (alc := alc) (afv := afv) (als := als) (ce := ce) (va := va) (sf := sf) (sto := sto) (sk := sk) (sn := sn) (saf := saf) (sc := sc) (sl := sl) (lc := lc) (lz := lz) (f := g) (x := (lp_firstLevel sl kc kv g 9 1) - 1)   h_1 h_4 h_6 h_7 h_8  ) h_1 rfl (cwG (n := 2) X (mcs wd_52) (mcs wd_53) (mcs wd_54) (mcs wd_46) wd_55 (by decide +kernel) (by decide) (by decide)) rfl rfl (Nat.le_of_ble_eq_true rfl) d_Statement_findsTurn_33 ⟨by decide, by decide⟩ rfl (st1 := []) rfl (fun M_27 ⟨h_28, fr_29⟩ => ?_)
        have h_30 : M_27 sm = some (.inr (4, [.int sf, .int sto, .int sk, .int sn, .int saf, .int sc, .int sl, .ref acc, .ref acv, .ref alc, .ref afv, .ref als])) := (fr_29 _ (ne_k h_1 h_8 (i := 4) (j := 100016) rfl rfl (by decide))).trans h_1
        have h_31 : M_27 acc = some (.inl (cI, 7, .inl kc)) := (fr_29 _ (ne_k h_2 h_8 (i := 1007) (j := 100016) rfl rfl (by decide))).trans h_2
        have h_32 : M_27 acv = some (.inl (cL, 7, .inr (.inl kv))) := (fr_29 _ (ne_k h_3 h_8 (i := 100007) (j := 100016) rfl rfl (by decide))).trans h_3
        have h_33 : M_27 alc = some (.inl (cI, 7, .inl lc)) := (fr_29 _ (ne_k h_4 h_8 (i := 1007) (j := 100016) rfl rfl (by decide))).trans h_4
        have h_34 : M_27 afv = some (.inl (cL, 7, .inr (.inl fv))) := (fr_29 _ (ne_k h_5 h_8 (i := 100007) (j := 100016) rfl rfl (by decide))).trans h_5
        have h_35 : M_27 als = some (.inl (cL, 7, .inr (.inl lz))) := (fr_29 _ (ne_k h_6 h_8 (i := 100007) (j := 100016) rfl rfl (by decide))).trans h_6
        have h_36 : M_27 ce = some (.inr (0, [.ref va])) := (fr_29 _ (ne_k h_7 h_8 (i := 0) (j := 100016) rfl rfl (by decide))).trans h_7
        refine V.rd (pc' := 37) (fun hl => lv_aload_n X.1 X.2.1 d_Statement_findsTurn_36 rfl (lv_at hl 1 rfl)) ?_
        refine V.rd (pc' := 38) (fun hl => lv_iload_n X.1 X.2.1 d_Statement_findsTurn_37 rfl (lv_at hl 0 rfl)) ?_
        refine V.rd (pc' := 39) (fun hl => lv_aload_n X.1 X.2.1 d_Statement_findsTurn_38 rfl (lv_at hl 2 rfl)) ?_
        refine V.callV (pc' := 42) X hK (c_takeFirstValues  (sm := sm) (acc := acc) (acv := acv) (alc := alc) (afv := afv) (als := als) (ce := ce) (va := va) (sf := sf) (sto := sto) (sk := sk) (sn := sn) (saf := saf) (sc := sc) (sl := sl) (lc := lc) (fv := fv) (f := sp_takeStep_va lc lz g ((lp_firstLevel sl kc kv g 9 1) - 1)) (x := lp_firstLevel sl kc kv g 9 1)   h_30 h_33 h_34 h_36 h_28  ) h_30 rfl (cwG (n := 2) X (mcs wd_56) (mcs wd_57) (mcs wd_58) (mcs wd_46) wd_59 (by decide +kernel) (by decide) (by decide)) rfl rfl (Nat.le_of_ble_eq_true rfl) d_Statement_findsTurn_39 ⟨by decide, by decide⟩ rfl (st1 := []) rfl (fun M_37 ⟨h_38, fr_39⟩ => ?_)
        have h_40 : M_37 sm = some (.inr (4, [.int sf, .int sto, .int sk, .int sn, .int saf, .int sc, .int sl, .ref acc, .ref acv, .ref alc, .ref afv, .ref als])) := (fr_39 _ (ne_k h_30 h_28 (i := 4) (j := 100016) rfl rfl (by decide))).trans h_30
        have h_41 : M_37 acc = some (.inl (cI, 7, .inl kc)) := (fr_39 _ (ne_k h_31 h_28 (i := 1007) (j := 100016) rfl rfl (by decide))).trans h_31
        have h_42 : M_37 acv = some (.inl (cL, 7, .inr (.inl kv))) := (fr_39 _ (ne_k h_32 h_28 (i := 100007) (j := 100016) rfl rfl (by decide))).trans h_32
        have h_43 : M_37 alc = some (.inl (cI, 7, .inl lc)) := (fr_39 _ (ne_k h_33 h_28 (i := 1007) (j := 100016) rfl rfl (by decide))).trans h_33
        have h_44 : M_37 afv = some (.inl (cL, 7, .inr (.inl fv))) := (fr_39 _ (ne_k h_34 h_28 (i := 100007) (j := 100016) rfl rfl (by decide))).trans h_34
        have h_45 : M_37 als = some (.inl (cL, 7, .inr (.inl lz))) := (fr_39 _ (ne_k h_35 h_28 (i := 100007) (j := 100016) rfl rfl (by decide))).trans h_35
        have h_46 : M_37 ce = some (.inr (0, [.ref va])) := (fr_39 _ (ne_k h_36 h_28 (i := 0) (j := 100016) rfl rfl (by decide))).trans h_36
        refine V.wr (pc' := 45) (lv' := [(2, .int (k + 1)), (3, .int (lp_firstLevel sl kc kv g 9 1)), (0, .ref sm), (1, .ref ce)]) (fun hl => lv_iinc (k := 3) (v := k + 1) X.1 X.2.1 d_Statement_findsTurn_42 hl rfl rfl (by decide) rfl) ?_
        have s_47 : (k + 1).toInt = k.toInt + (1) := i32_add1 (by omega)
        refine V.go (pc' := 2) (lv_goto X.1 X.2.1 d_Statement_findsTurn_45 (by decide)) ?_
        refine V.pick [2, 3, 0] rfl ?_
        exact ih_11 n_10 (by omega) () _ _ ⟨(k + 1), (sp_takeFirstValues_va sl lc fv (sp_takeStep_va lc lz g ((lp_firstLevel sl kc kv g 9 1) - 1)) (lp_firstLevel sl kc kv g 9 1)), rfl, h_40, h_41, h_42, h_43, h_44, h_45, h_46, h_38, (fun q n0_ => (fr_39 q n0_).trans ((fr_29 q n0_).trans ((fr_14 q n0_)))), (by omega), (by omega), (by rw [← e_15, lp_findsTurn]; simp only [if_neg c_17, if_neg c_21, if_neg c_24]), (by rw [← e_16, lp_findsTurn_va]; simp only [if_neg c_17, if_neg c_21, if_neg c_24])⟩

theorem b_findsTurn {sl : Int32} {kc : Nat → Int32} {kv : Nat → Int64} {lc : Nat → Int32} {fv lz : Nat → Int64} : ∀ (n : Nat) (k : Int32) (g : Nat → Int64), lp_findsTurn sl kc kv lc fv lz n k g = 0 ∨ lp_findsTurn sl kc kv lc fv lz n k g = 1
  | 0, _, _ => Or.inl rfl
  | n + 1, k, g => by
    rw [lp_findsTurn]
    split
    · exact Or.inl rfl
    · split
      · exact Or.inr rfl
      · split
        · exact Or.inl rfl
        · exact b_findsTurn n _ _

theorem d_Statement_stepsLastOpenLevel_0 : decode prog_6_method_9_code 0 = .ok (.aload_n 0, 1) := by decide +kernel
theorem d_Statement_stepsLastOpenLevel_1 : decode prog_6_method_9_code 1 = .ok (.getfield 48, 3) := by decide +kernel
theorem d_Statement_stepsLastOpenLevel_4 : decode prog_6_method_9_code 4 = .ok (.istore_n 2, 1) := by decide +kernel
theorem d_Statement_stepsLastOpenLevel_5 : decode prog_6_method_9_code 5 = .ok (.iload_n 2, 1) := by decide +kernel
theorem d_Statement_stepsLastOpenLevel_6 : decode prog_6_method_9_code 6 = .ok (.iconst 1, 1) := by decide +kernel
theorem d_Statement_stepsLastOpenLevel_7 : decode prog_6_method_9_code 7 = .ok (.if_icmp .lt 34, 3) := by decide +kernel
theorem d_Statement_stepsLastOpenLevel_10 : decode prog_6_method_9_code 10 = .ok (.aload_n 0, 1) := by decide +kernel
theorem d_Statement_stepsLastOpenLevel_11 : decode prog_6_method_9_code 11 = .ok (.iload_n 2, 1) := by decide +kernel
theorem d_Statement_stepsLastOpenLevel_12 : decode prog_6_method_9_code 12 = .ok (.aload_n 1, 1) := by decide +kernel
theorem d_Statement_stepsLastOpenLevel_13 : decode prog_6_method_9_code 13 = .ok (.invokevirtual 57, 3) := by decide +kernel
theorem d_Statement_stepsLastOpenLevel_16 : decode prog_6_method_9_code 16 = .ok (.ifCond .ne 19, 3) := by decide +kernel
theorem d_Statement_stepsLastOpenLevel_19 : decode prog_6_method_9_code 19 = .ok (.aload_n 0, 1) := by decide +kernel
theorem d_Statement_stepsLastOpenLevel_20 : decode prog_6_method_9_code 20 = .ok (.iload_n 2, 1) := by decide +kernel
theorem d_Statement_stepsLastOpenLevel_21 : decode prog_6_method_9_code 21 = .ok (.aload_n 1, 1) := by decide +kernel
theorem d_Statement_stepsLastOpenLevel_22 : decode prog_6_method_9_code 22 = .ok (.invokevirtual 72, 3) := by decide +kernel
theorem d_Statement_stepsLastOpenLevel_25 : decode prog_6_method_9_code 25 = .ok (.aload_n 0, 1) := by decide +kernel
theorem d_Statement_stepsLastOpenLevel_26 : decode prog_6_method_9_code 26 = .ok (.iload_n 2, 1) := by decide +kernel
theorem d_Statement_stepsLastOpenLevel_27 : decode prog_6_method_9_code 27 = .ok (.iconst 1, 1) := by decide +kernel
theorem d_Statement_stepsLastOpenLevel_28 : decode prog_6_method_9_code 28 = .ok (.iadd, 1) := by decide +kernel
theorem d_Statement_stepsLastOpenLevel_29 : decode prog_6_method_9_code 29 = .ok (.aload_n 1, 1) := by decide +kernel
theorem d_Statement_stepsLastOpenLevel_30 : decode prog_6_method_9_code 30 = .ok (.invokevirtual 61, 3) := by decide +kernel
theorem d_Statement_stepsLastOpenLevel_33 : decode prog_6_method_9_code 33 = .ok (.iconst 1, 1) := by decide +kernel
theorem d_Statement_stepsLastOpenLevel_34 : decode prog_6_method_9_code 34 = .ok (.ireturn, 1) := by decide +kernel
theorem d_Statement_stepsLastOpenLevel_35 : decode prog_6_method_9_code 35 = .ok (.iinc 2 (-1), 3) := by decide +kernel
theorem d_Statement_stepsLastOpenLevel_38 : decode prog_6_method_9_code 38 = .ok (.goto (-33), 3) := by decide +kernel
theorem d_Statement_stepsLastOpenLevel_41 : decode prog_6_method_9_code 41 = .ok (.iconst 0, 1) := by decide +kernel
theorem d_Statement_stepsLastOpenLevel_42 : decode prog_6_method_9_code 42 = .ok (.ireturn, 1) := by decide +kernel

def lp_stepsLast (kc : Nat → Int32) (kv : Nat → Int64) (f : Nat → Int64) : Nat → Int32 → Int32
  | 0, _ => 0
  | n_ + 1, k => if k < 1 then 0 else if (sp_holds kc kv f k) = 0 then 1 else lp_stepsLast kc kv f n_ (k + (-1))
def lp_stepsLast_va (sl : Int32) (kc : Nat → Int32) (kv : Nat → Int64) (lc : Nat → Int32) (fv : Nat → Int64) (lz : Nat → Int64) (f : Nat → Int64) : Nat → Int32 → Nat → Int64
  | 0, _ => f
  | n_ + 1, k => if k < 1 then f else if (sp_holds kc kv f k) = 0 then sp_takeFirstValues_va sl lc fv (sp_takeStep_va lc lz f k) (k + 1) else lp_stepsLast_va sl kc kv lc fv lz f n_ (k + (-1))
set_option maxHeartbeats 4000000 in
set_option maxRecDepth 100000 in
theorem c_stepsLast {l : Launch} {H0 : Heap} {D : va_G} {cI cL cQ cB : ClassId} {M : mp} {sm acc acv alc afv als ce va : Nat} {sf : Int32} {sto : Int32} {sk : Int32} {sn : Int32} {saf : Int32} {sc : Int32} {sl : Int32} {kc : Nat → Int32} {kv : Nat → Int64} {lc : Nat → Int32} {fv : Nat → Int64} {lz : Nat → Int64} {f : Nat → Int64} (hsl : sl.toInt ≤ 7) (gh0 : M sm = some (.inr (4, [.int sf, .int sto, .int sk, .int sn, .int saf, .int sc, .int sl, .ref acc, .ref acv, .ref alc, .ref afv, .ref als]))) (gh1 : M acc = some (.inl (cI, 7, .inl kc))) (gh2 : M acv = some (.inl (cL, 7, .inr (.inl kv)))) (gh3 : M alc = some (.inl (cI, 7, .inl lc))) (gh4 : M afv = some (.inl (cL, 7, .inr (.inl fv)))) (gh5 : M als = some (.inl (cL, 7, .inr (.inl lz)))) (gh6 : M ce = some (.inr (0, [.ref va]))) (gh7 : M va = some (.inl (cL, 16, .inr (.inl f)))) : MC l H0 D cls7 (tysOf cI cL cQ cB) NW ({ cls := "PerformRanges$Statement", name := "stepsLastOpenLevel", desc := "(LPerformRanges$Cells;)Z" } : Jvm.MethodName) (Cond.code ({ cls := "PerformRanges$Statement", name := "stepsLastOpenLevel", desc := "(LPerformRanges$Cells;)Z" } : Jvm.MethodName) prog_6_method_9_code 3 (Option.some Jvm.ClassFile.FieldType.boolean) :: GW) ({ frames := 2, cells := 0, slots := 0, locals := 46 }) [.ref sm, .ref ce] M (fun v M' => v = some (.int (lp_stepsLast kc kv f 9 sl)) ∧ M' va = some (.inl (cL, 16, .inr (.inl (lp_stepsLast_va sl kc kv lc fv lz f 9 sl)))) ∧ ∀ q, q ≠ va → M' q = M q) := by
  refine MC.of (cc := prog_6_method_9_code) (nL := 3) (ret := (Option.some Jvm.ClassFile.FieldType.boolean)) (lv := [(0, .ref sm), (1, .ref ce)]) (by decide) rfl (Nat.le_of_ble_eq_true rfl) rfl ?_
  intro p e s m below meth c X hr hlk hnm hK
  have k0 : (0 : Int32).toInt = 0 := rfl
  have k1 : (1 : Int32).toInt = 1 := rfl
  refine V.rd (pc' := 1) (fun hl => lv_aload_n X.1 X.2.1 d_Statement_stepsLastOpenLevel_0 rfl (lv_at hl 0 rfl)) ?_
  refine V.get (pc' := 4) X hK gh0 uw_Statement rfl 6 (by decide) (mcs wd_19) rfl d_Statement_stepsLastOpenLevel_1 rfl ?_
  refine V.wr (pc' := 5) (lv' := [(2, .int sl), (0, .ref sm), (1, .ref ce)]) (fun hl => lv_istore_n X.1 X.2.1 d_Statement_stepsLastOpenLevel_4 rfl hl (by decide) rfl) ?_
  obtain ⟨ze_15, hze_15⟩ : ∃ z, z = lp_stepsLast kc kv f 9 sl := ⟨_, rfl⟩
  obtain ⟨ze_16, hze_16⟩ : ∃ z, z = lp_stepsLast_va sl kc kv lc fv lz f 9 sl := ⟨_, rfl⟩
  refine V.pick [1, 2, 0] rfl ?_
  refine V.ind (α := Unit) (x0 := ()) (n0 := 9) (I := fun nn_ _ M' lv' => ∃ (k : Int32), lv' = [(0, .ref sm), (1, .ref ce), (2, .int k)] ∧ M' sm = some (.inr (4, [.int sf, .int sto, .int sk, .int sn, .int saf, .int sc, .int sl, .ref acc, .ref acv, .ref alc, .ref afv, .ref als])) ∧ M' acc = some (.inl (cI, 7, .inl kc)) ∧ M' acv = some (.inl (cL, 7, .inr (.inl kv))) ∧ M' alc = some (.inl (cI, 7, .inl lc)) ∧ M' afv = some (.inl (cL, 7, .inr (.inl fv))) ∧ M' als = some (.inl (cL, 7, .inr (.inl lz))) ∧ M' ce = some (.inr (0, [.ref va])) ∧ M' va = some (.inl (cL, 16, .inr (.inl f))) ∧ M' = M ∧ (k.toInt ≤ 7) ∧ (k.toInt + 1 ≤ nn_ ∧ 1 ≤ nn_) ∧ lp_stepsLast kc kv f nn_ k = ze_15 ∧ lp_stepsLast_va sl kc kv lc fv lz f nn_ k = ze_16) ⟨sl, rfl, gh0, gh1, gh2, gh3, gh4, gh5, gh6, gh7, rfl, (by omega), (by omega), hze_15.symm, hze_16.symm⟩ (fun n_10 ih_11 _ M_9 lv_12 hI_13 => ?_)
  obtain ⟨k, rfl, h_1, h_2, h_3, h_4, h_5, h_6, h_7, h_8, rfl, j1, j2, e_15, e_16⟩ := hI_13
  obtain ⟨n_10, rfl⟩ : ∃ j, n_10 = j + 1 := ⟨n_10 - 1, by omega⟩
  refine V.rd (pc' := 6) (fun hl => lv_iload_n X.1 X.2.1 d_Statement_stepsLastOpenLevel_5 rfl (lv_at hl 2 rfl)) ?_
  refine V.go (pc' := 7) (lv_iconst (v := 1) X.1 X.2.1 d_Statement_stepsLastOpenLevel_6 (by decide)) ?_
  refine V.br (pc' := 10) (tgt := 41) (P := k < 1) (lv_icmp_lt X.1 X.2.1 d_Statement_stepsLastOpenLevel_7 (by decide)) (fun c_17 => ?_) (fun c_17 => ?_)
  · have i_18 := Int32.lt_iff_toInt_lt.mp c_17
    refine V.go (pc' := 42) (lv_iconst (v := 0) X.1 X.2.1 d_Statement_stepsLastOpenLevel_41 (by decide)) ?_
    rw [lp_stepsLast] at e_15
    simp only [if_pos c_17] at e_15
    rw [lp_stepsLast_va] at e_16
    simp only [if_pos c_17] at e_16
    exact V.zret X hr hlk rfl ⟨(by exact congrArg (fun z => some (Value.int z)) (e_15.trans hze_15)), (by rw [← hze_16, ← e_16]; exact h_8), (fun q n0_ => rfl)⟩ d_Statement_stepsLastOpenLevel_42
  · have i_19 := mt Int32.lt_iff_toInt_lt.mpr c_17
    refine V.rd (pc' := 11) (fun hl => lv_aload_n X.1 X.2.1 d_Statement_stepsLastOpenLevel_10 rfl (lv_at hl 0 rfl)) ?_
    refine V.rd (pc' := 12) (fun hl => lv_iload_n X.1 X.2.1 d_Statement_stepsLastOpenLevel_11 rfl (lv_at hl 2 rfl)) ?_
    refine V.rd (pc' := 13) (fun hl => lv_aload_n X.1 X.2.1 d_Statement_stepsLastOpenLevel_12 rfl (lv_at hl 1 rfl)) ?_
    refine V.callV0 (pc' := 16) X hK (c_holds  (sm := sm) (acc := acc) (acv := acv) (alc := alc) (afv := afv) (als := als) (ce := ce) (va := va) (sf := sf) (sto := sto) (sk := sk) (sn := sn) (saf := saf) (sc := sc) (sl := sl) (kc := kc) (kv := kv) (f := f) (x := k)   h_1 h_2 h_3 h_7 h_8  ) h_1 rfl (cwG (n := 2) X (mcs wd_43) (mcs wd_44) (mcs wd_45) (mcs wd_46) wd_47 (by decide +kernel) (by decide) (by decide)) rfl rfl (Nat.le_of_ble_eq_true rfl) d_Statement_stepsLastOpenLevel_13 ⟨by decide, by decide⟩ rfl (st1 := [.int (sp_holds kc kv f k)]) rfl ?_
    refine V.bn (pc' := 19) (tgt := 35) (P := (sp_holds kc kv f k) = 0) (lv_if_ne X.1 X.2.1 d_Statement_stepsLastOpenLevel_16 (by decide)) (fun c_21 => ?_) (fun c_21 => ?_)
    · have i_22 := congrArg Int32.toInt c_21
      refine V.rd (pc' := 20) (fun hl => lv_aload_n X.1 X.2.1 d_Statement_stepsLastOpenLevel_19 rfl (lv_at hl 0 rfl)) ?_
      refine V.rd (pc' := 21) (fun hl => lv_iload_n X.1 X.2.1 d_Statement_stepsLastOpenLevel_20 rfl (lv_at hl 2 rfl)) ?_
      refine V.rd (pc' := 22) (fun hl => lv_aload_n X.1 X.2.1 d_Statement_stepsLastOpenLevel_21 rfl (lv_at hl 1 rfl)) ?_
      refine V.callV (pc' := 25) X hK (c_takeStep  (sm := sm) (acc := acc) (acv := acv) (alc := alc) (afv := afv) (als := als) (ce := ce) (va := va) (sf := sf) (sto := sto) (sk := sk) (sn := sn) (saf := saf) (sc := sc) (sl := sl) (lc := lc) (lz := lz) (f := f) (x := k)   h_1 h_4 h_6 h_7 h_8  ) h_1 rfl (cwG (n := 2) X (mcs wd_52) (mcs wd_53) (mcs wd_54) (mcs wd_46) wd_55 (by decide +kernel) (by decide) (by decide)) rfl rfl (Nat.le_of_ble_eq_true rfl) d_Statement_stepsLastOpenLevel_22 ⟨by decide, by decide⟩ rfl (st1 := []) rfl (fun M_23 ⟨h_24, fr_25⟩ => ?_)
      have h_26 : M_23 sm = some (.inr (4, [.int sf, .int sto, .int sk, .int sn, .int saf, .int sc, .int sl, .ref acc, .ref acv, .ref alc, .ref afv, .ref als])) := (fr_25 _ (ne_k h_1 h_8 (i := 4) (j := 100016) rfl rfl (by decide))).trans h_1
      have h_27 : M_23 acc = some (.inl (cI, 7, .inl kc)) := (fr_25 _ (ne_k h_2 h_8 (i := 1007) (j := 100016) rfl rfl (by decide))).trans h_2
      have h_28 : M_23 acv = some (.inl (cL, 7, .inr (.inl kv))) := (fr_25 _ (ne_k h_3 h_8 (i := 100007) (j := 100016) rfl rfl (by decide))).trans h_3
      have h_29 : M_23 alc = some (.inl (cI, 7, .inl lc)) := (fr_25 _ (ne_k h_4 h_8 (i := 1007) (j := 100016) rfl rfl (by decide))).trans h_4
      have h_30 : M_23 afv = some (.inl (cL, 7, .inr (.inl fv))) := (fr_25 _ (ne_k h_5 h_8 (i := 100007) (j := 100016) rfl rfl (by decide))).trans h_5
      have h_31 : M_23 als = some (.inl (cL, 7, .inr (.inl lz))) := (fr_25 _ (ne_k h_6 h_8 (i := 100007) (j := 100016) rfl rfl (by decide))).trans h_6
      have h_32 : M_23 ce = some (.inr (0, [.ref va])) := (fr_25 _ (ne_k h_7 h_8 (i := 0) (j := 100016) rfl rfl (by decide))).trans h_7
      refine V.rd (pc' := 26) (fun hl => lv_aload_n X.1 X.2.1 d_Statement_stepsLastOpenLevel_25 rfl (lv_at hl 0 rfl)) ?_
      refine V.rd (pc' := 27) (fun hl => lv_iload_n X.1 X.2.1 d_Statement_stepsLastOpenLevel_26 rfl (lv_at hl 2 rfl)) ?_
      refine V.go (pc' := 28) (lv_iconst (v := 1) X.1 X.2.1 d_Statement_stepsLastOpenLevel_27 (by decide)) ?_
      refine V.go (pc' := 29) (lv_iadd X.1 X.2.1 d_Statement_stepsLastOpenLevel_28) ?_
      have s_33 : (k + 1).toInt = k.toInt + 1 := i32_add1 (by omega)
      refine V.rd (pc' := 30) (fun hl => lv_aload_n X.1 X.2.1 d_Statement_stepsLastOpenLevel_29 rfl (lv_at hl 1 rfl)) ?_
      refine V.callV (pc' := 33) X hK (c_takeFirstValues  (sm := sm) (acc := acc) (acv := acv) (alc := alc) (afv := afv) (als := als) (ce := ce) (va := va) (sf := sf) (sto := sto) (sk := sk) (sn := sn) (saf := saf) (sc := sc) (sl := sl) (lc := lc) (fv := fv) (f := sp_takeStep_va lc lz f k) (x := k + 1)   h_26 h_29 h_30 h_32 h_24  ) h_26 rfl (cwG (n := 2) X (mcs wd_56) (mcs wd_57) (mcs wd_58) (mcs wd_46) wd_59 (by decide +kernel) (by decide) (by decide)) rfl rfl (Nat.le_of_ble_eq_true rfl) d_Statement_stepsLastOpenLevel_30 ⟨by decide, by decide⟩ rfl (st1 := []) rfl (fun M_34 ⟨h_35, fr_36⟩ => ?_)
      have h_37 : M_34 sm = some (.inr (4, [.int sf, .int sto, .int sk, .int sn, .int saf, .int sc, .int sl, .ref acc, .ref acv, .ref alc, .ref afv, .ref als])) := (fr_36 _ (ne_k h_26 h_24 (i := 4) (j := 100016) rfl rfl (by decide))).trans h_26
      have h_38 : M_34 acc = some (.inl (cI, 7, .inl kc)) := (fr_36 _ (ne_k h_27 h_24 (i := 1007) (j := 100016) rfl rfl (by decide))).trans h_27
      have h_39 : M_34 acv = some (.inl (cL, 7, .inr (.inl kv))) := (fr_36 _ (ne_k h_28 h_24 (i := 100007) (j := 100016) rfl rfl (by decide))).trans h_28
      have h_40 : M_34 alc = some (.inl (cI, 7, .inl lc)) := (fr_36 _ (ne_k h_29 h_24 (i := 1007) (j := 100016) rfl rfl (by decide))).trans h_29
      have h_41 : M_34 afv = some (.inl (cL, 7, .inr (.inl fv))) := (fr_36 _ (ne_k h_30 h_24 (i := 100007) (j := 100016) rfl rfl (by decide))).trans h_30
      have h_42 : M_34 als = some (.inl (cL, 7, .inr (.inl lz))) := (fr_36 _ (ne_k h_31 h_24 (i := 100007) (j := 100016) rfl rfl (by decide))).trans h_31
      have h_43 : M_34 ce = some (.inr (0, [.ref va])) := (fr_36 _ (ne_k h_32 h_24 (i := 0) (j := 100016) rfl rfl (by decide))).trans h_32
      refine V.go (pc' := 34) (lv_iconst (v := 1) X.1 X.2.1 d_Statement_stepsLastOpenLevel_33 (by decide)) ?_
      rw [lp_stepsLast] at e_15
      simp only [if_neg c_17, if_pos c_21] at e_15
      rw [lp_stepsLast_va] at e_16
      simp only [if_neg c_17, if_pos c_21] at e_16
      exact V.zret X hr hlk rfl ⟨(by exact congrArg (fun z => some (Value.int z)) (e_15.trans hze_15)), (by rw [← hze_16, ← e_16]; exact h_35), (fun q n0_ => (fr_36 q n0_).trans ((fr_25 q n0_)))⟩ d_Statement_stepsLastOpenLevel_34
    · have i_44 := mt Int32.toInt_inj.mp c_21
      refine V.wr (pc' := 38) (lv' := [(2, .int (k + (-1))), (0, .ref sm), (1, .ref ce)]) (fun hl => lv_iinc (k := 2) (v := k + (-1)) X.1 X.2.1 d_Statement_stepsLastOpenLevel_35 hl rfl rfl (by decide) rfl) ?_
      have s_45 : (k + (-1)).toInt = k.toInt + (-1) := i32_addm1 (by omega)
      refine V.go (pc' := 5) (lv_goto X.1 X.2.1 d_Statement_stepsLastOpenLevel_38 (by decide)) ?_
      refine V.pick [1, 2, 0] rfl ?_
      exact ih_11 n_10 (by omega) () _ _ ⟨(k + (-1)), rfl, h_1, h_2, h_3, h_4, h_5, h_6, h_7, h_8, rfl, (by omega), (by omega), (by rw [← e_15, lp_stepsLast]; simp only [if_neg c_17, if_neg c_21]), (by rw [← e_16, lp_stepsLast_va]; simp only [if_neg c_17, if_neg c_21])⟩

theorem b_stepsLast {kc : Nat → Int32} {kv f : Nat → Int64} : ∀ (n : Nat) (k : Int32), lp_stepsLast kc kv f n k = 0 ∨ lp_stepsLast kc kv f n k = 1
  | 0, _ => Or.inl rfl
  | n + 1, k => by
    rw [lp_stepsLast]
    split
    · exact Or.inl rfl
    · split
      · exact Or.inr rfl
      · exact b_stepsLast n _

theorem d_Statement_goesAtFirst_0 : decode prog_6_method_5_code 0 = .ok (.aload_n 0, 1) := by decide +kernel
theorem d_Statement_goesAtFirst_1 : decode prog_6_method_5_code 1 = .ok (.getfield 35, 3) := by decide +kernel
theorem d_Statement_goesAtFirst_4 : decode prog_6_method_5_code 4 = .ok (.tableswitch 65 0 2 #[28, 30, 43], 28) := by decide +kernel
theorem d_Statement_goesAtFirst_32 : decode prog_6_method_5_code 32 = .ok (.iconst 1, 1) := by decide +kernel
theorem d_Statement_goesAtFirst_33 : decode prog_6_method_5_code 33 = .ok (.ireturn, 1) := by decide +kernel
theorem d_Statement_goesAtFirst_34 : decode prog_6_method_5_code 34 = .ok (.aload_n 0, 1) := by decide +kernel
theorem d_Statement_goesAtFirst_35 : decode prog_6_method_5_code 35 = .ok (.getfield 38, 3) := by decide +kernel
theorem d_Statement_goesAtFirst_38 : decode prog_6_method_5_code 38 = .ok (.ifCond .le 7, 3) := by decide +kernel
theorem d_Statement_goesAtFirst_41 : decode prog_6_method_5_code 41 = .ok (.iconst 1, 1) := by decide +kernel
theorem d_Statement_goesAtFirst_42 : decode prog_6_method_5_code 42 = .ok (.goto 4, 3) := by decide +kernel
theorem d_Statement_goesAtFirst_45 : decode prog_6_method_5_code 45 = .ok (.iconst 0, 1) := by decide +kernel
theorem d_Statement_goesAtFirst_46 : decode prog_6_method_5_code 46 = .ok (.ireturn, 1) := by decide +kernel
theorem d_Statement_goesAtFirst_47 : decode prog_6_method_5_code 47 = .ok (.aload_n 0, 1) := by decide +kernel
theorem d_Statement_goesAtFirst_48 : decode prog_6_method_5_code 48 = .ok (.getfield 44, 3) := by decide +kernel
theorem d_Statement_goesAtFirst_51 : decode prog_6_method_5_code 51 = .ok (.ifCond .eq 12, 3) := by decide +kernel
theorem d_Statement_goesAtFirst_54 : decode prog_6_method_5_code 54 = .ok (.aload_n 0, 1) := by decide +kernel
theorem d_Statement_goesAtFirst_55 : decode prog_6_method_5_code 55 = .ok (.iconst 1, 1) := by decide +kernel
theorem d_Statement_goesAtFirst_56 : decode prog_6_method_5_code 56 = .ok (.aload_n 1, 1) := by decide +kernel
theorem d_Statement_goesAtFirst_57 : decode prog_6_method_5_code 57 = .ok (.invokevirtual 57, 3) := by decide +kernel
theorem d_Statement_goesAtFirst_60 : decode prog_6_method_5_code 60 = .ok (.ifCond .ne 7, 3) := by decide +kernel
theorem d_Statement_goesAtFirst_63 : decode prog_6_method_5_code 63 = .ok (.iconst 1, 1) := by decide +kernel
theorem d_Statement_goesAtFirst_64 : decode prog_6_method_5_code 64 = .ok (.goto 4, 3) := by decide +kernel
theorem d_Statement_goesAtFirst_67 : decode prog_6_method_5_code 67 = .ok (.iconst 0, 1) := by decide +kernel
theorem d_Statement_goesAtFirst_68 : decode prog_6_method_5_code 68 = .ok (.ireturn, 1) := by decide +kernel
theorem d_Statement_goesAtFirst_69 : decode prog_6_method_5_code 69 = .ok (.aload_n 0, 1) := by decide +kernel
theorem d_Statement_goesAtFirst_70 : decode prog_6_method_5_code 70 = .ok (.iconst 1, 1) := by decide +kernel
theorem d_Statement_goesAtFirst_71 : decode prog_6_method_5_code 71 = .ok (.aload_n 1, 1) := by decide +kernel
theorem d_Statement_goesAtFirst_72 : decode prog_6_method_5_code 72 = .ok (.invokevirtual 61, 3) := by decide +kernel
theorem d_Statement_goesAtFirst_75 : decode prog_6_method_5_code 75 = .ok (.aload_n 0, 1) := by decide +kernel
theorem d_Statement_goesAtFirst_76 : decode prog_6_method_5_code 76 = .ok (.getfield 44, 3) := by decide +kernel
theorem d_Statement_goesAtFirst_79 : decode prog_6_method_5_code 79 = .ok (.ifCond .eq 11, 3) := by decide +kernel
theorem d_Statement_goesAtFirst_82 : decode prog_6_method_5_code 82 = .ok (.aload_n 0, 1) := by decide +kernel
theorem d_Statement_goesAtFirst_83 : decode prog_6_method_5_code 83 = .ok (.aload_n 1, 1) := by decide +kernel
theorem d_Statement_goesAtFirst_84 : decode prog_6_method_5_code 84 = .ok (.invokevirtual 65, 3) := by decide +kernel
theorem d_Statement_goesAtFirst_87 : decode prog_6_method_5_code 87 = .ok (.ifCond .eq 7, 3) := by decide +kernel
theorem d_Statement_goesAtFirst_90 : decode prog_6_method_5_code 90 = .ok (.iconst 1, 1) := by decide +kernel
theorem d_Statement_goesAtFirst_91 : decode prog_6_method_5_code 91 = .ok (.goto 4, 3) := by decide +kernel
theorem d_Statement_goesAtFirst_94 : decode prog_6_method_5_code 94 = .ok (.iconst 0, 1) := by decide +kernel
theorem d_Statement_goesAtFirst_95 : decode prog_6_method_5_code 95 = .ok (.ireturn, 1) := by decide +kernel

def sp_goesAtFirst (sk : Int32) (sn : Int32) (saf : Int32) (sl : Int32) (kc : Nat → Int32) (kv : Nat → Int64) (lc : Nat → Int32) (fv : Nat → Int64) (lz : Nat → Int64) (f : Nat → Int64) : Int32 := if sk = 0 then 1 else if sk = 1 then (if sn ≤ 0 then 0 else 1) else if sk = 2 then (if saf = 0 then 1 else if (sp_holds kc kv f 1) = 0 then 1 else 0) else if saf = 0 then 1 else if (lp_findsTurn sl kc kv lc fv lz 1001 0 (sp_takeFirstValues_va sl lc fv f 1)) = 0 then 0 else 1
def sp_goesAtFirst_va (sk : Int32) (saf : Int32) (sl : Int32) (kc : Nat → Int32) (kv : Nat → Int64) (lc : Nat → Int32) (fv : Nat → Int64) (lz : Nat → Int64) (f : Nat → Int64) : Nat → Int64 := if sk = 0 then f else if sk = 1 then f else if sk = 2 then f else if saf = 0 then sp_takeFirstValues_va sl lc fv f 1 else lp_findsTurn_va sl kc kv lc fv lz 1001 0 (sp_takeFirstValues_va sl lc fv f 1)
set_option maxHeartbeats 4000000 in
set_option maxRecDepth 100000 in
theorem c_goesAtFirst {l : Launch} {H0 : Heap} {D : va_G} {cI cL cQ cB : ClassId} {M : mp} {sm acc acv alc afv als ce va : Nat} {sf : Int32} {sto : Int32} {sk : Int32} {sn : Int32} {saf : Int32} {sc : Int32} {sl : Int32} {kc : Nat → Int32} {kv : Nat → Int64} {lc : Nat → Int32} {fv : Nat → Int64} {lz : Nat → Int64} {f : Nat → Int64} (hsl : sl.toInt ≤ 7) (gh0 : M sm = some (.inr (4, [.int sf, .int sto, .int sk, .int sn, .int saf, .int sc, .int sl, .ref acc, .ref acv, .ref alc, .ref afv, .ref als]))) (gh1 : M acc = some (.inl (cI, 7, .inl kc))) (gh2 : M acv = some (.inl (cL, 7, .inr (.inl kv)))) (gh3 : M alc = some (.inl (cI, 7, .inl lc))) (gh4 : M afv = some (.inl (cL, 7, .inr (.inl fv)))) (gh5 : M als = some (.inl (cL, 7, .inr (.inl lz)))) (gh6 : M ce = some (.inr (0, [.ref va]))) (gh7 : M va = some (.inl (cL, 16, .inr (.inl f)))) : MC l H0 D cls7 (tysOf cI cL cQ cB) NW ({ cls := "PerformRanges$Statement", name := "goesAtFirst", desc := "(LPerformRanges$Cells;)Z" } : Jvm.MethodName) (Cond.code ({ cls := "PerformRanges$Statement", name := "goesAtFirst", desc := "(LPerformRanges$Cells;)Z" } : Jvm.MethodName) prog_6_method_5_code 2 (Option.some Jvm.ClassFile.FieldType.boolean) :: GW) ({ frames := 4, cells := 0, slots := 0, locals := 88 }) [.ref sm, .ref ce] M (fun v M' => v = some (.int (sp_goesAtFirst sk sn saf sl kc kv lc fv lz f)) ∧ M' va = some (.inl (cL, 16, .inr (.inl (sp_goesAtFirst_va sk saf sl kc kv lc fv lz f)))) ∧ ∀ q, q ≠ va → M' q = M q) := by
  refine MC.of (cc := prog_6_method_5_code) (nL := 2) (ret := (Option.some Jvm.ClassFile.FieldType.boolean)) (lv := [(0, .ref sm), (1, .ref ce)]) (by decide) rfl (Nat.le_of_ble_eq_true rfl) rfl ?_
  intro p e s m below meth c X hr hlk hnm hK
  have k0 : (0 : Int32).toInt = 0 := rfl
  have k1 : (1 : Int32).toInt = 1 := rfl
  refine V.rd (pc' := 1) (fun hl => lv_aload_n X.1 X.2.1 d_Statement_goesAtFirst_0 rfl (lv_at hl 0 rfl)) ?_
  refine V.get (pc' := 4) X hK gh0 uw_Statement rfl 2 (by decide) (mcs wd_17) rfl d_Statement_goesAtFirst_1 rfl ?_
  refine V.dec (P := sk = 0) (fun c_1 => ?_) (fun c_1 => ?_)
  · refine V.go (pc' := 32) (lv_tableIn X.1 X.2.1 d_Statement_goesAtFirst_4 (by rw [c_1]; decide) (by rw [c_1]; decide) (off := 28) (by rw [c_1]; rfl) (by decide)) ?_
    refine V.go (pc' := 33) (lv_iconst (v := 1) X.1 X.2.1 d_Statement_goesAtFirst_32 (by decide)) ?_
    exact V.zret X hr hlk rfl ⟨(by simp only [sp_goesAtFirst, if_pos c_1]), (by simp only [sp_goesAtFirst_va, if_pos c_1]; exact gh7), (fun q n0_ => rfl)⟩ d_Statement_goesAtFirst_33
  · refine V.dec (P := sk = 1) (fun c_2 => ?_) (fun c_2 => ?_)
    · refine V.go (pc' := 34) (lv_tableIn X.1 X.2.1 d_Statement_goesAtFirst_4 (by rw [c_2]; decide) (by rw [c_2]; decide) (off := 30) (by rw [c_2]; rfl) (by decide)) ?_
      refine V.rd (pc' := 35) (fun hl => lv_aload_n X.1 X.2.1 d_Statement_goesAtFirst_34 rfl (lv_at hl 0 rfl)) ?_
      refine V.get (pc' := 38) X hK gh0 uw_Statement rfl 3 (by decide) (mcs wd_60) rfl d_Statement_goesAtFirst_35 rfl ?_
      refine V.br (pc' := 41) (tgt := 45) (P := sn ≤ 0) (lv_if_le X.1 X.2.1 d_Statement_goesAtFirst_38 (by decide)) (fun c_3 => ?_) (fun c_3 => ?_)
      · have i_4 := Int32.le_iff_toInt_le.mp c_3
        refine V.go (pc' := 46) (lv_iconst (v := 0) X.1 X.2.1 d_Statement_goesAtFirst_45 (by decide)) ?_
        exact V.zret X hr hlk rfl ⟨(by simp only [sp_goesAtFirst, if_neg c_1, if_pos c_2, if_pos c_3]), (by simp only [sp_goesAtFirst_va, if_neg c_1, if_pos c_2, if_pos c_3]; exact gh7), (fun q n0_ => rfl)⟩ d_Statement_goesAtFirst_46
      · have i_5 := mt Int32.le_iff_toInt_le.mpr c_3
        refine V.go (pc' := 42) (lv_iconst (v := 1) X.1 X.2.1 d_Statement_goesAtFirst_41 (by decide)) ?_
        refine V.go (pc' := 46) (lv_goto X.1 X.2.1 d_Statement_goesAtFirst_42 (by decide)) ?_
        exact V.zret X hr hlk rfl ⟨(by simp only [sp_goesAtFirst, if_neg c_1, if_pos c_2, if_neg c_3]), (by simp only [sp_goesAtFirst_va, if_neg c_1, if_pos c_2, if_neg c_3]; exact gh7), (fun q n0_ => rfl)⟩ d_Statement_goesAtFirst_46
    · refine V.dec (P := sk = 2) (fun c_6 => ?_) (fun c_6 => ?_)
      · refine V.go (pc' := 47) (lv_tableIn X.1 X.2.1 d_Statement_goesAtFirst_4 (by rw [c_6]; decide) (by rw [c_6]; decide) (off := 43) (by rw [c_6]; rfl) (by decide)) ?_
        refine V.rd (pc' := 48) (fun hl => lv_aload_n X.1 X.2.1 d_Statement_goesAtFirst_47 rfl (lv_at hl 0 rfl)) ?_
        refine V.get (pc' := 51) X hK gh0 uw_Statement rfl 4 (by decide) (mcs wd_33) rfl d_Statement_goesAtFirst_48 rfl ?_
        refine V.br (pc' := 54) (tgt := 63) (P := saf = 0) (lv_if_eq X.1 X.2.1 d_Statement_goesAtFirst_51 (by decide)) (fun c_7 => ?_) (fun c_7 => ?_)
        · have i_8 := congrArg Int32.toInt c_7
          refine V.go (pc' := 64) (lv_iconst (v := 1) X.1 X.2.1 d_Statement_goesAtFirst_63 (by decide)) ?_
          refine V.go (pc' := 68) (lv_goto X.1 X.2.1 d_Statement_goesAtFirst_64 (by decide)) ?_
          exact V.zret X hr hlk rfl ⟨(by simp only [sp_goesAtFirst, if_neg c_1, if_neg c_2, if_pos c_6, if_pos c_7]), (by simp only [sp_goesAtFirst_va, if_neg c_1, if_neg c_2, if_pos c_6, if_pos c_7]; exact gh7), (fun q n0_ => rfl)⟩ d_Statement_goesAtFirst_68
        · have i_9 := mt Int32.toInt_inj.mp c_7
          refine V.rd (pc' := 55) (fun hl => lv_aload_n X.1 X.2.1 d_Statement_goesAtFirst_54 rfl (lv_at hl 0 rfl)) ?_
          refine V.go (pc' := 56) (lv_iconst (v := 1) X.1 X.2.1 d_Statement_goesAtFirst_55 (by decide)) ?_
          refine V.rd (pc' := 57) (fun hl => lv_aload_n X.1 X.2.1 d_Statement_goesAtFirst_56 rfl (lv_at hl 1 rfl)) ?_
          refine V.callV0 (pc' := 60) X hK (c_holds  (sm := sm) (acc := acc) (acv := acv) (alc := alc) (afv := afv) (als := als) (ce := ce) (va := va) (sf := sf) (sto := sto) (sk := sk) (sn := sn) (saf := saf) (sc := sc) (sl := sl) (kc := kc) (kv := kv) (f := f) (x := 1)   gh0 gh1 gh2 gh6 gh7  ) gh0 rfl (cwG (n := 2) X (mcs wd_43) (mcs wd_44) (mcs wd_45) (mcs wd_46) wd_47 (by decide +kernel) (by decide) (by decide)) rfl rfl (Nat.le_of_ble_eq_true rfl) d_Statement_goesAtFirst_57 ⟨by decide, by decide⟩ rfl (st1 := [.int (sp_holds kc kv f 1)]) rfl ?_
          refine V.bn (pc' := 63) (tgt := 67) (P := (sp_holds kc kv f 1) = 0) (lv_if_ne X.1 X.2.1 d_Statement_goesAtFirst_60 (by decide)) (fun c_11 => ?_) (fun c_11 => ?_)
          · have i_12 := congrArg Int32.toInt c_11
            refine V.go (pc' := 64) (lv_iconst (v := 1) X.1 X.2.1 d_Statement_goesAtFirst_63 (by decide)) ?_
            refine V.go (pc' := 68) (lv_goto X.1 X.2.1 d_Statement_goesAtFirst_64 (by decide)) ?_
            exact V.zret X hr hlk rfl ⟨(by simp only [sp_goesAtFirst, if_neg c_1, if_neg c_2, if_pos c_6, if_neg c_7, if_pos c_11]), (by simp only [sp_goesAtFirst_va, if_neg c_1, if_neg c_2, if_pos c_6, if_neg c_7, if_pos c_11]; exact gh7), (fun q n0_ => rfl)⟩ d_Statement_goesAtFirst_68
          · have i_13 := mt Int32.toInt_inj.mp c_11
            refine V.go (pc' := 68) (lv_iconst (v := 0) X.1 X.2.1 d_Statement_goesAtFirst_67 (by decide)) ?_
            exact V.zret X hr hlk rfl ⟨(by simp only [sp_goesAtFirst, if_neg c_1, if_neg c_2, if_pos c_6, if_neg c_7, if_neg c_11]), (by simp only [sp_goesAtFirst_va, if_neg c_1, if_neg c_2, if_pos c_6, if_neg c_7, if_neg c_11]; exact gh7), (fun q n0_ => rfl)⟩ d_Statement_goesAtFirst_68
      · refine V.go (pc' := 69) (lv_tableOut X.1 X.2.1 d_Statement_goesAtFirst_4 (by have t0 := lv_neT (a := 0) c_1 rfl; have t1 := lv_neT (a := 1) c_2 rfl; have t2 := lv_neT (a := 2) c_6 rfl; omega) (by decide)) ?_
        refine V.rd (pc' := 70) (fun hl => lv_aload_n X.1 X.2.1 d_Statement_goesAtFirst_69 rfl (lv_at hl 0 rfl)) ?_
        refine V.go (pc' := 71) (lv_iconst (v := 1) X.1 X.2.1 d_Statement_goesAtFirst_70 (by decide)) ?_
        refine V.rd (pc' := 72) (fun hl => lv_aload_n X.1 X.2.1 d_Statement_goesAtFirst_71 rfl (lv_at hl 1 rfl)) ?_
        refine V.callV (pc' := 75) X hK (c_takeFirstValues  (sm := sm) (acc := acc) (acv := acv) (alc := alc) (afv := afv) (als := als) (ce := ce) (va := va) (sf := sf) (sto := sto) (sk := sk) (sn := sn) (saf := saf) (sc := sc) (sl := sl) (lc := lc) (fv := fv) (f := f) (x := 1)   gh0 gh3 gh4 gh6 gh7  ) gh0 rfl (cwG (n := 2) X (mcs wd_56) (mcs wd_57) (mcs wd_58) (mcs wd_46) wd_59 (by decide +kernel) (by decide) (by decide)) rfl rfl (Nat.le_of_ble_eq_true rfl) d_Statement_goesAtFirst_72 ⟨by decide, by decide⟩ rfl (st1 := []) rfl (fun M_14 ⟨h_15, fr_16⟩ => ?_)
        have h_17 : M_14 sm = some (.inr (4, [.int sf, .int sto, .int sk, .int sn, .int saf, .int sc, .int sl, .ref acc, .ref acv, .ref alc, .ref afv, .ref als])) := (fr_16 _ (ne_k gh0 gh7 (i := 4) (j := 100016) rfl rfl (by decide))).trans gh0
        have h_18 : M_14 acc = some (.inl (cI, 7, .inl kc)) := (fr_16 _ (ne_k gh1 gh7 (i := 1007) (j := 100016) rfl rfl (by decide))).trans gh1
        have h_19 : M_14 acv = some (.inl (cL, 7, .inr (.inl kv))) := (fr_16 _ (ne_k gh2 gh7 (i := 100007) (j := 100016) rfl rfl (by decide))).trans gh2
        have h_20 : M_14 alc = some (.inl (cI, 7, .inl lc)) := (fr_16 _ (ne_k gh3 gh7 (i := 1007) (j := 100016) rfl rfl (by decide))).trans gh3
        have h_21 : M_14 afv = some (.inl (cL, 7, .inr (.inl fv))) := (fr_16 _ (ne_k gh4 gh7 (i := 100007) (j := 100016) rfl rfl (by decide))).trans gh4
        have h_22 : M_14 als = some (.inl (cL, 7, .inr (.inl lz))) := (fr_16 _ (ne_k gh5 gh7 (i := 100007) (j := 100016) rfl rfl (by decide))).trans gh5
        have h_23 : M_14 ce = some (.inr (0, [.ref va])) := (fr_16 _ (ne_k gh6 gh7 (i := 0) (j := 100016) rfl rfl (by decide))).trans gh6
        refine V.rd (pc' := 76) (fun hl => lv_aload_n X.1 X.2.1 d_Statement_goesAtFirst_75 rfl (lv_at hl 0 rfl)) ?_
        refine V.get (pc' := 79) X hK h_17 uw_Statement rfl 4 (by decide) (mcs wd_33) rfl d_Statement_goesAtFirst_76 rfl ?_
        refine V.br (pc' := 82) (tgt := 90) (P := saf = 0) (lv_if_eq X.1 X.2.1 d_Statement_goesAtFirst_79 (by decide)) (fun c_24 => ?_) (fun c_24 => ?_)
        · have i_25 := congrArg Int32.toInt c_24
          refine V.go (pc' := 91) (lv_iconst (v := 1) X.1 X.2.1 d_Statement_goesAtFirst_90 (by decide)) ?_
          refine V.go (pc' := 95) (lv_goto X.1 X.2.1 d_Statement_goesAtFirst_91 (by decide)) ?_
          exact V.zret X hr hlk rfl ⟨(by simp only [sp_goesAtFirst, if_neg c_1, if_neg c_2, if_neg c_6, if_pos c_24]), (by simp only [sp_goesAtFirst_va, if_neg c_1, if_neg c_2, if_neg c_6, if_pos c_24]; exact h_15), (fun q n0_ => (fr_16 q n0_))⟩ d_Statement_goesAtFirst_95
        · have i_26 := mt Int32.toInt_inj.mp c_24
          refine V.rd (pc' := 83) (fun hl => lv_aload_n X.1 X.2.1 d_Statement_goesAtFirst_82 rfl (lv_at hl 0 rfl)) ?_
          refine V.rd (pc' := 84) (fun hl => lv_aload_n X.1 X.2.1 d_Statement_goesAtFirst_83 rfl (lv_at hl 1 rfl)) ?_
          refine V.callV (pc' := 87) X hK (c_findsTurn  (sm := sm) (acc := acc) (acv := acv) (alc := alc) (afv := afv) (als := als) (ce := ce) (va := va) (sf := sf) (sto := sto) (sk := sk) (sn := sn) (saf := saf) (sc := sc) (sl := sl) (kc := kc) (kv := kv) (lc := lc) (fv := fv) (lz := lz) (f := sp_takeFirstValues_va sl lc fv f 1) (by first | assumption | omega)  h_17 h_18 h_19 h_20 h_21 h_22 h_23 h_15  ) h_17 rfl (cwG (n := 1) X (mcs wd_61) (mcs wd_62) (mcs wd_63) (mcs wd_46) wd_64 (by decide +kernel) (by decide) (by decide)) rfl rfl (Nat.le_of_ble_eq_true rfl) d_Statement_goesAtFirst_84 ⟨by decide, by decide⟩ rfl (st1 := [.int (lp_findsTurn sl kc kv lc fv lz 1001 0 (sp_takeFirstValues_va sl lc fv f 1))]) rfl (fun M_27 ⟨h_28, fr_29⟩ => ?_)
          have h_30 : M_27 sm = some (.inr (4, [.int sf, .int sto, .int sk, .int sn, .int saf, .int sc, .int sl, .ref acc, .ref acv, .ref alc, .ref afv, .ref als])) := (fr_29 _ (ne_k h_17 h_15 (i := 4) (j := 100016) rfl rfl (by decide))).trans h_17
          have h_31 : M_27 acc = some (.inl (cI, 7, .inl kc)) := (fr_29 _ (ne_k h_18 h_15 (i := 1007) (j := 100016) rfl rfl (by decide))).trans h_18
          have h_32 : M_27 acv = some (.inl (cL, 7, .inr (.inl kv))) := (fr_29 _ (ne_k h_19 h_15 (i := 100007) (j := 100016) rfl rfl (by decide))).trans h_19
          have h_33 : M_27 alc = some (.inl (cI, 7, .inl lc)) := (fr_29 _ (ne_k h_20 h_15 (i := 1007) (j := 100016) rfl rfl (by decide))).trans h_20
          have h_34 : M_27 afv = some (.inl (cL, 7, .inr (.inl fv))) := (fr_29 _ (ne_k h_21 h_15 (i := 100007) (j := 100016) rfl rfl (by decide))).trans h_21
          have h_35 : M_27 als = some (.inl (cL, 7, .inr (.inl lz))) := (fr_29 _ (ne_k h_22 h_15 (i := 100007) (j := 100016) rfl rfl (by decide))).trans h_22
          have h_36 : M_27 ce = some (.inr (0, [.ref va])) := (fr_29 _ (ne_k h_23 h_15 (i := 0) (j := 100016) rfl rfl (by decide))).trans h_23
          refine V.br (pc' := 90) (tgt := 94) (P := (lp_findsTurn sl kc kv lc fv lz 1001 0 (sp_takeFirstValues_va sl lc fv f 1)) = 0) (lv_if_eq X.1 X.2.1 d_Statement_goesAtFirst_87 (by decide)) (fun c_37 => ?_) (fun c_37 => ?_)
          · have i_38 := congrArg Int32.toInt c_37
            refine V.go (pc' := 95) (lv_iconst (v := 0) X.1 X.2.1 d_Statement_goesAtFirst_94 (by decide)) ?_
            exact V.zret X hr hlk rfl ⟨(by simp only [sp_goesAtFirst, if_neg c_1, if_neg c_2, if_neg c_6, if_neg c_24, if_pos c_37]), (by simp only [sp_goesAtFirst_va, if_neg c_1, if_neg c_2, if_neg c_6, if_neg c_24, if_pos c_37]; exact h_28), (fun q n0_ => (fr_29 q n0_).trans ((fr_16 q n0_)))⟩ d_Statement_goesAtFirst_95
          · have i_39 := mt Int32.toInt_inj.mp c_37
            refine V.go (pc' := 91) (lv_iconst (v := 1) X.1 X.2.1 d_Statement_goesAtFirst_90 (by decide)) ?_
            refine V.go (pc' := 95) (lv_goto X.1 X.2.1 d_Statement_goesAtFirst_91 (by decide)) ?_
            exact V.zret X hr hlk rfl ⟨(by simp only [sp_goesAtFirst, if_neg c_1, if_neg c_2, if_neg c_6, if_neg c_24, if_neg c_37]), (by simp only [sp_goesAtFirst_va, if_neg c_1, if_neg c_2, if_neg c_6, if_neg c_24, if_neg c_37]; exact h_28), (fun q n0_ => (fr_29 q n0_).trans ((fr_16 q n0_)))⟩ d_Statement_goesAtFirst_95

theorem d_Statement_goesOnceMore_0 : decode prog_6_method_6_code 0 = .ok (.aload_n 0, 1) := by decide +kernel
theorem d_Statement_goesOnceMore_1 : decode prog_6_method_6_code 1 = .ok (.getfield 35, 3) := by decide +kernel
theorem d_Statement_goesOnceMore_4 : decode prog_6_method_6_code 4 = .ok (.tableswitch 59 0 2 #[28, 30, 44], 28) := by decide +kernel
theorem d_Statement_goesOnceMore_32 : decode prog_6_method_6_code 32 = .ok (.iconst 0, 1) := by decide +kernel
theorem d_Statement_goesOnceMore_33 : decode prog_6_method_6_code 33 = .ok (.ireturn, 1) := by decide +kernel
theorem d_Statement_goesOnceMore_34 : decode prog_6_method_6_code 34 = .ok (.iload_n 1, 1) := by decide +kernel
theorem d_Statement_goesOnceMore_35 : decode prog_6_method_6_code 35 = .ok (.aload_n 0, 1) := by decide +kernel
theorem d_Statement_goesOnceMore_36 : decode prog_6_method_6_code 36 = .ok (.getfield 38, 3) := by decide +kernel
theorem d_Statement_goesOnceMore_39 : decode prog_6_method_6_code 39 = .ok (.if_icmp .ge 7, 3) := by decide +kernel
theorem d_Statement_goesOnceMore_42 : decode prog_6_method_6_code 42 = .ok (.iconst 1, 1) := by decide +kernel
theorem d_Statement_goesOnceMore_43 : decode prog_6_method_6_code 43 = .ok (.goto 4, 3) := by decide +kernel
theorem d_Statement_goesOnceMore_46 : decode prog_6_method_6_code 46 = .ok (.iconst 0, 1) := by decide +kernel
theorem d_Statement_goesOnceMore_47 : decode prog_6_method_6_code 47 = .ok (.ireturn, 1) := by decide +kernel
theorem d_Statement_goesOnceMore_48 : decode prog_6_method_6_code 48 = .ok (.aload_n 0, 1) := by decide +kernel
theorem d_Statement_goesOnceMore_49 : decode prog_6_method_6_code 49 = .ok (.iconst 1, 1) := by decide +kernel
theorem d_Statement_goesOnceMore_50 : decode prog_6_method_6_code 50 = .ok (.aload_n 2, 1) := by decide +kernel
theorem d_Statement_goesOnceMore_51 : decode prog_6_method_6_code 51 = .ok (.invokevirtual 57, 3) := by decide +kernel
theorem d_Statement_goesOnceMore_54 : decode prog_6_method_6_code 54 = .ok (.ifCond .ne 7, 3) := by decide +kernel
theorem d_Statement_goesOnceMore_57 : decode prog_6_method_6_code 57 = .ok (.iconst 1, 1) := by decide +kernel
theorem d_Statement_goesOnceMore_58 : decode prog_6_method_6_code 58 = .ok (.goto 4, 3) := by decide +kernel
theorem d_Statement_goesOnceMore_61 : decode prog_6_method_6_code 61 = .ok (.iconst 0, 1) := by decide +kernel
theorem d_Statement_goesOnceMore_62 : decode prog_6_method_6_code 62 = .ok (.ireturn, 1) := by decide +kernel
theorem d_Statement_goesOnceMore_63 : decode prog_6_method_6_code 63 = .ok (.aload_n 0, 1) := by decide +kernel
theorem d_Statement_goesOnceMore_64 : decode prog_6_method_6_code 64 = .ok (.getfield 44, 3) := by decide +kernel
theorem d_Statement_goesOnceMore_67 : decode prog_6_method_6_code 67 = .ok (.ifCond .ne 9, 3) := by decide +kernel
theorem d_Statement_goesOnceMore_70 : decode prog_6_method_6_code 70 = .ok (.aload_n 0, 1) := by decide +kernel
theorem d_Statement_goesOnceMore_71 : decode prog_6_method_6_code 71 = .ok (.aload_n 2, 1) := by decide +kernel
theorem d_Statement_goesOnceMore_72 : decode prog_6_method_6_code 72 = .ok (.invokevirtual 69, 3) := by decide +kernel
theorem d_Statement_goesOnceMore_75 : decode prog_6_method_6_code 75 = .ok (.ireturn, 1) := by decide +kernel
theorem d_Statement_goesOnceMore_76 : decode prog_6_method_6_code 76 = .ok (.aload_n 0, 1) := by decide +kernel
theorem d_Statement_goesOnceMore_77 : decode prog_6_method_6_code 77 = .ok (.aload_n 0, 1) := by decide +kernel
theorem d_Statement_goesOnceMore_78 : decode prog_6_method_6_code 78 = .ok (.getfield 48, 3) := by decide +kernel
theorem d_Statement_goesOnceMore_81 : decode prog_6_method_6_code 81 = .ok (.aload_n 2, 1) := by decide +kernel
theorem d_Statement_goesOnceMore_82 : decode prog_6_method_6_code 82 = .ok (.invokevirtual 72, 3) := by decide +kernel
theorem d_Statement_goesOnceMore_85 : decode prog_6_method_6_code 85 = .ok (.aload_n 0, 1) := by decide +kernel
theorem d_Statement_goesOnceMore_86 : decode prog_6_method_6_code 86 = .ok (.aload_n 2, 1) := by decide +kernel
theorem d_Statement_goesOnceMore_87 : decode prog_6_method_6_code 87 = .ok (.invokevirtual 65, 3) := by decide +kernel
theorem d_Statement_goesOnceMore_90 : decode prog_6_method_6_code 90 = .ok (.ireturn, 1) := by decide +kernel

def sp_goesOnceMore (sk : Int32) (sn : Int32) (saf : Int32) (sl : Int32) (kc : Nat → Int32) (kv : Nat → Int64) (lc : Nat → Int32) (fv : Nat → Int64) (lz : Nat → Int64) (f : Nat → Int64) (x : Int32) : Int32 := if sk = 0 then 0 else if sk = 1 then (if sn ≤ x then 0 else 1) else if sk = 2 then (if (sp_holds kc kv f 1) = 0 then 1 else 0) else if saf = 0 then lp_stepsLast kc kv f 9 sl else lp_findsTurn sl kc kv lc fv lz 1001 0 (sp_takeStep_va lc lz f sl)
def sp_goesOnceMore_va (sk : Int32) (saf : Int32) (sl : Int32) (kc : Nat → Int32) (kv : Nat → Int64) (lc : Nat → Int32) (fv : Nat → Int64) (lz : Nat → Int64) (f : Nat → Int64) : Nat → Int64 := if sk = 0 then f else if sk = 1 then f else if sk = 2 then f else if saf = 0 then lp_stepsLast_va sl kc kv lc fv lz f 9 sl else lp_findsTurn_va sl kc kv lc fv lz 1001 0 (sp_takeStep_va lc lz f sl)
set_option maxHeartbeats 4000000 in
set_option maxRecDepth 100000 in
theorem c_goesOnceMore {l : Launch} {H0 : Heap} {D : va_G} {cI cL cQ cB : ClassId} {M : mp} {sm acc acv alc afv als ce va : Nat} {sf : Int32} {sto : Int32} {sk : Int32} {sn : Int32} {saf : Int32} {sc : Int32} {sl : Int32} {kc : Nat → Int32} {kv : Nat → Int64} {lc : Nat → Int32} {fv : Nat → Int64} {lz : Nat → Int64} {f : Nat → Int64} {x : Int32} (hsl : sl.toInt ≤ 7) (gh0 : M sm = some (.inr (4, [.int sf, .int sto, .int sk, .int sn, .int saf, .int sc, .int sl, .ref acc, .ref acv, .ref alc, .ref afv, .ref als]))) (gh1 : M acc = some (.inl (cI, 7, .inl kc))) (gh2 : M acv = some (.inl (cL, 7, .inr (.inl kv)))) (gh3 : M alc = some (.inl (cI, 7, .inl lc))) (gh4 : M afv = some (.inl (cL, 7, .inr (.inl fv)))) (gh5 : M als = some (.inl (cL, 7, .inr (.inl lz)))) (gh6 : M ce = some (.inr (0, [.ref va]))) (gh7 : M va = some (.inl (cL, 16, .inr (.inl f)))) : MC l H0 D cls7 (tysOf cI cL cQ cB) NW ({ cls := "PerformRanges$Statement", name := "goesOnceMore", desc := "(ILPerformRanges$Cells;)Z" } : Jvm.MethodName) (Cond.code ({ cls := "PerformRanges$Statement", name := "goesOnceMore", desc := "(ILPerformRanges$Cells;)Z" } : Jvm.MethodName) prog_6_method_6_code 3 (Option.some Jvm.ClassFile.FieldType.boolean) :: GW) ({ frames := 4, cells := 0, slots := 0, locals := 88 }) [.ref sm, .int x, .ref ce] M (fun v M' => v = some (.int (sp_goesOnceMore sk sn saf sl kc kv lc fv lz f x)) ∧ M' va = some (.inl (cL, 16, .inr (.inl (sp_goesOnceMore_va sk saf sl kc kv lc fv lz f)))) ∧ ∀ q, q ≠ va → M' q = M q) := by
  refine MC.of (cc := prog_6_method_6_code) (nL := 3) (ret := (Option.some Jvm.ClassFile.FieldType.boolean)) (lv := [(0, .ref sm), (1, .int x), (2, .ref ce)]) (by decide) rfl (Nat.le_of_ble_eq_true rfl) rfl ?_
  intro p e s m below meth c X hr hlk hnm hK
  have k0 : (0 : Int32).toInt = 0 := rfl
  have k1 : (1 : Int32).toInt = 1 := rfl
  refine V.rd (pc' := 1) (fun hl => lv_aload_n X.1 X.2.1 d_Statement_goesOnceMore_0 rfl (lv_at hl 0 rfl)) ?_
  refine V.get (pc' := 4) X hK gh0 uw_Statement rfl 2 (by decide) (mcs wd_17) rfl d_Statement_goesOnceMore_1 rfl ?_
  refine V.dec (P := sk = 0) (fun c_1 => ?_) (fun c_1 => ?_)
  · refine V.go (pc' := 32) (lv_tableIn X.1 X.2.1 d_Statement_goesOnceMore_4 (by rw [c_1]; decide) (by rw [c_1]; decide) (off := 28) (by rw [c_1]; rfl) (by decide)) ?_
    refine V.go (pc' := 33) (lv_iconst (v := 0) X.1 X.2.1 d_Statement_goesOnceMore_32 (by decide)) ?_
    exact V.zret X hr hlk rfl ⟨(by simp only [sp_goesOnceMore, if_pos c_1]), (by simp only [sp_goesOnceMore_va, if_pos c_1]; exact gh7), (fun q n0_ => rfl)⟩ d_Statement_goesOnceMore_33
  · refine V.dec (P := sk = 1) (fun c_2 => ?_) (fun c_2 => ?_)
    · refine V.go (pc' := 34) (lv_tableIn X.1 X.2.1 d_Statement_goesOnceMore_4 (by rw [c_2]; decide) (by rw [c_2]; decide) (off := 30) (by rw [c_2]; rfl) (by decide)) ?_
      refine V.rd (pc' := 35) (fun hl => lv_iload_n X.1 X.2.1 d_Statement_goesOnceMore_34 rfl (lv_at hl 1 rfl)) ?_
      refine V.rd (pc' := 36) (fun hl => lv_aload_n X.1 X.2.1 d_Statement_goesOnceMore_35 rfl (lv_at hl 0 rfl)) ?_
      refine V.get (pc' := 39) X hK gh0 uw_Statement rfl 3 (by decide) (mcs wd_60) rfl d_Statement_goesOnceMore_36 rfl ?_
      refine V.br (pc' := 42) (tgt := 46) (P := sn ≤ x) (lv_icmp_ge X.1 X.2.1 d_Statement_goesOnceMore_39 (by decide)) (fun c_3 => ?_) (fun c_3 => ?_)
      · have i_4 := Int32.le_iff_toInt_le.mp c_3
        refine V.go (pc' := 47) (lv_iconst (v := 0) X.1 X.2.1 d_Statement_goesOnceMore_46 (by decide)) ?_
        exact V.zret X hr hlk rfl ⟨(by simp only [sp_goesOnceMore, if_neg c_1, if_pos c_2, if_pos c_3]), (by simp only [sp_goesOnceMore_va, if_neg c_1, if_pos c_2, if_pos c_3]; exact gh7), (fun q n0_ => rfl)⟩ d_Statement_goesOnceMore_47
      · have i_5 := mt Int32.le_iff_toInt_le.mpr c_3
        refine V.go (pc' := 43) (lv_iconst (v := 1) X.1 X.2.1 d_Statement_goesOnceMore_42 (by decide)) ?_
        refine V.go (pc' := 47) (lv_goto X.1 X.2.1 d_Statement_goesOnceMore_43 (by decide)) ?_
        exact V.zret X hr hlk rfl ⟨(by simp only [sp_goesOnceMore, if_neg c_1, if_pos c_2, if_neg c_3]), (by simp only [sp_goesOnceMore_va, if_neg c_1, if_pos c_2, if_neg c_3]; exact gh7), (fun q n0_ => rfl)⟩ d_Statement_goesOnceMore_47
    · refine V.dec (P := sk = 2) (fun c_6 => ?_) (fun c_6 => ?_)
      · refine V.go (pc' := 48) (lv_tableIn X.1 X.2.1 d_Statement_goesOnceMore_4 (by rw [c_6]; decide) (by rw [c_6]; decide) (off := 44) (by rw [c_6]; rfl) (by decide)) ?_
        refine V.rd (pc' := 49) (fun hl => lv_aload_n X.1 X.2.1 d_Statement_goesOnceMore_48 rfl (lv_at hl 0 rfl)) ?_
        refine V.go (pc' := 50) (lv_iconst (v := 1) X.1 X.2.1 d_Statement_goesOnceMore_49 (by decide)) ?_
        refine V.rd (pc' := 51) (fun hl => lv_aload_n X.1 X.2.1 d_Statement_goesOnceMore_50 rfl (lv_at hl 2 rfl)) ?_
        refine V.callV0 (pc' := 54) X hK (c_holds  (sm := sm) (acc := acc) (acv := acv) (alc := alc) (afv := afv) (als := als) (ce := ce) (va := va) (sf := sf) (sto := sto) (sk := sk) (sn := sn) (saf := saf) (sc := sc) (sl := sl) (kc := kc) (kv := kv) (f := f) (x := 1)   gh0 gh1 gh2 gh6 gh7  ) gh0 rfl (cwG (n := 2) X (mcs wd_43) (mcs wd_44) (mcs wd_45) (mcs wd_46) wd_47 (by decide +kernel) (by decide) (by decide)) rfl rfl (Nat.le_of_ble_eq_true rfl) d_Statement_goesOnceMore_51 ⟨by decide, by decide⟩ rfl (st1 := [.int (sp_holds kc kv f 1)]) rfl ?_
        refine V.bn (pc' := 57) (tgt := 61) (P := (sp_holds kc kv f 1) = 0) (lv_if_ne X.1 X.2.1 d_Statement_goesOnceMore_54 (by decide)) (fun c_8 => ?_) (fun c_8 => ?_)
        · have i_9 := congrArg Int32.toInt c_8
          refine V.go (pc' := 58) (lv_iconst (v := 1) X.1 X.2.1 d_Statement_goesOnceMore_57 (by decide)) ?_
          refine V.go (pc' := 62) (lv_goto X.1 X.2.1 d_Statement_goesOnceMore_58 (by decide)) ?_
          exact V.zret X hr hlk rfl ⟨(by simp only [sp_goesOnceMore, if_neg c_1, if_neg c_2, if_pos c_6, if_pos c_8]), (by simp only [sp_goesOnceMore_va, if_neg c_1, if_neg c_2, if_pos c_6, if_pos c_8]; exact gh7), (fun q n0_ => rfl)⟩ d_Statement_goesOnceMore_62
        · have i_10 := mt Int32.toInt_inj.mp c_8
          refine V.go (pc' := 62) (lv_iconst (v := 0) X.1 X.2.1 d_Statement_goesOnceMore_61 (by decide)) ?_
          exact V.zret X hr hlk rfl ⟨(by simp only [sp_goesOnceMore, if_neg c_1, if_neg c_2, if_pos c_6, if_neg c_8]), (by simp only [sp_goesOnceMore_va, if_neg c_1, if_neg c_2, if_pos c_6, if_neg c_8]; exact gh7), (fun q n0_ => rfl)⟩ d_Statement_goesOnceMore_62
      · refine V.go (pc' := 63) (lv_tableOut X.1 X.2.1 d_Statement_goesOnceMore_4 (by have t0 := lv_neT (a := 0) c_1 rfl; have t1 := lv_neT (a := 1) c_2 rfl; have t2 := lv_neT (a := 2) c_6 rfl; omega) (by decide)) ?_
        refine V.rd (pc' := 64) (fun hl => lv_aload_n X.1 X.2.1 d_Statement_goesOnceMore_63 rfl (lv_at hl 0 rfl)) ?_
        refine V.get (pc' := 67) X hK gh0 uw_Statement rfl 4 (by decide) (mcs wd_33) rfl d_Statement_goesOnceMore_64 rfl ?_
        refine V.bn (pc' := 70) (tgt := 76) (P := saf = 0) (lv_if_ne X.1 X.2.1 d_Statement_goesOnceMore_67 (by decide)) (fun c_11 => ?_) (fun c_11 => ?_)
        · have i_12 := congrArg Int32.toInt c_11
          refine V.rd (pc' := 71) (fun hl => lv_aload_n X.1 X.2.1 d_Statement_goesOnceMore_70 rfl (lv_at hl 0 rfl)) ?_
          refine V.rd (pc' := 72) (fun hl => lv_aload_n X.1 X.2.1 d_Statement_goesOnceMore_71 rfl (lv_at hl 2 rfl)) ?_
          refine V.callV (pc' := 75) X hK (c_stepsLast  (sm := sm) (acc := acc) (acv := acv) (alc := alc) (afv := afv) (als := als) (ce := ce) (va := va) (sf := sf) (sto := sto) (sk := sk) (sn := sn) (saf := saf) (sc := sc) (sl := sl) (kc := kc) (kv := kv) (lc := lc) (fv := fv) (lz := lz) (f := f) (by first | assumption | omega)  gh0 gh1 gh2 gh3 gh4 gh5 gh6 gh7  ) gh0 rfl (cwG (n := 1) X (mcs wd_65) (mcs wd_66) (mcs wd_67) (mcs wd_46) wd_68 (by decide +kernel) (by decide) (by decide)) rfl rfl (Nat.le_of_ble_eq_true rfl) d_Statement_goesOnceMore_72 ⟨by decide, by decide⟩ rfl (st1 := [.int (lp_stepsLast kc kv f 9 sl)]) rfl (fun M_13 ⟨h_14, fr_15⟩ => ?_)
          have h_16 : M_13 sm = some (.inr (4, [.int sf, .int sto, .int sk, .int sn, .int saf, .int sc, .int sl, .ref acc, .ref acv, .ref alc, .ref afv, .ref als])) := (fr_15 _ (ne_k gh0 gh7 (i := 4) (j := 100016) rfl rfl (by decide))).trans gh0
          have h_17 : M_13 acc = some (.inl (cI, 7, .inl kc)) := (fr_15 _ (ne_k gh1 gh7 (i := 1007) (j := 100016) rfl rfl (by decide))).trans gh1
          have h_18 : M_13 acv = some (.inl (cL, 7, .inr (.inl kv))) := (fr_15 _ (ne_k gh2 gh7 (i := 100007) (j := 100016) rfl rfl (by decide))).trans gh2
          have h_19 : M_13 alc = some (.inl (cI, 7, .inl lc)) := (fr_15 _ (ne_k gh3 gh7 (i := 1007) (j := 100016) rfl rfl (by decide))).trans gh3
          have h_20 : M_13 afv = some (.inl (cL, 7, .inr (.inl fv))) := (fr_15 _ (ne_k gh4 gh7 (i := 100007) (j := 100016) rfl rfl (by decide))).trans gh4
          have h_21 : M_13 als = some (.inl (cL, 7, .inr (.inl lz))) := (fr_15 _ (ne_k gh5 gh7 (i := 100007) (j := 100016) rfl rfl (by decide))).trans gh5
          have h_22 : M_13 ce = some (.inr (0, [.ref va])) := (fr_15 _ (ne_k gh6 gh7 (i := 0) (j := 100016) rfl rfl (by decide))).trans gh6
          exact V.zret X hr hlk (nb_ok (b_stepsLast _ _)) ⟨(by simp only [sp_goesOnceMore, if_neg c_1, if_neg c_2, if_neg c_6, if_pos c_11]), (by simp only [sp_goesOnceMore_va, if_neg c_1, if_neg c_2, if_neg c_6, if_pos c_11]; exact h_14), (fun q n0_ => (fr_15 q n0_))⟩ d_Statement_goesOnceMore_75
        · have i_23 := mt Int32.toInt_inj.mp c_11
          refine V.rd (pc' := 77) (fun hl => lv_aload_n X.1 X.2.1 d_Statement_goesOnceMore_76 rfl (lv_at hl 0 rfl)) ?_
          refine V.rd (pc' := 78) (fun hl => lv_aload_n X.1 X.2.1 d_Statement_goesOnceMore_77 rfl (lv_at hl 0 rfl)) ?_
          refine V.get (pc' := 81) X hK gh0 uw_Statement rfl 6 (by decide) (mcs wd_19) rfl d_Statement_goesOnceMore_78 rfl ?_
          refine V.rd (pc' := 82) (fun hl => lv_aload_n X.1 X.2.1 d_Statement_goesOnceMore_81 rfl (lv_at hl 2 rfl)) ?_
          refine V.callV (pc' := 85) X hK (c_takeStep  (sm := sm) (acc := acc) (acv := acv) (alc := alc) (afv := afv) (als := als) (ce := ce) (va := va) (sf := sf) (sto := sto) (sk := sk) (sn := sn) (saf := saf) (sc := sc) (sl := sl) (lc := lc) (lz := lz) (f := f) (x := sl)   gh0 gh3 gh5 gh6 gh7  ) gh0 rfl (cwG (n := 2) X (mcs wd_52) (mcs wd_53) (mcs wd_54) (mcs wd_46) wd_55 (by decide +kernel) (by decide) (by decide)) rfl rfl (Nat.le_of_ble_eq_true rfl) d_Statement_goesOnceMore_82 ⟨by decide, by decide⟩ rfl (st1 := []) rfl (fun M_24 ⟨h_25, fr_26⟩ => ?_)
          have h_27 : M_24 sm = some (.inr (4, [.int sf, .int sto, .int sk, .int sn, .int saf, .int sc, .int sl, .ref acc, .ref acv, .ref alc, .ref afv, .ref als])) := (fr_26 _ (ne_k gh0 gh7 (i := 4) (j := 100016) rfl rfl (by decide))).trans gh0
          have h_28 : M_24 acc = some (.inl (cI, 7, .inl kc)) := (fr_26 _ (ne_k gh1 gh7 (i := 1007) (j := 100016) rfl rfl (by decide))).trans gh1
          have h_29 : M_24 acv = some (.inl (cL, 7, .inr (.inl kv))) := (fr_26 _ (ne_k gh2 gh7 (i := 100007) (j := 100016) rfl rfl (by decide))).trans gh2
          have h_30 : M_24 alc = some (.inl (cI, 7, .inl lc)) := (fr_26 _ (ne_k gh3 gh7 (i := 1007) (j := 100016) rfl rfl (by decide))).trans gh3
          have h_31 : M_24 afv = some (.inl (cL, 7, .inr (.inl fv))) := (fr_26 _ (ne_k gh4 gh7 (i := 100007) (j := 100016) rfl rfl (by decide))).trans gh4
          have h_32 : M_24 als = some (.inl (cL, 7, .inr (.inl lz))) := (fr_26 _ (ne_k gh5 gh7 (i := 100007) (j := 100016) rfl rfl (by decide))).trans gh5
          have h_33 : M_24 ce = some (.inr (0, [.ref va])) := (fr_26 _ (ne_k gh6 gh7 (i := 0) (j := 100016) rfl rfl (by decide))).trans gh6
          refine V.rd (pc' := 86) (fun hl => lv_aload_n X.1 X.2.1 d_Statement_goesOnceMore_85 rfl (lv_at hl 0 rfl)) ?_
          refine V.rd (pc' := 87) (fun hl => lv_aload_n X.1 X.2.1 d_Statement_goesOnceMore_86 rfl (lv_at hl 2 rfl)) ?_
          refine V.callV (pc' := 90) X hK (c_findsTurn  (sm := sm) (acc := acc) (acv := acv) (alc := alc) (afv := afv) (als := als) (ce := ce) (va := va) (sf := sf) (sto := sto) (sk := sk) (sn := sn) (saf := saf) (sc := sc) (sl := sl) (kc := kc) (kv := kv) (lc := lc) (fv := fv) (lz := lz) (f := sp_takeStep_va lc lz f sl) (by first | assumption | omega)  h_27 h_28 h_29 h_30 h_31 h_32 h_33 h_25  ) h_27 rfl (cwG (n := 1) X (mcs wd_61) (mcs wd_62) (mcs wd_63) (mcs wd_46) wd_64 (by decide +kernel) (by decide) (by decide)) rfl rfl (Nat.le_of_ble_eq_true rfl) d_Statement_goesOnceMore_87 ⟨by decide, by decide⟩ rfl (st1 := [.int (lp_findsTurn sl kc kv lc fv lz 1001 0 (sp_takeStep_va lc lz f sl))]) rfl (fun M_34 ⟨h_35, fr_36⟩ => ?_)
          have h_37 : M_34 sm = some (.inr (4, [.int sf, .int sto, .int sk, .int sn, .int saf, .int sc, .int sl, .ref acc, .ref acv, .ref alc, .ref afv, .ref als])) := (fr_36 _ (ne_k h_27 h_25 (i := 4) (j := 100016) rfl rfl (by decide))).trans h_27
          have h_38 : M_34 acc = some (.inl (cI, 7, .inl kc)) := (fr_36 _ (ne_k h_28 h_25 (i := 1007) (j := 100016) rfl rfl (by decide))).trans h_28
          have h_39 : M_34 acv = some (.inl (cL, 7, .inr (.inl kv))) := (fr_36 _ (ne_k h_29 h_25 (i := 100007) (j := 100016) rfl rfl (by decide))).trans h_29
          have h_40 : M_34 alc = some (.inl (cI, 7, .inl lc)) := (fr_36 _ (ne_k h_30 h_25 (i := 1007) (j := 100016) rfl rfl (by decide))).trans h_30
          have h_41 : M_34 afv = some (.inl (cL, 7, .inr (.inl fv))) := (fr_36 _ (ne_k h_31 h_25 (i := 100007) (j := 100016) rfl rfl (by decide))).trans h_31
          have h_42 : M_34 als = some (.inl (cL, 7, .inr (.inl lz))) := (fr_36 _ (ne_k h_32 h_25 (i := 100007) (j := 100016) rfl rfl (by decide))).trans h_32
          have h_43 : M_34 ce = some (.inr (0, [.ref va])) := (fr_36 _ (ne_k h_33 h_25 (i := 0) (j := 100016) rfl rfl (by decide))).trans h_33
          exact V.zret X hr hlk (nb_ok (b_findsTurn _ _ _)) ⟨(by simp only [sp_goesOnceMore, if_neg c_1, if_neg c_2, if_neg c_6, if_neg c_11]), (by simp only [sp_goesOnceMore_va, if_neg c_1, if_neg c_2, if_neg c_6, if_neg c_11]; exact h_35), (fun q n0_ => (fr_36 q n0_).trans ((fr_26 q n0_)))⟩ d_Statement_goesOnceMore_90

theorem d_Cells_copyFrom_0 : decode prog_2_method_5_code 0 = .ok (.iconst 0, 1) := by decide +kernel
theorem d_Cells_copyFrom_1 : decode prog_2_method_5_code 1 = .ok (.istore_n 2, 1) := by decide +kernel
theorem d_Cells_copyFrom_2 : decode prog_2_method_5_code 2 = .ok (.iload_n 2, 1) := by decide +kernel
theorem d_Cells_copyFrom_3 : decode prog_2_method_5_code 3 = .ok (.bipush 16, 2) := by decide +kernel
theorem d_Cells_copyFrom_5 : decode prog_2_method_5_code 5 = .ok (.if_icmp .ge 21, 3) := by decide +kernel
theorem d_Cells_copyFrom_8 : decode prog_2_method_5_code 8 = .ok (.aload_n 0, 1) := by decide +kernel
theorem d_Cells_copyFrom_9 : decode prog_2_method_5_code 9 = .ok (.getfield 9, 3) := by decide +kernel
theorem d_Cells_copyFrom_12 : decode prog_2_method_5_code 12 = .ok (.iload_n 2, 1) := by decide +kernel
theorem d_Cells_copyFrom_13 : decode prog_2_method_5_code 13 = .ok (.aload_n 1, 1) := by decide +kernel
theorem d_Cells_copyFrom_14 : decode prog_2_method_5_code 14 = .ok (.getfield 9, 3) := by decide +kernel
theorem d_Cells_copyFrom_17 : decode prog_2_method_5_code 17 = .ok (.iload_n 2, 1) := by decide +kernel
theorem d_Cells_copyFrom_18 : decode prog_2_method_5_code 18 = .ok (.laload, 1) := by decide +kernel
theorem d_Cells_copyFrom_19 : decode prog_2_method_5_code 19 = .ok (.lastore, 1) := by decide +kernel
theorem d_Cells_copyFrom_20 : decode prog_2_method_5_code 20 = .ok (.iinc 2 1, 3) := by decide +kernel
theorem d_Cells_copyFrom_23 : decode prog_2_method_5_code 23 = .ok (.goto (-21), 3) := by decide +kernel
theorem d_Cells_copyFrom_26 : decode prog_2_method_5_code 26 = .ok (.return_, 1) := by decide +kernel

def lp_Cells_copyFrom_va (g2 : Nat → Int64) : Nat → Int32 → (Nat → Int64) → Nat → Int64
  | 0, _, g => g
  | n_ + 1, k, g => if 16 ≤ k then g else lp_Cells_copyFrom_va g2 n_ (k + 1) (vp_updL g k.toNatClampNeg (g2 k.toNatClampNeg))
set_option maxHeartbeats 4000000 in
set_option maxRecDepth 100000 in
theorem c_Cells_copyFrom {l : Launch} {H0 : Heap} {D : va_G} {cI cL cQ cB : ClassId} {M : mp} {ce va ce2 va2 : Nat} {f : Nat → Int64} {g2 : Nat → Int64} (ne0 : ce ≠ ce2) (ne1 : va ≠ va2) (gh0 : M ce = some (.inr (0, [.ref va]))) (gh1 : M va = some (.inl (cL, 16, .inr (.inl f)))) (gh2 : M ce2 = some (.inr (0, [.ref va2]))) (gh3 : M va2 = some (.inl (cL, 16, .inr (.inl g2)))) : MC l H0 D cls7 (tysOf cI cL cQ cB) NW ({ cls := "PerformRanges$Cells", name := "copyFrom", desc := "(LPerformRanges$Cells;)V" } : Jvm.MethodName) (Cond.code ({ cls := "PerformRanges$Cells", name := "copyFrom", desc := "(LPerformRanges$Cells;)V" } : Jvm.MethodName) prog_2_method_5_code 3 (Option.none : Option Jvm.ClassFile.FieldType) :: GW) ({ frames := 0, cells := 0, slots := 0, locals := 0 }) [.ref ce, .ref ce2] M (fun v M' => v = none ∧ M' va = some (.inl (cL, 16, .inr (.inl (lp_Cells_copyFrom_va g2 17 0 f)))) ∧ ∀ q, q ≠ va → M' q = M q) := by
  refine MC.of (cc := prog_2_method_5_code) (nL := 3) (ret := (Option.none : Option Jvm.ClassFile.FieldType)) (lv := [(0, .ref ce), (1, .ref ce2)]) (by decide) rfl (Nat.le_of_ble_eq_true rfl) rfl ?_
  intro p e s m below meth c X hr hlk hnm hK
  have k0 : (0 : Int32).toInt = 0 := rfl
  have k16 : (16 : Int32).toInt = 16 := rfl
  refine V.go (pc' := 1) (lv_iconst (v := 0) X.1 X.2.1 d_Cells_copyFrom_0 (by decide)) ?_
  refine V.wr (pc' := 2) (lv' := [(2, .int 0), (0, .ref ce), (1, .ref ce2)]) (fun hl => lv_istore_n X.1 X.2.1 d_Cells_copyFrom_1 rfl hl (by decide) rfl) ?_
  obtain ⟨ze_11, hze_11⟩ : ∃ z, z = lp_Cells_copyFrom_va g2 17 0 f := ⟨_, rfl⟩
  refine V.pick [1, 2, 0] rfl ?_
  refine V.ind (α := Unit) (x0 := ()) (n0 := 17) (I := fun nn_ _ M' lv' => ∃ (k : Int32) (g : Nat → Int64), lv' = [(0, .ref ce), (1, .ref ce2), (2, .int k)] ∧ M' ce = some (.inr (0, [.ref va])) ∧ M' va = some (.inl (cL, 16, .inr (.inl g))) ∧ M' ce2 = some (.inr (0, [.ref va2])) ∧ M' va2 = some (.inl (cL, 16, .inr (.inl g2))) ∧ (∀ q, q ≠ va → M' q = M q) ∧ (0 ≤ k.toInt ∧ k.toInt ≤ 16) ∧ (k.toInt + nn_ = 17) ∧ lp_Cells_copyFrom_va g2 nn_ k g = ze_11) ⟨0, f, rfl, gh0, gh1, gh2, gh3, (fun q _ => rfl), (by omega), (by omega), hze_11.symm⟩ (fun n_6 ih_7 _ M_5 lv_8 hI_9 => ?_)
  obtain ⟨k, g, rfl, h_1, h_2, h_3, h_4, fr_10, j1, j2, e_11⟩ := hI_9
  obtain ⟨n_6, rfl⟩ : ∃ j, n_6 = j + 1 := ⟨n_6 - 1, by omega⟩
  refine V.rd (pc' := 3) (fun hl => lv_iload_n X.1 X.2.1 d_Cells_copyFrom_2 rfl (lv_at hl 2 rfl)) ?_
  refine V.go (pc' := 5) (lv_bipush (v := 16) X.1 X.2.1 d_Cells_copyFrom_3 (by decide)) ?_
  refine V.br (pc' := 8) (tgt := 26) (P := 16 ≤ k) (lv_icmp_ge X.1 X.2.1 d_Cells_copyFrom_5 (by decide)) (fun c_12 => ?_) (fun c_12 => ?_)
  · have i_13 := Int32.le_iff_toInt_le.mp c_12
    rw [lp_Cells_copyFrom_va] at e_11
    simp only [if_pos c_12] at e_11
    exact V.vret X hr hlk ⟨rfl, (by rw [← hze_11, ← e_11]; exact h_2), (fun q n0_ => (fr_10 q n0_))⟩ d_Cells_copyFrom_26
  · have i_14 := mt Int32.le_iff_toInt_le.mpr c_12
    refine V.rd (pc' := 9) (fun hl => lv_aload_n X.1 X.2.1 d_Cells_copyFrom_8 rfl (lv_at hl 0 rfl)) ?_
    refine V.get (pc' := 12) X hK h_1 uw_Cells rfl 0 (by decide) (mcs wd_0) rfl d_Cells_copyFrom_9 rfl ?_
    refine V.rd (pc' := 13) (fun hl => lv_iload_n X.1 X.2.1 d_Cells_copyFrom_12 rfl (lv_at hl 2 rfl)) ?_
    refine V.rd (pc' := 14) (fun hl => lv_aload_n X.1 X.2.1 d_Cells_copyFrom_13 rfl (lv_at hl 1 rfl)) ?_
    refine V.get (pc' := 17) X hK h_3 uw_Cells rfl 0 (by decide) (mcs wd_0) rfl d_Cells_copyFrom_14 rfl ?_
    refine V.rd (pc' := 18) (fun hl => lv_iload_n X.1 X.2.1 d_Cells_copyFrom_17 rfl (lv_at hl 2 rfl)) ?_
    refine V.lald (pc' := 19) X hK 1 h_4 rfl (vin (by omega) (by omega)) d_Cells_copyFrom_18 rfl ?_
    refine V.last (pc' := 20) X hK 1 h_2 rfl (vin (by omega) (by omega)) d_Cells_copyFrom_19 rfl (fun M_15 h_16 fr_17 => ?_)
    have h_18 : M_15 ce = some (.inr (0, [.ref va])) := (fr_17 _ (ne_k h_1 h_2 (i := 0) (j := 100016) rfl rfl (by decide))).trans h_1
    have h_19 : M_15 ce2 = some (.inr (0, [.ref va2])) := (fr_17 _ (ne_k h_3 h_2 (i := 0) (j := 100016) rfl rfl (by decide))).trans h_3
    have h_20 : M_15 va2 = some (.inl (cL, 16, .inr (.inl g2))) := (fr_17 _ (Ne.symm ne1)).trans h_4
    refine V.wr (pc' := 23) (lv' := [(2, .int (k + 1)), (0, .ref ce), (1, .ref ce2)]) (fun hl => lv_iinc (k := 2) (v := k + 1) X.1 X.2.1 d_Cells_copyFrom_20 hl rfl rfl (by decide) rfl) ?_
    have s_21 : (k + 1).toInt = k.toInt + (1) := i32_add1 (by omega)
    refine V.go (pc' := 2) (lv_goto X.1 X.2.1 d_Cells_copyFrom_23 (by decide)) ?_
    refine V.pick [1, 2, 0] rfl ?_
    exact ih_7 n_6 (by omega) () _ _ ⟨(k + 1), (vp_updL g k.toNatClampNeg (g2 k.toNatClampNeg)), rfl, h_18, h_16, h_19, h_20, (fun q n0_ => (fr_17 q n0_).trans ((fr_10 q n0_))), (by omega), (by omega), (by rw [← e_11, lp_Cells_copyFrom_va]; simp only [if_neg c_12])⟩
end
section
theorem wd_69 : (Jvm.Cond.fieldLink "PerformRanges$Program" (20 : Nat) "PerformRanges$Program" "told" "[LPerformRanges$Statement;") ∈ GW := gw_of (i := 61) (by decide +kernel) (by decide +kernel)
theorem wd_70 : (Jvm.Cond.methodLink "PerformRanges$Program" (43 : Nat) ({ cls := "PerformRanges$Program", name := "statementAt", desc := "(I)LPerformRanges$Statement;" } : Jvm.MethodName)) ∈ GW := gw_of (i := 270) (by decide +kernel) (by decide +kernel)
theorem wd_71 : (Jvm.Cond.instanceMethod ({ cls := "PerformRanges$Program", name := "statementAt", desc := "(I)LPerformRanges$Statement;" } : Jvm.MethodName)) ∈ GW := gw_of (i := 228) (by decide +kernel) (by decide +kernel)
theorem wd_72 : (Jvm.Cond.selects "PerformRanges$Program" ({ cls := "PerformRanges$Program", name := "statementAt", desc := "(I)LPerformRanges$Statement;" } : Jvm.MethodName) ({ cls := "PerformRanges$Program", name := "statementAt", desc := "(I)LPerformRanges$Statement;" } : Jvm.MethodName)) ∈ GW := gw_of (i := 229) (by decide +kernel) (by decide +kernel)
theorem wd_73 : (Jvm.Cond.code ({ cls := "PerformRanges$Program", name := "statementAt", desc := "(I)LPerformRanges$Statement;" } : Jvm.MethodName) prog_5_method_10_code (2 : Nat) (Option.some (Jvm.ClassFile.FieldType.object "PerformRanges$Statement"))) ∈ GW := gw_of (i := 230) (by decide +kernel) (by decide +kernel)
theorem wd_74 : (Jvm.Cond.methodLink "PerformRanges$Program" (47 : Nat) ({ cls := "PerformRanges$Statement", name := "isWhole", desc := "()Z" } : Jvm.MethodName)) ∈ GW := gw_of (i := 271) (by decide +kernel) (by decide +kernel)
theorem wd_75 : (Jvm.Cond.instanceMethod ({ cls := "PerformRanges$Statement", name := "isWhole", desc := "()Z" } : Jvm.MethodName)) ∈ GW := gw_of (i := 272) (by decide +kernel) (by decide +kernel)
theorem wd_76 : (Jvm.Cond.selects "PerformRanges$Statement" ({ cls := "PerformRanges$Statement", name := "isWhole", desc := "()Z" } : Jvm.MethodName) ({ cls := "PerformRanges$Statement", name := "isWhole", desc := "()Z" } : Jvm.MethodName)) ∈ GW := gw_of (i := 273) (by decide +kernel) (by decide +kernel)
theorem wd_77 : (Jvm.Cond.code ({ cls := "PerformRanges$Statement", name := "isWhole", desc := "()Z" } : Jvm.MethodName) prog_6_method_4_code (1 : Nat) (Option.some Jvm.ClassFile.FieldType.boolean)) ∈ GW := gw_of (i := 274) (by decide +kernel) (by decide +kernel)
theorem wd_78 : (Jvm.Cond.methodLink "PerformRanges$Pile" (28 : Nat) ({ cls := "PerformRanges$Pile", name := "isFull", desc := "()Z" } : Jvm.MethodName)) ∈ GW := gw_of (i := 301) (by decide +kernel) (by decide +kernel)
theorem wd_79 : (Jvm.Cond.instanceMethod ({ cls := "PerformRanges$Pile", name := "isFull", desc := "()Z" } : Jvm.MethodName)) ∈ GW := gw_of (i := 294) (by decide +kernel) (by decide +kernel)
theorem wd_80 : (Jvm.Cond.selects "PerformRanges$Pile" ({ cls := "PerformRanges$Pile", name := "isFull", desc := "()Z" } : Jvm.MethodName) ({ cls := "PerformRanges$Pile", name := "isFull", desc := "()Z" } : Jvm.MethodName)) ∈ GW := gw_of (i := 295) (by decide +kernel) (by decide +kernel)
theorem wd_81 : (Jvm.Cond.initialized "PerformRanges$Pile") ∈ GW := gw_of (i := 35) (by decide +kernel) (by decide +kernel)
theorem wd_82 : (Jvm.Cond.code ({ cls := "PerformRanges$Pile", name := "isFull", desc := "()Z" } : Jvm.MethodName) prog_4_method_3_code (1 : Nat) (Option.some Jvm.ClassFile.FieldType.boolean)) ∈ GW := gw_of (i := 296) (by decide +kernel) (by decide +kernel)
theorem wd_83 : (Jvm.Cond.fieldLink "PerformRanges$Pile" (11 : Nat) "PerformRanges$Pile" "laid" "[LPerformRanges$Statement;") ∈ GW := gw_of (i := 102) (by decide +kernel) (by decide +kernel)
theorem wd_84 : (Jvm.Cond.fieldLink "PerformRanges$Pile" (32 : Nat) "PerformRanges$Pile" "highest" "I") ∈ GW := gw_of (i := 107) (by decide +kernel) (by decide +kernel)
theorem wd_85 : (Jvm.Cond.methodLink "PerformRanges$Pile" (35 : Nat) ({ cls := "java/lang/Math", name := "max", desc := "(II)I" } : Jvm.MethodName)) ∈ GW := gw_of (i := 302) (by decide +kernel) (by decide +kernel)
theorem d_Program_statementAt_0 : decode prog_5_method_10_code 0 = .ok (.iload_n 1, 1) := by decide +kernel
theorem d_Program_statementAt_1 : decode prog_5_method_10_code 1 = .ok (.iconst 1, 1) := by decide +kernel
theorem d_Program_statementAt_2 : decode prog_5_method_10_code 2 = .ok (.if_icmp .lt 17, 3) := by decide +kernel
theorem d_Program_statementAt_5 : decode prog_5_method_10_code 5 = .ok (.iload_n 1, 1) := by decide +kernel
theorem d_Program_statementAt_6 : decode prog_5_method_10_code 6 = .ok (.aload_n 0, 1) := by decide +kernel
theorem d_Program_statementAt_7 : decode prog_5_method_10_code 7 = .ok (.getfield 36, 3) := by decide +kernel
theorem d_Program_statementAt_10 : decode prog_5_method_10_code 10 = .ok (.if_icmp .gt 9, 3) := by decide +kernel
theorem d_Program_statementAt_13 : decode prog_5_method_10_code 13 = .ok (.iload_n 1, 1) := by decide +kernel
theorem d_Program_statementAt_14 : decode prog_5_method_10_code 14 = .ok (.bipush 60, 2) := by decide +kernel
theorem d_Program_statementAt_16 : decode prog_5_method_10_code 16 = .ok (.if_icmp .le 5, 3) := by decide +kernel
theorem d_Program_statementAt_19 : decode prog_5_method_10_code 19 = .ok (.aconst_null, 1) := by decide +kernel
theorem d_Program_statementAt_20 : decode prog_5_method_10_code 20 = .ok (.areturn, 1) := by decide +kernel
theorem d_Program_statementAt_21 : decode prog_5_method_10_code 21 = .ok (.aload_n 0, 1) := by decide +kernel
theorem d_Program_statementAt_22 : decode prog_5_method_10_code 22 = .ok (.getfield 20, 3) := by decide +kernel
theorem d_Program_statementAt_25 : decode prog_5_method_10_code 25 = .ok (.iload_n 1, 1) := by decide +kernel
theorem d_Program_statementAt_26 : decode prog_5_method_10_code 26 = .ok (.iconst 1, 1) := by decide +kernel
theorem d_Program_statementAt_27 : decode prog_5_method_10_code 27 = .ok (.isub, 1) := by decide +kernel
theorem d_Program_statementAt_28 : decode prog_5_method_10_code 28 = .ok (.aaload, 1) := by decide +kernel
theorem d_Program_statementAt_29 : decode prog_5_method_10_code 29 = .ok (.areturn, 1) := by decide +kernel

def sp_stAt (ns : Int32) (x : Int32) : Option Nat := if x < 1 then none else if ns < x then none else if x ≤ 60 then some ((x - 1).toNatClampNeg) else none
set_option maxHeartbeats 4000000 in
set_option maxRecDepth 100000 in
theorem c_stAt {l : Launch} {H0 : Heap} {D : va_G} {cI cL cQ cB : ClassId} {M : mp} {pg dg gg tg0 : Nat} {sa : Nat → Nat} {np : Int32} {ns : Int32} {x : Int32} (gh0 : M pg = some (.inr (3, [.ref dg, .ref gg, .ref tg0, .int np, .int ns]))) (gh1 : M tg0 = some (.inl (cQ, 60, .inr (.inr (.inr (.inr (tdOf ns sa))))))) : MC l H0 D cls7 (tysOf cI cL cQ cB) NW ({ cls := "PerformRanges$Program", name := "statementAt", desc := "(I)LPerformRanges$Statement;" } : Jvm.MethodName) (Cond.code ({ cls := "PerformRanges$Program", name := "statementAt", desc := "(I)LPerformRanges$Statement;" } : Jvm.MethodName) prog_5_method_10_code 2 (Option.some (Jvm.ClassFile.FieldType.object "PerformRanges$Statement")) :: GW) ({ frames := 0, cells := 0, slots := 0, locals := 0 }) [.ref pg, .int x] M (fun v M' => v = some (va_rf (Option.map sa (sp_stAt ns x))) ∧ M' = M) := by
  refine MC.of (cc := prog_5_method_10_code) (nL := 2) (ret := (Option.some (Jvm.ClassFile.FieldType.object "PerformRanges$Statement"))) (lv := [(0, .ref pg), (1, .int x)]) (by decide) rfl (Nat.le_of_ble_eq_true rfl) rfl ?_
  intro p e s m below meth c X hr hlk hnm hK
  have k1 : (1 : Int32).toInt = 1 := rfl
  have k60 : (60 : Int32).toInt = 60 := rfl
  refine V.rd (pc' := 1) (fun hl => lv_iload_n X.1 X.2.1 d_Program_statementAt_0 rfl (lv_at hl 1 rfl)) ?_
  refine V.go (pc' := 2) (lv_iconst (v := 1) X.1 X.2.1 d_Program_statementAt_1 (by decide)) ?_
  refine V.br (pc' := 5) (tgt := 19) (P := x < 1) (lv_icmp_lt X.1 X.2.1 d_Program_statementAt_2 (by decide)) (fun c_1 => ?_) (fun c_1 => ?_)
  · have i_2 := Int32.lt_iff_toInt_lt.mp c_1
    refine V.go (pc' := 20) (lv_null X.1 X.2.1 d_Program_statementAt_19) ?_
    exact V.aret X hr hlk (Or.inl rfl) ⟨(opt_ok (o' := none) (by simp only [sp_stAt, if_pos c_1]) rfl), rfl⟩ d_Program_statementAt_20
  · have i_3 := mt Int32.lt_iff_toInt_lt.mpr c_1
    refine V.rd (pc' := 6) (fun hl => lv_iload_n X.1 X.2.1 d_Program_statementAt_5 rfl (lv_at hl 1 rfl)) ?_
    refine V.rd (pc' := 7) (fun hl => lv_aload_n X.1 X.2.1 d_Program_statementAt_6 rfl (lv_at hl 0 rfl)) ?_
    refine V.get (pc' := 10) X hK gh0 uw_Program rfl 4 (by decide) (mcs wd_2) rfl d_Program_statementAt_7 rfl ?_
    refine V.br (pc' := 13) (tgt := 19) (P := ns < x) (lv_icmp_gt X.1 X.2.1 d_Program_statementAt_10 (by decide)) (fun c_4 => ?_) (fun c_4 => ?_)
    · have i_5 := Int32.lt_iff_toInt_lt.mp c_4
      refine V.go (pc' := 20) (lv_null X.1 X.2.1 d_Program_statementAt_19) ?_
      exact V.aret X hr hlk (Or.inl rfl) ⟨(opt_ok (o' := none) (by simp only [sp_stAt, if_neg c_1, if_pos c_4]) rfl), rfl⟩ d_Program_statementAt_20
    · have i_6 := mt Int32.lt_iff_toInt_lt.mpr c_4
      refine V.rd (pc' := 14) (fun hl => lv_iload_n X.1 X.2.1 d_Program_statementAt_13 rfl (lv_at hl 1 rfl)) ?_
      refine V.go (pc' := 16) (lv_bipush (v := 60) X.1 X.2.1 d_Program_statementAt_14 (by decide)) ?_
      refine V.br (pc' := 19) (tgt := 21) (P := x ≤ 60) (lv_icmp_le X.1 X.2.1 d_Program_statementAt_16 (by decide)) (fun c_7 => ?_) (fun c_7 => ?_)
      · have i_8 := Int32.le_iff_toInt_le.mp c_7
        refine V.rd (pc' := 22) (fun hl => lv_aload_n X.1 X.2.1 d_Program_statementAt_21 rfl (lv_at hl 0 rfl)) ?_
        refine V.get (pc' := 25) X hK gh0 uw_Program rfl 2 (by decide) (mcs wd_69) rfl d_Program_statementAt_22 rfl ?_
        refine V.rd (pc' := 26) (fun hl => lv_iload_n X.1 X.2.1 d_Program_statementAt_25 rfl (lv_at hl 1 rfl)) ?_
        refine V.go (pc' := 27) (lv_iconst (v := 1) X.1 X.2.1 d_Program_statementAt_26 (by decide)) ?_
        refine V.go (pc' := 28) (lv_isub X.1 X.2.1 d_Program_statementAt_27) ?_
        have s_9 : (x - 1).toInt = x.toInt - 1 := i32_sub1 (by omega)
        refine V.aald (pc' := 29) X hK 2 gh1 rfl (vin (by omega) (by omega)) d_Program_statementAt_28 rfl ?_
        exact V.aret X hr hlk (va_rf_or _) ⟨(opt_ok (o' := some ((x - 1).toNatClampNeg)) (by simp only [sp_stAt, if_neg c_1, if_neg c_4, if_pos c_7]) (by rw [tdOf_lt (by rw [clampI (by omega)]; omega)]; rfl)), rfl⟩ d_Program_statementAt_29
      · have i_10 := mt Int32.le_iff_toInt_le.mpr c_7
        refine V.go (pc' := 20) (lv_null X.1 X.2.1 d_Program_statementAt_19) ?_
        exact V.aret X hr hlk (Or.inl rfl) ⟨(opt_ok (o' := none) (by simp only [sp_stAt, if_neg c_1, if_neg c_4, if_neg c_7]) rfl), rfl⟩ d_Program_statementAt_20

theorem stAt_lt {ns x : Int32} {i : Nat} (h : sp_stAt ns x = some i) : (i : Int) < ns.toInt := by
  unfold sp_stAt at h
  have k1 : (1 : Int32).toInt = 1 := rfl
  by_cases h1 : x < 1
  · rw [if_pos h1] at h
    cases h
  · rw [if_neg h1] at h
    by_cases h2 : ns < x
    · rw [if_pos h2] at h
      cases h
    · rw [if_neg h2] at h
      by_cases h3 : x ≤ (60 : Int32)
      · rw [if_pos h3] at h
        cases h
        have a1 := mt Int32.lt_iff_toInt_lt.mpr h1
        have a2 := mt Int32.lt_iff_toInt_lt.mpr h2
        have a3 : (x - 1).toInt = x.toInt - 1 := i32_sub1 (by omega)
        rw [clampI (by omega)]
        omega
      · rw [if_neg h3] at h
        cases h

theorem d_Program_wholeStatementAt_0 : decode prog_5_method_11_code 0 = .ok (.aload_n 0, 1) := by decide +kernel
theorem d_Program_wholeStatementAt_1 : decode prog_5_method_11_code 1 = .ok (.iload_n 1, 1) := by decide +kernel
theorem d_Program_wholeStatementAt_2 : decode prog_5_method_11_code 2 = .ok (.invokevirtual 43, 3) := by decide +kernel
theorem d_Program_wholeStatementAt_5 : decode prog_5_method_11_code 5 = .ok (.astore_n 2, 1) := by decide +kernel
theorem d_Program_wholeStatementAt_6 : decode prog_5_method_11_code 6 = .ok (.aload_n 2, 1) := by decide +kernel
theorem d_Program_wholeStatementAt_7 : decode prog_5_method_11_code 7 = .ok (.ifnull 14, 3) := by decide +kernel
theorem d_Program_wholeStatementAt_10 : decode prog_5_method_11_code 10 = .ok (.aload_n 2, 1) := by decide +kernel
theorem d_Program_wholeStatementAt_11 : decode prog_5_method_11_code 11 = .ok (.invokevirtual 47, 3) := by decide +kernel
theorem d_Program_wholeStatementAt_14 : decode prog_5_method_11_code 14 = .ok (.ifCond .eq 7, 3) := by decide +kernel
theorem d_Program_wholeStatementAt_17 : decode prog_5_method_11_code 17 = .ok (.aload_n 2, 1) := by decide +kernel
theorem d_Program_wholeStatementAt_18 : decode prog_5_method_11_code 18 = .ok (.goto 4, 3) := by decide +kernel
theorem d_Program_wholeStatementAt_21 : decode prog_5_method_11_code 21 = .ok (.aconst_null, 1) := by decide +kernel
theorem d_Program_wholeStatementAt_22 : decode prog_5_method_11_code 22 = .ok (.areturn, 1) := by decide +kernel

def sp_whole (ns : Int32) (x : Int32) (σ : Nat → Stm) : Option Nat := oc (sp_stAt ns x) none (fun i_3 => if (sp_isWhole (st_k (σ i_3)) (st_c (σ i_3)) (st_l (σ i_3))) = 0 then none else some i_3)
set_option maxHeartbeats 4000000 in
set_option maxRecDepth 100000 in
theorem c_whole {l : Launch} {H0 : Heap} {D : va_G} {cI cL cQ cB : ClassId} {M : mp} {pg dg gg tg0 : Nat} {sa u1 u2 u3 u4 u5 : Nat → Nat} {σ : Nat → Stm} {np : Int32} {ns : Int32} {x : Int32} (gh0 : M pg = some (.inr (3, [.ref dg, .ref gg, .ref tg0, .int np, .int ns]))) (gh1 : M tg0 = some (.inl (cQ, 60, .inr (.inr (.inr (.inr (tdOf ns sa))))))) (hp : SP cI cL M ns sa u1 u2 u3 u4 u5 σ) (hσ : ∀ i : Nat, (i : Int) < ns.toInt → (st_l (σ i)).toInt ≤ 7) : MC l H0 D cls7 (tysOf cI cL cQ cB) NW ({ cls := "PerformRanges$Program", name := "wholeStatementAt", desc := "(I)LPerformRanges$Statement;" } : Jvm.MethodName) (Cond.code ({ cls := "PerformRanges$Program", name := "wholeStatementAt", desc := "(I)LPerformRanges$Statement;" } : Jvm.MethodName) prog_5_method_11_code 3 (Option.some (Jvm.ClassFile.FieldType.object "PerformRanges$Statement")) :: GW) ({ frames := 1, cells := 0, slots := 0, locals := 21 }) [.ref pg, .int x] M (fun v M' => v = some (va_rf (Option.map sa (sp_whole ns x σ))) ∧ M' = M) := by
  refine MC.of (cc := prog_5_method_11_code) (nL := 3) (ret := (Option.some (Jvm.ClassFile.FieldType.object "PerformRanges$Statement"))) (lv := [(0, .ref pg), (1, .int x)]) (by decide) rfl (Nat.le_of_ble_eq_true rfl) rfl ?_
  intro p e s m below meth c X hr hlk hnm hK
  have k0 : (0 : Int32).toInt = 0 := rfl
  refine V.rd (pc' := 1) (fun hl => lv_aload_n X.1 X.2.1 d_Program_wholeStatementAt_0 rfl (lv_at hl 0 rfl)) ?_
  refine V.rd (pc' := 2) (fun hl => lv_iload_n X.1 X.2.1 d_Program_wholeStatementAt_1 rfl (lv_at hl 1 rfl)) ?_
  refine V.callV0 (pc' := 5) X hK (c_stAt  (pg := pg) (dg := dg) (gg := gg) (tg0 := tg0) (np := np) (ns := ns) (x := x)   gh0 gh1  ) gh0 rfl (cwG (n := 1) X (mcs wd_70) (mcs wd_71) (mcs wd_72) (mcs wd_7) wd_73 (by decide +kernel) (by decide) (by decide)) rfl rfl (Nat.le_of_ble_eq_true rfl) d_Program_wholeStatementAt_2 ⟨by decide, by decide⟩ rfl (st1 := [va_rf (Option.map sa (sp_stAt ns x))]) rfl ?_
  refine V.sp (o := sp_stAt ns x) (fun c_2 => ?_) (fun i_3 c_2 => ?_)
  · refine V.wr (pc' := 6) (lv' := [(2, .null), (0, .ref pg), (1, .int x)]) (fun hl => lv_astore_nN X.1 X.2.1 d_Program_wholeStatementAt_5 rfl hl (by decide) rfl) ?_
    refine V.rd (pc' := 7) (fun hl => lv_aload_nN X.1 X.2.1 d_Program_wholeStatementAt_6 rfl (lv_at hl 0 rfl)) ?_
    refine V.go (pc' := 21) (lv_ifnullN X.1 X.2.1 d_Program_wholeStatementAt_7 (by decide)) ?_
    refine V.go (pc' := 22) (lv_null X.1 X.2.1 d_Program_wholeStatementAt_21) ?_
    exact V.aret X hr hlk (Or.inl rfl) ⟨(opt_ok (o' := none) (by simp only [sp_whole, c_2, oc_none]) rfl), rfl⟩ d_Program_wholeStatementAt_22
  · have hlt_10 : (i_3 : Int) < ns.toInt := stAt_lt c_2
    have hs_11 := hσ i_3 hlt_10
    obtain ⟨h_4, h_5, h_6, h_7, h_8, h_9⟩ := hp i_3 hlt_10
    refine V.wr (pc' := 6) (lv' := [(2, .ref (sa i_3)), (0, .ref pg), (1, .int x)]) (fun hl => lv_astore_n X.1 X.2.1 d_Program_wholeStatementAt_5 rfl hl (by decide) rfl) ?_
    refine V.rd (pc' := 7) (fun hl => lv_aload_n X.1 X.2.1 d_Program_wholeStatementAt_6 rfl (lv_at hl 0 rfl)) ?_
    refine V.go (pc' := 10) (lv_ifnull X.1 X.2.1 d_Program_wholeStatementAt_7) ?_
    refine V.rd (pc' := 11) (fun hl => lv_aload_n X.1 X.2.1 d_Program_wholeStatementAt_10 rfl (lv_at hl 0 rfl)) ?_
    refine V.callV0 (pc' := 14) X hK (c_isWhole  (sm := sa i_3) (acc := u1 i_3) (acv := u2 i_3) (alc := u3 i_3) (afv := u4 i_3) (als := u5 i_3) (sf := st_f (σ i_3)) (sto := st_t (σ i_3)) (sk := st_k (σ i_3)) (sn := st_n (σ i_3)) (saf := st_a (σ i_3)) (sc := st_c (σ i_3)) (sl := st_l (σ i_3))   h_4  ) h_4 rfl (cwG (n := 0) X (mcs wd_74) (mcs wd_75) (mcs wd_76) (mcs wd_46) wd_77 (by decide +kernel) (by decide) (by decide)) rfl rfl (Nat.le_of_ble_eq_true rfl) d_Program_wholeStatementAt_11 ⟨by decide, by decide⟩ rfl (st1 := [.int (sp_isWhole (st_k (σ i_3)) (st_c (σ i_3)) (st_l (σ i_3)))]) rfl ?_
    refine V.br (pc' := 17) (tgt := 21) (P := (sp_isWhole (st_k (σ i_3)) (st_c (σ i_3)) (st_l (σ i_3))) = 0) (lv_if_eq X.1 X.2.1 d_Program_wholeStatementAt_14 (by decide)) (fun c_13 => ?_) (fun c_13 => ?_)
    · have i_14 := congrArg Int32.toInt c_13
      refine V.go (pc' := 22) (lv_null X.1 X.2.1 d_Program_wholeStatementAt_21) ?_
      exact V.aret X hr hlk (Or.inl rfl) ⟨(opt_ok (o' := none) (by simp only [sp_whole, c_2, oc_some, if_pos c_13]) rfl), rfl⟩ d_Program_wholeStatementAt_22
    · have i_15 := mt Int32.toInt_inj.mp c_13
      refine V.rd (pc' := 18) (fun hl => lv_aload_n X.1 X.2.1 d_Program_wholeStatementAt_17 rfl (lv_at hl 0 rfl)) ?_
      refine V.go (pc' := 22) (lv_goto X.1 X.2.1 d_Program_wholeStatementAt_18 (by decide)) ?_
      exact V.aret X hr hlk (Or.inr ⟨_, rfl⟩) ⟨(opt_ok (o' := some i_3) (by simp only [sp_whole, c_2, oc_some, if_neg c_13]) rfl), rfl⟩ d_Program_wholeStatementAt_22

theorem whole_lt {ns x : Int32} {σ : Nat → Stm} {i : Nat} (h : sp_whole ns x σ = some i) : (i : Int) < ns.toInt := by
  unfold sp_whole at h
  cases hc : sp_stAt ns x with
  | none =>
    rw [hc, oc_none] at h
    cases h
  | some j =>
    rw [hc, oc_some] at h
    split at h
    · cases h
    · cases h
      exact stAt_lt hc

theorem d_Pile_lay_0 : decode prog_4_method_4_code 0 = .ok (.aload_n 0, 1) := by decide +kernel
theorem d_Pile_lay_1 : decode prog_4_method_4_code 1 = .ok (.invokevirtual 28, 3) := by decide +kernel
theorem d_Pile_lay_4 : decode prog_4_method_4_code 4 = .ok (.ifCond .ne 10, 3) := by decide +kernel
theorem d_Pile_lay_7 : decode prog_4_method_4_code 7 = .ok (.aload_n 0, 1) := by decide +kernel
theorem d_Pile_lay_8 : decode prog_4_method_4_code 8 = .ok (.getfield 24, 3) := by decide +kernel
theorem d_Pile_lay_11 : decode prog_4_method_4_code 11 = .ok (.ifCond .ge 4, 3) := by decide +kernel
theorem d_Pile_lay_14 : decode prog_4_method_4_code 14 = .ok (.return_, 1) := by decide +kernel
theorem d_Pile_lay_15 : decode prog_4_method_4_code 15 = .ok (.aload_n 0, 1) := by decide +kernel
theorem d_Pile_lay_16 : decode prog_4_method_4_code 16 = .ok (.getfield 11, 3) := by decide +kernel
theorem d_Pile_lay_19 : decode prog_4_method_4_code 19 = .ok (.aload_n 0, 1) := by decide +kernel
theorem d_Pile_lay_20 : decode prog_4_method_4_code 20 = .ok (.getfield 24, 3) := by decide +kernel
theorem d_Pile_lay_23 : decode prog_4_method_4_code 23 = .ok (.aload_n 1, 1) := by decide +kernel
theorem d_Pile_lay_24 : decode prog_4_method_4_code 24 = .ok (.aastore, 1) := by decide +kernel
theorem d_Pile_lay_25 : decode prog_4_method_4_code 25 = .ok (.aload_n 0, 1) := by decide +kernel
theorem d_Pile_lay_26 : decode prog_4_method_4_code 26 = .ok (.getfield 17, 3) := by decide +kernel
theorem d_Pile_lay_29 : decode prog_4_method_4_code 29 = .ok (.aload_n 0, 1) := by decide +kernel
theorem d_Pile_lay_30 : decode prog_4_method_4_code 30 = .ok (.getfield 24, 3) := by decide +kernel
theorem d_Pile_lay_33 : decode prog_4_method_4_code 33 = .ok (.iload_n 2, 1) := by decide +kernel
theorem d_Pile_lay_34 : decode prog_4_method_4_code 34 = .ok (.iastore, 1) := by decide +kernel
theorem d_Pile_lay_35 : decode prog_4_method_4_code 35 = .ok (.aload_n 0, 1) := by decide +kernel
theorem d_Pile_lay_36 : decode prog_4_method_4_code 36 = .ok (.getfield 21, 3) := by decide +kernel
theorem d_Pile_lay_39 : decode prog_4_method_4_code 39 = .ok (.aload_n 0, 1) := by decide +kernel
theorem d_Pile_lay_40 : decode prog_4_method_4_code 40 = .ok (.getfield 24, 3) := by decide +kernel
theorem d_Pile_lay_43 : decode prog_4_method_4_code 43 = .ok (.iconst 0, 1) := by decide +kernel
theorem d_Pile_lay_44 : decode prog_4_method_4_code 44 = .ok (.iastore, 1) := by decide +kernel
theorem d_Pile_lay_45 : decode prog_4_method_4_code 45 = .ok (.aload_n 0, 1) := by decide +kernel
theorem d_Pile_lay_46 : decode prog_4_method_4_code 46 = .ok (.dup, 1) := by decide +kernel
theorem d_Pile_lay_47 : decode prog_4_method_4_code 47 = .ok (.getfield 24, 3) := by decide +kernel
theorem d_Pile_lay_50 : decode prog_4_method_4_code 50 = .ok (.iconst 1, 1) := by decide +kernel
theorem d_Pile_lay_51 : decode prog_4_method_4_code 51 = .ok (.iadd, 1) := by decide +kernel
theorem d_Pile_lay_52 : decode prog_4_method_4_code 52 = .ok (.putfield 24, 3) := by decide +kernel
theorem d_Pile_lay_55 : decode prog_4_method_4_code 55 = .ok (.aload_n 0, 1) := by decide +kernel
theorem d_Pile_lay_56 : decode prog_4_method_4_code 56 = .ok (.aload_n 0, 1) := by decide +kernel
theorem d_Pile_lay_57 : decode prog_4_method_4_code 57 = .ok (.getfield 32, 3) := by decide +kernel
theorem d_Pile_lay_60 : decode prog_4_method_4_code 60 = .ok (.aload_n 0, 1) := by decide +kernel
theorem d_Pile_lay_61 : decode prog_4_method_4_code 61 = .ok (.getfield 24, 3) := by decide +kernel
theorem d_Pile_lay_64 : decode prog_4_method_4_code 64 = .ok (.invokestatic 35, 3) := by decide +kernel
theorem d_Pile_lay_67 : decode prog_4_method_4_code 67 = .ok (.putfield 32, 3) := by decide +kernel
theorem d_Pile_lay_70 : decode prog_4_method_4_code 70 = .ok (.return_, 1) := by decide +kernel

def sp_lay_la (hh : Int32) (lo : Nat → Option Nat) (i0 : Nat) : Nat → Option Nat := if (sp_Pile_isFull hh) = 0 then (if 0 ≤ hh then va_up lo hh.toNatClampNeg (some i0) else lo) else lo
def sp_lay_pe (hh : Int32) (pd : Nat → Int32) (x : Int32) : Nat → Int32 := if (sp_Pile_isFull hh) = 0 then (if 0 ≤ hh then upd pd hh.toNatClampNeg x else pd) else pd
def sp_lay_tu (hh : Int32) (ud : Nat → Int32) : Nat → Int32 := if (sp_Pile_isFull hh) = 0 then (if 0 ≤ hh then upd ud hh.toNatClampNeg 0 else ud) else ud
def sp_lay_pi_3 (hh : Int32) : Int32 := if (sp_Pile_isFull hh) = 0 then (if 0 ≤ hh then hh + 1 else hh) else hh
def sp_lay_pi_4 (hh : Int32) (hi : Int32) : Int32 := if (sp_Pile_isFull hh) = 0 then (if 0 ≤ hh then imax hi (hh + 1) else hi) else hi
set_option maxHeartbeats 4000000 in
set_option maxRecDepth 100000 in
theorem c_lay {l : Launch} {H0 : Heap} {D : va_G} {cI cL cQ cB : ClassId} {M : mp} {pi la pe tu : Nat} {sa : Nat → Nat} {hh : Int32} {hi : Int32} {lo : Nat → Option Nat} {pd : Nat → Int32} {ud : Nat → Int32} {i0 : Nat} {vs : List Value} {x : Int32} (ne0 : pe ≠ tu) (gh0 : M pi = some (.inr (2, [.ref la, .ref pe, .ref tu, .int hh, .int hi]))) (gh1 : M la = some (.inl (cQ, 100, .inr (.inr (.inr (.inr (lq lo sa))))))) (gh2 : M pe = some (.inl (cI, 100, .inl pd))) (gh3 : M tu = some (.inl (cI, 100, .inl ud))) (gh4 : M (sa i0) = some (.inr (4, vs))) : MC l H0 D cls7 (tysOf cI cL cQ cB) NW ({ cls := "PerformRanges$Pile", name := "lay", desc := "(LPerformRanges$Statement;I)V" } : Jvm.MethodName) (Cond.code ({ cls := "PerformRanges$Pile", name := "lay", desc := "(LPerformRanges$Statement;I)V" } : Jvm.MethodName) prog_4_method_4_code 3 (Option.none : Option Jvm.ClassFile.FieldType) :: GW) ({ frames := 1, cells := 0, slots := 0, locals := 21 }) [.ref pi, .ref (sa i0), .int x] M (fun v M' => v = none ∧ M' la = some (.inl (cQ, 100, .inr (.inr (.inr (.inr (lq (sp_lay_la hh lo i0) sa)))))) ∧ M' pe = some (.inl (cI, 100, .inl (sp_lay_pe hh pd x))) ∧ M' tu = some (.inl (cI, 100, .inl (sp_lay_tu hh ud))) ∧ M' pi = some (.inr (2, [.ref la, .ref pe, .ref tu, .int (sp_lay_pi_3 hh), .int (sp_lay_pi_4 hh hi)])) ∧ ∀ q, q ≠ la → q ≠ pe → q ≠ tu → q ≠ pi → M' q = M q) := by
  refine MC.of (cc := prog_4_method_4_code) (nL := 3) (ret := (Option.none : Option Jvm.ClassFile.FieldType)) (lv := [(0, .ref pi), (1, .ref (sa i0)), (2, .int x)]) (by decide) rfl (Nat.le_of_ble_eq_true rfl) rfl ?_
  intro p e s m below meth c X hr hlk hnm hK
  have k0 : (0 : Int32).toInt = 0 := rfl
  have k1 : (1 : Int32).toInt = 1 := rfl
  refine V.rd (pc' := 1) (fun hl => lv_aload_n X.1 X.2.1 d_Pile_lay_0 rfl (lv_at hl 0 rfl)) ?_
  refine V.callV0 (pc' := 4) X hK (c_Pile_isFull  (pi := pi) (la := la) (pe := pe) (tu := tu) (hh := hh) (hi := hi)   gh0  ) gh0 rfl (cwG (n := 0) X (mcs wd_78) (mcs wd_79) (mcs wd_80) (mcs wd_81) wd_82 (by decide +kernel) (by decide) (by decide)) rfl rfl (Nat.le_of_ble_eq_true rfl) d_Pile_lay_1 ⟨by decide, by decide⟩ rfl (st1 := [.int (sp_Pile_isFull hh)]) rfl ?_
  refine V.bn (pc' := 7) (tgt := 14) (P := (sp_Pile_isFull hh) = 0) (lv_if_ne X.1 X.2.1 d_Pile_lay_4 (by decide)) (fun c_2 => ?_) (fun c_2 => ?_)
  · have i_3 := isFull_0 c_2
    refine V.rd (pc' := 8) (fun hl => lv_aload_n X.1 X.2.1 d_Pile_lay_7 rfl (lv_at hl 0 rfl)) ?_
    refine V.get (pc' := 11) X hK gh0 uw_Pile rfl 3 (by decide) (mcs wd_14) rfl d_Pile_lay_8 rfl ?_
    refine V.br (pc' := 14) (tgt := 15) (P := 0 ≤ hh) (lv_if_ge X.1 X.2.1 d_Pile_lay_11 (by decide)) (fun c_4 => ?_) (fun c_4 => ?_)
    · have i_5 := Int32.le_iff_toInt_le.mp c_4
      refine V.rd (pc' := 16) (fun hl => lv_aload_n X.1 X.2.1 d_Pile_lay_15 rfl (lv_at hl 0 rfl)) ?_
      refine V.get (pc' := 19) X hK gh0 uw_Pile rfl 0 (by decide) (mcs wd_83) rfl d_Pile_lay_16 rfl ?_
      refine V.rd (pc' := 20) (fun hl => lv_aload_n X.1 X.2.1 d_Pile_lay_19 rfl (lv_at hl 0 rfl)) ?_
      refine V.get (pc' := 23) X hK gh0 uw_Pile rfl 3 (by decide) (mcs wd_14) rfl d_Pile_lay_20 rfl ?_
      refine V.rd (pc' := 24) (fun hl => lv_aload_n X.1 X.2.1 d_Pile_lay_23 rfl (lv_at hl 1 rfl)) ?_
      refine V.aast (pc' := 25) X hK 2 4 gh1 rfl gh4 rfl (vin (by omega) (by omega)) d_Pile_lay_24 rfl (fun M_6 h_7 fr_8 => ?_)
      rw [lq_up] at h_7
      have h_9 : M_6 pi = some (.inr (2, [.ref la, .ref pe, .ref tu, .int hh, .int hi])) := (fr_8 _ (ne_k gh0 gh1 (i := 2) (j := 10000100) rfl rfl (by decide))).trans gh0
      have h_10 : M_6 pe = some (.inl (cI, 100, .inl pd)) := (fr_8 _ (ne_k gh2 gh1 (i := 1100) (j := 10000100) rfl rfl (by decide))).trans gh2
      have h_11 : M_6 tu = some (.inl (cI, 100, .inl ud)) := (fr_8 _ (ne_k gh3 gh1 (i := 1100) (j := 10000100) rfl rfl (by decide))).trans gh3
      have h_12 : M_6 (sa i0) = some (.inr (4, vs)) := (fr_8 _ (ne_k gh4 gh1 (i := 4) (j := 10000100) rfl rfl (by decide))).trans gh4
      refine V.rd (pc' := 26) (fun hl => lv_aload_n X.1 X.2.1 d_Pile_lay_25 rfl (lv_at hl 0 rfl)) ?_
      refine V.get (pc' := 29) X hK h_9 uw_Pile rfl 1 (by decide) (mcs wd_16) rfl d_Pile_lay_26 rfl ?_
      refine V.rd (pc' := 30) (fun hl => lv_aload_n X.1 X.2.1 d_Pile_lay_29 rfl (lv_at hl 0 rfl)) ?_
      refine V.get (pc' := 33) X hK h_9 uw_Pile rfl 3 (by decide) (mcs wd_14) rfl d_Pile_lay_30 rfl ?_
      refine V.rd (pc' := 34) (fun hl => lv_iload_n X.1 X.2.1 d_Pile_lay_33 rfl (lv_at hl 2 rfl)) ?_
      refine V.iast (pc' := 35) X hK 0 h_10 rfl (vin (by omega) (by omega)) d_Pile_lay_34 rfl (fun M_13 h_14 fr_15 => ?_)
      have h_16 : M_13 pi = some (.inr (2, [.ref la, .ref pe, .ref tu, .int hh, .int hi])) := (fr_15 _ (ne_k h_9 h_10 (i := 2) (j := 1100) rfl rfl (by decide))).trans h_9
      have h_17 : M_13 tu = some (.inl (cI, 100, .inl ud)) := (fr_15 _ (Ne.symm ne0)).trans h_11
      have h_18 : M_13 (sa i0) = some (.inr (4, vs)) := (fr_15 _ (ne_k h_12 h_10 (i := 4) (j := 1100) rfl rfl (by decide))).trans h_12
      have h_19 : M_13 la = some (.inl (cQ, 100, .inr (.inr (.inr (.inr (lq (va_up lo hh.toNatClampNeg (some i0)) sa)))))) := (fr_15 _ (ne_k h_7 h_10 (i := 10000100) (j := 1100) rfl rfl (by decide))).trans h_7
      refine V.rd (pc' := 36) (fun hl => lv_aload_n X.1 X.2.1 d_Pile_lay_35 rfl (lv_at hl 0 rfl)) ?_
      refine V.get (pc' := 39) X hK h_16 uw_Pile rfl 2 (by decide) (mcs wd_15) rfl d_Pile_lay_36 rfl ?_
      refine V.rd (pc' := 40) (fun hl => lv_aload_n X.1 X.2.1 d_Pile_lay_39 rfl (lv_at hl 0 rfl)) ?_
      refine V.get (pc' := 43) X hK h_16 uw_Pile rfl 3 (by decide) (mcs wd_14) rfl d_Pile_lay_40 rfl ?_
      refine V.go (pc' := 44) (lv_iconst (v := 0) X.1 X.2.1 d_Pile_lay_43 (by decide)) ?_
      refine V.iast (pc' := 45) X hK 0 h_17 rfl (vin (by omega) (by omega)) d_Pile_lay_44 rfl (fun M_20 h_21 fr_22 => ?_)
      have h_23 : M_20 pi = some (.inr (2, [.ref la, .ref pe, .ref tu, .int hh, .int hi])) := (fr_22 _ (ne_k h_16 h_17 (i := 2) (j := 1100) rfl rfl (by decide))).trans h_16
      have h_24 : M_20 (sa i0) = some (.inr (4, vs)) := (fr_22 _ (ne_k h_18 h_17 (i := 4) (j := 1100) rfl rfl (by decide))).trans h_18
      have h_25 : M_20 la = some (.inl (cQ, 100, .inr (.inr (.inr (.inr (lq (va_up lo hh.toNatClampNeg (some i0)) sa)))))) := (fr_22 _ (ne_k h_19 h_17 (i := 10000100) (j := 1100) rfl rfl (by decide))).trans h_19
      have h_26 : M_20 pe = some (.inl (cI, 100, .inl (upd pd hh.toNatClampNeg x))) := (fr_22 _ ne0).trans h_14
      refine V.rd (pc' := 46) (fun hl => lv_aload_n X.1 X.2.1 d_Pile_lay_45 rfl (lv_at hl 0 rfl)) ?_
      refine V.go (pc' := 47) (lv_dup X.1 X.2.1 d_Pile_lay_46 rfl) ?_
      refine V.get (pc' := 50) X hK h_23 uw_Pile rfl 3 (by decide) (mcs wd_14) rfl d_Pile_lay_47 rfl ?_
      refine V.go (pc' := 51) (lv_iconst (v := 1) X.1 X.2.1 d_Pile_lay_50 (by decide)) ?_
      refine V.go (pc' := 52) (lv_iadd X.1 X.2.1 d_Pile_lay_51) ?_
      have s_27 : (hh + 1).toInt = hh.toInt + 1 := i32_add1 (by omega)
      refine V.put (pc' := 55) X hK h_23 uw_Pile t_Pile tok_Pile nm_Pile rfl 3 (by decide) (mcs wd_14) rfl rfl rfl (Nat.le_of_ble_eq_true rfl) (fs' := [.ref la, .ref pe, .ref tu, .int (hh + 1), .int hi]) rfl d_Pile_lay_52 rfl (fun M_28 h_29 fr_30 => ?_)
      have h_31 : M_28 (sa i0) = some (.inr (4, vs)) := (fr_30 _ (ne_k h_24 h_23 (i := 4) (j := 2) rfl rfl (by decide))).trans h_24
      have h_32 : M_28 la = some (.inl (cQ, 100, .inr (.inr (.inr (.inr (lq (va_up lo hh.toNatClampNeg (some i0)) sa)))))) := (fr_30 _ (ne_k h_25 h_23 (i := 10000100) (j := 2) rfl rfl (by decide))).trans h_25
      have h_33 : M_28 pe = some (.inl (cI, 100, .inl (upd pd hh.toNatClampNeg x))) := (fr_30 _ (ne_k h_26 h_23 (i := 1100) (j := 2) rfl rfl (by decide))).trans h_26
      have h_34 : M_28 tu = some (.inl (cI, 100, .inl (upd ud hh.toNatClampNeg 0))) := (fr_30 _ (ne_k h_21 h_23 (i := 1100) (j := 2) rfl rfl (by decide))).trans h_21
      refine V.rd (pc' := 56) (fun hl => lv_aload_n X.1 X.2.1 d_Pile_lay_55 rfl (lv_at hl 0 rfl)) ?_
      refine V.rd (pc' := 57) (fun hl => lv_aload_n X.1 X.2.1 d_Pile_lay_56 rfl (lv_at hl 0 rfl)) ?_
      refine V.get (pc' := 60) X hK h_29 uw_Pile rfl 4 (by decide) (mcs wd_84) rfl d_Pile_lay_57 rfl ?_
      refine V.rd (pc' := 61) (fun hl => lv_aload_n X.1 X.2.1 d_Pile_lay_60 rfl (lv_at hl 0 rfl)) ?_
      refine V.get (pc' := 64) X hK h_29 uw_Pile rfl 3 (by decide) (mcs wd_14) rfl d_Pile_lay_61 rfl ?_
      refine V.mmax (pc' := 67) X (mcs wd_85) (mcs wd_36) (mcs wd_37) (mcs wd_38) (Nat.le_of_ble_eq_true rfl) (by decide) (by decide) (by decide) (by decide) d_Pile_lay_64 rfl ?_
      refine V.put (pc' := 70) X hK h_29 uw_Pile t_Pile tok_Pile nm_Pile rfl 4 (by decide) (mcs wd_84) rfl rfl rfl (Nat.le_of_ble_eq_true rfl) (fs' := [.ref la, .ref pe, .ref tu, .int (hh + 1), .int (imax hi (hh + 1))]) rfl d_Pile_lay_67 rfl (fun M_35 h_36 fr_37 => ?_)
      have h_38 : M_35 (sa i0) = some (.inr (4, vs)) := (fr_37 _ (ne_k h_31 h_29 (i := 4) (j := 2) rfl rfl (by decide))).trans h_31
      have h_39 : M_35 la = some (.inl (cQ, 100, .inr (.inr (.inr (.inr (lq (va_up lo hh.toNatClampNeg (some i0)) sa)))))) := (fr_37 _ (ne_k h_32 h_29 (i := 10000100) (j := 2) rfl rfl (by decide))).trans h_32
      have h_40 : M_35 pe = some (.inl (cI, 100, .inl (upd pd hh.toNatClampNeg x))) := (fr_37 _ (ne_k h_33 h_29 (i := 1100) (j := 2) rfl rfl (by decide))).trans h_33
      have h_41 : M_35 tu = some (.inl (cI, 100, .inl (upd ud hh.toNatClampNeg 0))) := (fr_37 _ (ne_k h_34 h_29 (i := 1100) (j := 2) rfl rfl (by decide))).trans h_34
      exact V.vret X hr hlk ⟨rfl, (by simp only [sp_lay_la, if_pos c_2, if_pos c_4]; exact h_39), (by simp only [sp_lay_pe, if_pos c_2, if_pos c_4]; exact h_40), (by simp only [sp_lay_tu, if_pos c_2, if_pos c_4]; exact h_41), (by simp only [sp_lay_pi_3, sp_lay_pi_4, if_pos c_2, if_pos c_4]; exact h_36), (fun q n0_ n1_ n2_ n3_ => (fr_37 q n3_).trans ((fr_30 q n3_).trans ((fr_22 q n2_).trans ((fr_15 q n1_).trans ((fr_8 q n0_))))))⟩ d_Pile_lay_70
    · have i_42 := mt Int32.le_iff_toInt_le.mpr c_4
      exact V.vret X hr hlk ⟨rfl, (by simp only [sp_lay_la, if_pos c_2, if_neg c_4]; exact gh1), (by simp only [sp_lay_pe, if_pos c_2, if_neg c_4]; exact gh2), (by simp only [sp_lay_tu, if_pos c_2, if_neg c_4]; exact gh3), (by simp only [sp_lay_pi_3, sp_lay_pi_4, if_pos c_2, if_neg c_4]; exact gh0), (fun q n0_ n1_ n2_ n3_ => rfl)⟩ d_Pile_lay_14
  · have i_43 := mt Int32.toInt_inj.mp c_2
    exact V.vret X hr hlk ⟨rfl, (by simp only [sp_lay_la, if_neg c_2]; exact gh1), (by simp only [sp_lay_pe, if_neg c_2]; exact gh2), (by simp only [sp_lay_tu, if_neg c_2]; exact gh3), (by simp only [sp_lay_pi_3, sp_lay_pi_4, if_neg c_2]; exact gh0), (fun q n0_ n1_ n2_ n3_ => rfl)⟩ d_Pile_lay_14

theorem d_Pile_top_0 : decode prog_4_method_5_code 0 = .ok (.aload_n 0, 1) := by decide +kernel
theorem d_Pile_top_1 : decode prog_4_method_5_code 1 = .ok (.getfield 24, 3) := by decide +kernel
theorem d_Pile_top_4 : decode prog_4_method_5_code 4 = .ok (.ifCond .le 26, 3) := by decide +kernel
theorem d_Pile_top_7 : decode prog_4_method_5_code 7 = .ok (.aload_n 0, 1) := by decide +kernel
theorem d_Pile_top_8 : decode prog_4_method_5_code 8 = .ok (.getfield 24, 3) := by decide +kernel
theorem d_Pile_top_11 : decode prog_4_method_5_code 11 = .ok (.bipush 100, 2) := by decide +kernel
theorem d_Pile_top_13 : decode prog_4_method_5_code 13 = .ok (.if_icmp .gt 17, 3) := by decide +kernel
theorem d_Pile_top_16 : decode prog_4_method_5_code 16 = .ok (.aload_n 0, 1) := by decide +kernel
theorem d_Pile_top_17 : decode prog_4_method_5_code 17 = .ok (.getfield 11, 3) := by decide +kernel
theorem d_Pile_top_20 : decode prog_4_method_5_code 20 = .ok (.aload_n 0, 1) := by decide +kernel
theorem d_Pile_top_21 : decode prog_4_method_5_code 21 = .ok (.getfield 24, 3) := by decide +kernel
theorem d_Pile_top_24 : decode prog_4_method_5_code 24 = .ok (.iconst 1, 1) := by decide +kernel
theorem d_Pile_top_25 : decode prog_4_method_5_code 25 = .ok (.isub, 1) := by decide +kernel
theorem d_Pile_top_26 : decode prog_4_method_5_code 26 = .ok (.aaload, 1) := by decide +kernel
theorem d_Pile_top_27 : decode prog_4_method_5_code 27 = .ok (.goto 4, 3) := by decide +kernel
theorem d_Pile_top_30 : decode prog_4_method_5_code 30 = .ok (.aconst_null, 1) := by decide +kernel
theorem d_Pile_top_31 : decode prog_4_method_5_code 31 = .ok (.areturn, 1) := by decide +kernel

def sp_top (hh : Int32) (lo : Nat → Option Nat) : Option Nat := if hh ≤ 0 then none else if 100 < hh then none else lo (hh - 1).toNatClampNeg
set_option maxHeartbeats 4000000 in
set_option maxRecDepth 100000 in
theorem c_top {l : Launch} {H0 : Heap} {D : va_G} {cI cL cQ cB : ClassId} {M : mp} {pi la pe tu : Nat} {sa : Nat → Nat} {hh : Int32} {hi : Int32} {lo : Nat → Option Nat} (gh0 : M pi = some (.inr (2, [.ref la, .ref pe, .ref tu, .int hh, .int hi]))) (gh1 : M la = some (.inl (cQ, 100, .inr (.inr (.inr (.inr (lq lo sa))))))) : MC l H0 D cls7 (tysOf cI cL cQ cB) NW ({ cls := "PerformRanges$Pile", name := "top", desc := "()LPerformRanges$Statement;" } : Jvm.MethodName) (Cond.code ({ cls := "PerformRanges$Pile", name := "top", desc := "()LPerformRanges$Statement;" } : Jvm.MethodName) prog_4_method_5_code 1 (Option.some (Jvm.ClassFile.FieldType.object "PerformRanges$Statement")) :: GW) ({ frames := 0, cells := 0, slots := 0, locals := 0 }) [.ref pi] M (fun v M' => v = some (va_rf (Option.map sa (sp_top hh lo))) ∧ M' = M) := by
  refine MC.of (cc := prog_4_method_5_code) (nL := 1) (ret := (Option.some (Jvm.ClassFile.FieldType.object "PerformRanges$Statement"))) (lv := [(0, .ref pi)]) (by decide) rfl (Nat.le_of_ble_eq_true rfl) rfl ?_
  intro p e s m below meth c X hr hlk hnm hK
  have k0 : (0 : Int32).toInt = 0 := rfl
  have k1 : (1 : Int32).toInt = 1 := rfl
  have k100 : (100 : Int32).toInt = 100 := rfl
  refine V.rd (pc' := 1) (fun hl => lv_aload_n X.1 X.2.1 d_Pile_top_0 rfl (lv_at hl 0 rfl)) ?_
  refine V.get (pc' := 4) X hK gh0 uw_Pile rfl 3 (by decide) (mcs wd_14) rfl d_Pile_top_1 rfl ?_
  refine V.br (pc' := 7) (tgt := 30) (P := hh ≤ 0) (lv_if_le X.1 X.2.1 d_Pile_top_4 (by decide)) (fun c_1 => ?_) (fun c_1 => ?_)
  · have i_2 := Int32.le_iff_toInt_le.mp c_1
    refine V.go (pc' := 31) (lv_null X.1 X.2.1 d_Pile_top_30) ?_
    exact V.aret X hr hlk (Or.inl rfl) ⟨(opt_ok (o' := none) (by simp only [sp_top, if_pos c_1]) rfl), rfl⟩ d_Pile_top_31
  · have i_3 := mt Int32.le_iff_toInt_le.mpr c_1
    refine V.rd (pc' := 8) (fun hl => lv_aload_n X.1 X.2.1 d_Pile_top_7 rfl (lv_at hl 0 rfl)) ?_
    refine V.get (pc' := 11) X hK gh0 uw_Pile rfl 3 (by decide) (mcs wd_14) rfl d_Pile_top_8 rfl ?_
    refine V.go (pc' := 13) (lv_bipush (v := 100) X.1 X.2.1 d_Pile_top_11 (by decide)) ?_
    refine V.br (pc' := 16) (tgt := 30) (P := 100 < hh) (lv_icmp_gt X.1 X.2.1 d_Pile_top_13 (by decide)) (fun c_4 => ?_) (fun c_4 => ?_)
    · have i_5 := Int32.lt_iff_toInt_lt.mp c_4
      refine V.go (pc' := 31) (lv_null X.1 X.2.1 d_Pile_top_30) ?_
      exact V.aret X hr hlk (Or.inl rfl) ⟨(opt_ok (o' := none) (by simp only [sp_top, if_neg c_1, if_pos c_4]) rfl), rfl⟩ d_Pile_top_31
    · have i_6 := mt Int32.lt_iff_toInt_lt.mpr c_4
      refine V.rd (pc' := 17) (fun hl => lv_aload_n X.1 X.2.1 d_Pile_top_16 rfl (lv_at hl 0 rfl)) ?_
      refine V.get (pc' := 20) X hK gh0 uw_Pile rfl 0 (by decide) (mcs wd_83) rfl d_Pile_top_17 rfl ?_
      refine V.rd (pc' := 21) (fun hl => lv_aload_n X.1 X.2.1 d_Pile_top_20 rfl (lv_at hl 0 rfl)) ?_
      refine V.get (pc' := 24) X hK gh0 uw_Pile rfl 3 (by decide) (mcs wd_14) rfl d_Pile_top_21 rfl ?_
      refine V.go (pc' := 25) (lv_iconst (v := 1) X.1 X.2.1 d_Pile_top_24 (by decide)) ?_
      refine V.go (pc' := 26) (lv_isub X.1 X.2.1 d_Pile_top_25) ?_
      have s_7 : (hh - 1).toInt = hh.toInt - 1 := i32_sub1 (by omega)
      refine V.aald (pc' := 27) X hK 2 gh1 rfl (vin (by omega) (by omega)) d_Pile_top_26 rfl ?_
      refine V.go (pc' := 31) (lv_goto X.1 X.2.1 d_Pile_top_27 (by decide)) ?_
      exact V.aret X hr hlk (va_rf_or _) ⟨(opt_ok (o' := lo (hh - 1).toNatClampNeg) (by simp only [sp_top, if_neg c_1, if_neg c_4]) rfl), rfl⟩ d_Pile_top_31

theorem top_lt {ns hh : Int32} {lo : Nat → Option Nat} {i : Nat} (hlo : ∀ k j : Nat, lo k = some j → (j : Int) < ns.toInt) (h : sp_top hh lo = some i) : (i : Int) < ns.toInt := by
  unfold sp_top at h
  split at h
  · cases h
  · split at h
    · cases h
    · exact hlo _ _ h

theorem d_Pile_endingAt_0 : decode prog_4_method_8_code 0 = .ok (.iconst 0, 1) := by decide +kernel
theorem d_Pile_endingAt_1 : decode prog_4_method_8_code 1 = .ok (.istore_n 2, 1) := by decide +kernel
theorem d_Pile_endingAt_2 : decode prog_4_method_8_code 2 = .ok (.iconst 0, 1) := by decide +kernel
theorem d_Pile_endingAt_3 : decode prog_4_method_8_code 3 = .ok (.istore_n 3, 1) := by decide +kernel
theorem d_Pile_endingAt_4 : decode prog_4_method_8_code 4 = .ok (.iload_n 3, 1) := by decide +kernel
theorem d_Pile_endingAt_5 : decode prog_4_method_8_code 5 = .ok (.aload_n 0, 1) := by decide +kernel
theorem d_Pile_endingAt_6 : decode prog_4_method_8_code 6 = .ok (.getfield 24, 3) := by decide +kernel
theorem d_Pile_endingAt_9 : decode prog_4_method_8_code 9 = .ok (.if_icmp .ge 40, 3) := by decide +kernel
theorem d_Pile_endingAt_12 : decode prog_4_method_8_code 12 = .ok (.iload_n 3, 1) := by decide +kernel
theorem d_Pile_endingAt_13 : decode prog_4_method_8_code 13 = .ok (.bipush 100, 2) := by decide +kernel
theorem d_Pile_endingAt_15 : decode prog_4_method_8_code 15 = .ok (.if_icmp .ge 34, 3) := by decide +kernel
theorem d_Pile_endingAt_18 : decode prog_4_method_8_code 18 = .ok (.aload_n 0, 1) := by decide +kernel
theorem d_Pile_endingAt_19 : decode prog_4_method_8_code 19 = .ok (.getfield 11, 3) := by decide +kernel
theorem d_Pile_endingAt_22 : decode prog_4_method_8_code 22 = .ok (.iload_n 3, 1) := by decide +kernel
theorem d_Pile_endingAt_23 : decode prog_4_method_8_code 23 = .ok (.aaload, 1) := by decide +kernel
theorem d_Pile_endingAt_24 : decode prog_4_method_8_code 24 = .ok (.astore 4, 2) := by decide +kernel
theorem d_Pile_endingAt_26 : decode prog_4_method_8_code 26 = .ok (.aload 4, 2) := by decide +kernel
theorem d_Pile_endingAt_28 : decode prog_4_method_8_code 28 = .ok (.ifnull 15, 3) := by decide +kernel
theorem d_Pile_endingAt_31 : decode prog_4_method_8_code 31 = .ok (.aload 4, 2) := by decide +kernel
theorem d_Pile_endingAt_33 : decode prog_4_method_8_code 33 = .ok (.getfield 41, 3) := by decide +kernel
theorem d_Pile_endingAt_36 : decode prog_4_method_8_code 36 = .ok (.iload_n 1, 1) := by decide +kernel
theorem d_Pile_endingAt_37 : decode prog_4_method_8_code 37 = .ok (.if_icmp .ne 6, 3) := by decide +kernel
theorem d_Pile_endingAt_40 : decode prog_4_method_8_code 40 = .ok (.iinc 2 1, 3) := by decide +kernel
theorem d_Pile_endingAt_43 : decode prog_4_method_8_code 43 = .ok (.iinc 3 1, 3) := by decide +kernel
theorem d_Pile_endingAt_46 : decode prog_4_method_8_code 46 = .ok (.goto (-42), 3) := by decide +kernel
theorem d_Pile_endingAt_49 : decode prog_4_method_8_code 49 = .ok (.iload_n 2, 1) := by decide +kernel
theorem d_Pile_endingAt_50 : decode prog_4_method_8_code 50 = .ok (.ireturn, 1) := by decide +kernel

def lp_endingAt (hh : Int32) (lo : Nat → Option Nat) (x : Int32) (σ : Nat → Stm) : Nat → Int32 → Int32 → Int32
  | 0, _, _ => 0
  | n_ + 1, fd, k => if hh ≤ k then fd else if 100 ≤ k then fd else oc (lo k.toNatClampNeg) (lp_endingAt hh lo x σ n_ fd (k + 1)) (fun i_10 => if (st_t (σ i_10)) = x then lp_endingAt hh lo x σ n_ (fd + 1) (k + 1) else lp_endingAt hh lo x σ n_ fd (k + 1))
set_option maxHeartbeats 4000000 in
set_option maxRecDepth 100000 in
theorem c_endingAt {l : Launch} {H0 : Heap} {D : va_G} {cI cL cQ cB : ClassId} {M : mp} {pi la pe tu : Nat} {sa u1 u2 u3 u4 u5 : Nat → Nat} {σ : Nat → Stm} {hh : Int32} {hi : Int32} {ns : Int32} {lo : Nat → Option Nat} {x : Int32} (gh0 : M pi = some (.inr (2, [.ref la, .ref pe, .ref tu, .int hh, .int hi]))) (gh1 : M la = some (.inl (cQ, 100, .inr (.inr (.inr (.inr (lq lo sa))))))) (hp : SP cI cL M ns sa u1 u2 u3 u4 u5 σ) (hσ : ∀ i : Nat, (i : Int) < ns.toInt → (st_l (σ i)).toInt ≤ 7) (hlo : ∀ k j : Nat, lo k = some j → (j : Int) < ns.toInt) : MC l H0 D cls7 (tysOf cI cL cQ cB) NW ({ cls := "PerformRanges$Pile", name := "endingAt", desc := "(I)I" } : Jvm.MethodName) (Cond.code ({ cls := "PerformRanges$Pile", name := "endingAt", desc := "(I)I" } : Jvm.MethodName) prog_4_method_8_code 5 (Option.some Jvm.ClassFile.FieldType.int) :: GW) ({ frames := 0, cells := 0, slots := 0, locals := 0 }) [.ref pi, .int x] M (fun v M' => v = some (.int (lp_endingAt hh lo x σ 101 0 0)) ∧ M' = M) := by
  refine MC.of (cc := prog_4_method_8_code) (nL := 5) (ret := (Option.some Jvm.ClassFile.FieldType.int)) (lv := [(0, .ref pi), (1, .int x)]) (by decide) rfl (Nat.le_of_ble_eq_true rfl) rfl ?_
  intro p e s m below meth c X hr hlk hnm hK
  have k0 : (0 : Int32).toInt = 0 := rfl
  have k100 : (100 : Int32).toInt = 100 := rfl
  refine V.go (pc' := 1) (lv_iconst (v := 0) X.1 X.2.1 d_Pile_endingAt_0 (by decide)) ?_
  refine V.wr (pc' := 2) (lv' := [(2, .int 0), (0, .ref pi), (1, .int x)]) (fun hl => lv_istore_n X.1 X.2.1 d_Pile_endingAt_1 rfl hl (by decide) rfl) ?_
  refine V.go (pc' := 3) (lv_iconst (v := 0) X.1 X.2.1 d_Pile_endingAt_2 (by decide)) ?_
  refine V.wr (pc' := 4) (lv' := [(3, .int 0), (2, .int 0), (0, .ref pi), (1, .int x)]) (fun hl => lv_istore_n X.1 X.2.1 d_Pile_endingAt_3 rfl hl (by decide) rfl) ?_
  obtain ⟨ze_9, hze_9⟩ : ∃ z, z = lp_endingAt hh lo x σ 101 0 0 := ⟨_, rfl⟩
  refine V.pick [2, 3, 1, 0] rfl ?_
  refine V.ind (α := Unit) (x0 := ()) (n0 := 101) (I := fun nn_ _ M' lv' => ∃ (fd : Int32) (k : Int32), lv' = [(0, .ref pi), (1, .int x), (2, .int fd), (3, .int k)] ∧ M' pi = some (.inr (2, [.ref la, .ref pe, .ref tu, .int hh, .int hi])) ∧ M' la = some (.inl (cQ, 100, .inr (.inr (.inr (.inr (lq lo sa)))))) ∧ M' = M ∧ (0 ≤ k.toInt ∧ k.toInt ≤ 100) ∧ (k.toInt + nn_ = 101) ∧ (0 ≤ fd.toInt ∧ fd.toInt ≤ k.toInt) ∧ lp_endingAt hh lo x σ nn_ fd k = ze_9) ⟨0, 0, rfl, gh0, gh1, rfl, (by omega), (by omega), (by omega), hze_9.symm⟩ (fun n_4 ih_5 _ M_3 lv_6 hI_7 => ?_)
  obtain ⟨fd, k, rfl, h_1, h_2, rfl, j1, j2, j3, e_9⟩ := hI_7
  obtain ⟨n_4, rfl⟩ : ∃ j, n_4 = j + 1 := ⟨n_4 - 1, by omega⟩
  refine V.rd (pc' := 5) (fun hl => lv_iload_n X.1 X.2.1 d_Pile_endingAt_4 rfl (lv_at hl 3 rfl)) ?_
  refine V.rd (pc' := 6) (fun hl => lv_aload_n X.1 X.2.1 d_Pile_endingAt_5 rfl (lv_at hl 0 rfl)) ?_
  refine V.get (pc' := 9) X hK h_1 uw_Pile rfl 3 (by decide) (mcs wd_14) rfl d_Pile_endingAt_6 rfl ?_
  refine V.br (pc' := 12) (tgt := 49) (P := hh ≤ k) (lv_icmp_ge X.1 X.2.1 d_Pile_endingAt_9 (by decide)) (fun c_10 => ?_) (fun c_10 => ?_)
  · have i_11 := Int32.le_iff_toInt_le.mp c_10
    refine V.rd (pc' := 50) (fun hl => lv_iload_n X.1 X.2.1 d_Pile_endingAt_49 rfl (lv_at hl 2 rfl)) ?_
    rw [lp_endingAt] at e_9
    simp only [if_pos c_10] at e_9
    exact V.iret X hr hlk ⟨(by exact congrArg (fun z => some (Value.int z)) (e_9.trans hze_9)), rfl⟩ d_Pile_endingAt_50
  · have i_12 := mt Int32.le_iff_toInt_le.mpr c_10
    refine V.rd (pc' := 13) (fun hl => lv_iload_n X.1 X.2.1 d_Pile_endingAt_12 rfl (lv_at hl 3 rfl)) ?_
    refine V.go (pc' := 15) (lv_bipush (v := 100) X.1 X.2.1 d_Pile_endingAt_13 (by decide)) ?_
    refine V.br (pc' := 18) (tgt := 49) (P := 100 ≤ k) (lv_icmp_ge X.1 X.2.1 d_Pile_endingAt_15 (by decide)) (fun c_13 => ?_) (fun c_13 => ?_)
    · have i_14 := Int32.le_iff_toInt_le.mp c_13
      refine V.rd (pc' := 50) (fun hl => lv_iload_n X.1 X.2.1 d_Pile_endingAt_49 rfl (lv_at hl 2 rfl)) ?_
      rw [lp_endingAt] at e_9
      simp only [if_neg c_10, if_pos c_13] at e_9
      exact V.iret X hr hlk ⟨(by exact congrArg (fun z => some (Value.int z)) (e_9.trans hze_9)), rfl⟩ d_Pile_endingAt_50
    · have i_15 := mt Int32.le_iff_toInt_le.mpr c_13
      refine V.rd (pc' := 19) (fun hl => lv_aload_n X.1 X.2.1 d_Pile_endingAt_18 rfl (lv_at hl 0 rfl)) ?_
      refine V.get (pc' := 22) X hK h_1 uw_Pile rfl 0 (by decide) (mcs wd_83) rfl d_Pile_endingAt_19 rfl ?_
      refine V.rd (pc' := 23) (fun hl => lv_iload_n X.1 X.2.1 d_Pile_endingAt_22 rfl (lv_at hl 3 rfl)) ?_
      refine V.aald (pc' := 24) X hK 2 h_2 rfl (vin (by omega) (by omega)) d_Pile_endingAt_23 rfl ?_
      refine V.sp (o := lo k.toNatClampNeg) (fun c_16 => ?_) (fun i_17 c_16 => ?_)
      · refine V.wr (pc' := 26) (lv' := [(4, .null), (0, .ref pi), (1, .int x), (2, .int fd), (3, .int k)]) (fun hl => lv_astoreN X.1 X.2.1 d_Pile_endingAt_24 hl (by decide) rfl) ?_
        refine V.rd (pc' := 28) (fun hl => lv_aloadN X.1 X.2.1 d_Pile_endingAt_26 (lv_at hl 0 rfl)) ?_
        refine V.go (pc' := 43) (lv_ifnullN X.1 X.2.1 d_Pile_endingAt_28 (by decide)) ?_
        refine V.wr (pc' := 46) (lv' := [(3, .int (k + 1)), (4, .null), (0, .ref pi), (1, .int x), (2, .int fd)]) (fun hl => lv_iinc (k := 4) (v := k + 1) X.1 X.2.1 d_Pile_endingAt_43 hl rfl rfl (by decide) rfl) ?_
        have s_18 : (k + 1).toInt = k.toInt + (1) := i32_add1 (by omega)
        refine V.go (pc' := 4) (lv_goto X.1 X.2.1 d_Pile_endingAt_46 (by decide)) ?_
        refine V.pick [2, 3, 4, 0] rfl ?_
        exact ih_5 n_4 (by omega) () _ _ ⟨fd, (k + 1), rfl, h_1, h_2, rfl, (by omega), (by omega), (by omega), (by rw [← e_9, lp_endingAt]; simp only [if_neg c_10, if_neg c_13, c_16, oc_none])⟩
      · have hlt_25 : (i_17 : Int) < ns.toInt := hlo _ _ c_16
        have hs_26 := hσ i_17 hlt_25
        obtain ⟨h_19, h_20, h_21, h_22, h_23, h_24⟩ := hp i_17 hlt_25
        refine V.wr (pc' := 26) (lv' := [(4, .ref (sa i_17)), (0, .ref pi), (1, .int x), (2, .int fd), (3, .int k)]) (fun hl => lv_astore X.1 X.2.1 d_Pile_endingAt_24 hl (by decide) rfl) ?_
        refine V.rd (pc' := 28) (fun hl => lv_aload X.1 X.2.1 d_Pile_endingAt_26 (lv_at hl 0 rfl)) ?_
        refine V.go (pc' := 31) (lv_ifnull X.1 X.2.1 d_Pile_endingAt_28) ?_
        refine V.rd (pc' := 33) (fun hl => lv_aload X.1 X.2.1 d_Pile_endingAt_31 (lv_at hl 0 rfl)) ?_
        refine V.getN (pc' := 36) X hK h_19 uw_Statement rfl 1 (by decide) (List.mem_of_getElem? (i := 12) rfl) rfl d_Pile_endingAt_33 rfl ?_
        refine V.rd (pc' := 37) (fun hl => lv_iload_n X.1 X.2.1 d_Pile_endingAt_36 rfl (lv_at hl 2 rfl)) ?_
        refine V.bn (pc' := 40) (tgt := 43) (P := (st_t (σ i_17)) = x) (lv_icmp_ne X.1 X.2.1 d_Pile_endingAt_37 (by decide)) (fun c_27 => ?_) (fun c_27 => ?_)
        · have i_28 := congrArg Int32.toInt c_27
          refine V.wr (pc' := 43) (lv' := [(2, .int (fd + 1)), (4, .ref (sa i_17)), (0, .ref pi), (1, .int x), (3, .int k)]) (fun hl => lv_iinc (k := 3) (v := fd + 1) X.1 X.2.1 d_Pile_endingAt_40 hl rfl rfl (by decide) rfl) ?_
          have s_29 : (fd + 1).toInt = fd.toInt + (1) := i32_add1 (by omega)
          refine V.wr (pc' := 46) (lv' := [(3, .int (k + 1)), (2, .int (fd + 1)), (4, .ref (sa i_17)), (0, .ref pi), (1, .int x)]) (fun hl => lv_iinc (k := 4) (v := k + 1) X.1 X.2.1 d_Pile_endingAt_43 hl rfl rfl (by decide) rfl) ?_
          have s_30 : (k + 1).toInt = k.toInt + (1) := i32_add1 (by omega)
          refine V.go (pc' := 4) (lv_goto X.1 X.2.1 d_Pile_endingAt_46 (by decide)) ?_
          refine V.pick [3, 4, 1, 0] rfl ?_
          exact ih_5 n_4 (by omega) () _ _ ⟨(fd + 1), (k + 1), rfl, h_1, h_2, rfl, (by omega), (by omega), (by omega), (by rw [← e_9, lp_endingAt]; simp only [if_neg c_10, if_neg c_13, c_16, oc_some, if_pos c_27])⟩
        · have i_31 := mt Int32.toInt_inj.mp c_27
          refine V.wr (pc' := 46) (lv' := [(3, .int (k + 1)), (4, .ref (sa i_17)), (0, .ref pi), (1, .int x), (2, .int fd)]) (fun hl => lv_iinc (k := 4) (v := k + 1) X.1 X.2.1 d_Pile_endingAt_43 hl rfl rfl (by decide) rfl) ?_
          have s_32 : (k + 1).toInt = k.toInt + (1) := i32_add1 (by omega)
          refine V.go (pc' := 4) (lv_goto X.1 X.2.1 d_Pile_endingAt_46 (by decide)) ?_
          refine V.pick [2, 3, 4, 0] rfl ?_
          exact ih_5 n_4 (by omega) () _ _ ⟨fd, (k + 1), rfl, h_1, h_2, rfl, (by omega), (by omega), (by omega), (by rw [← e_9, lp_endingAt]; simp only [if_neg c_10, if_neg c_13, c_16, oc_some, if_neg c_27])⟩
end
section
theorem wd_86 : (Jvm.Cond.fieldLink "PerformRanges$Course" (25 : Nat) "PerformRanges$Course" "ending" "I") ∈ GW := gw_of (i := 127) (by decide +kernel) (by decide +kernel)
theorem wd_87 : (Jvm.Cond.fieldLink "PerformRanges$Course" (29 : Nat) "PerformRanges$Course" "program" "LPerformRanges$Program;") ∈ GW := gw_of (i := 120) (by decide +kernel) (by decide +kernel)
theorem wd_88 : (Jvm.Cond.methodLink "PerformRanges$Course" (107 : Nat) ({ cls := "PerformRanges$Program", name := "isParagraph", desc := "(I)Z" } : Jvm.MethodName)) ∈ GW := gw_of (i := 365) (by decide +kernel) (by decide +kernel)
theorem wd_89 : (Jvm.Cond.methodLink "PerformRanges$Course" (44 : Nat) ({ cls := "PerformRanges$Course", name := "end", desc := "(I)I" } : Jvm.MethodName)) ∈ GW := gw_of (i := 289) (by decide +kernel) (by decide +kernel)
theorem wd_90 : (Jvm.Cond.instanceMethod ({ cls := "PerformRanges$Course", name := "end", desc := "(I)I" } : Jvm.MethodName)) ∈ GW := gw_of (i := 291) (by decide +kernel) (by decide +kernel)
theorem wd_91 : (Jvm.Cond.selects "PerformRanges$Course" ({ cls := "PerformRanges$Course", name := "end", desc := "(I)I" } : Jvm.MethodName) ({ cls := "PerformRanges$Course", name := "end", desc := "(I)I" } : Jvm.MethodName)) ∈ GW := gw_of (i := 2) (by decide +kernel) (by decide +kernel)
theorem wd_92 : (Jvm.Cond.initialized "PerformRanges$Course") ∈ GW := gw_of (i := 33) (by decide +kernel) (by decide +kernel)
theorem wd_93 : (Jvm.Cond.code ({ cls := "PerformRanges$Course", name := "end", desc := "(I)I" } : Jvm.MethodName) prog_3_method_5_code (2 : Nat) (Option.some Jvm.ClassFile.FieldType.int)) ∈ GW := gw_of (i := 292) (by decide +kernel) (by decide +kernel)
theorem wd_94 : (Jvm.Cond.methodLink "PerformRanges$Course" (91 : Nat) ({ cls := "PerformRanges$Program", name := "doingOf", desc := "(I)I" } : Jvm.MethodName)) ∈ GW := gw_of (i := 359) (by decide +kernel) (by decide +kernel)
theorem wd_95 : (Jvm.Cond.fieldLink "PerformRanges$Course" (12 : Nat) "PerformRanges$Course" "cells" "LPerformRanges$Cells;") ∈ GW := gw_of (i := 121) (by decide +kernel) (by decide +kernel)
theorem wd_96 : (Jvm.Cond.methodLink "PerformRanges$Course" (94 : Nat) ({ cls := "PerformRanges$Cells", name := "grow", desc := "(IJ)V" } : Jvm.MethodName)) ∈ GW := gw_of (i := 360) (by decide +kernel) (by decide +kernel)
theorem wd_97 : (Jvm.Cond.methodLink "PerformRanges$Course" (98 : Nat) ({ cls := "PerformRanges$Course", name := "going", desc := "(I)I" } : Jvm.MethodName)) ∈ GW := gw_of (i := 361) (by decide +kernel) (by decide +kernel)
theorem wd_98 : (Jvm.Cond.instanceMethod ({ cls := "PerformRanges$Course", name := "going", desc := "(I)I" } : Jvm.MethodName)) ∈ GW := gw_of (i := 363) (by decide +kernel) (by decide +kernel)
theorem wd_99 : (Jvm.Cond.selects "PerformRanges$Course" ({ cls := "PerformRanges$Course", name := "going", desc := "(I)I" } : Jvm.MethodName) ({ cls := "PerformRanges$Course", name := "going", desc := "(I)I" } : Jvm.MethodName)) ∈ GW := gw_of (i := 10) (by decide +kernel) (by decide +kernel)
theorem wd_100 : (Jvm.Cond.code ({ cls := "PerformRanges$Course", name := "going", desc := "(I)I" } : Jvm.MethodName) prog_3_method_8_code (2 : Nat) (Option.some Jvm.ClassFile.FieldType.int)) ∈ GW := gw_of (i := 364) (by decide +kernel) (by decide +kernel)
theorem wd_101 : (Jvm.Cond.methodLink "PerformRanges$Course" (101 : Nat) ({ cls := "PerformRanges$Cells", name := "value", desc := "(I)J" } : Jvm.MethodName)) ∈ GW := gw_of (i := 366) (by decide +kernel) (by decide +kernel)
theorem wd_102 : (Jvm.Cond.constantLong "PerformRanges$Course" (105 : Nat) (-1 : Int64)) ∈ GW := gw_of (i := 367) (by decide +kernel) (by decide +kernel)
theorem wd_103 : (Jvm.Cond.methodLink "PerformRanges$Course" (66 : Nat) ({ cls := "PerformRanges$Program", name := "wholeStatementAt", desc := "(I)LPerformRanges$Statement;" } : Jvm.MethodName)) ∈ GW := gw_of (i := 288) (by decide +kernel) (by decide +kernel)
theorem wd_104 : (Jvm.Cond.instanceMethod ({ cls := "PerformRanges$Program", name := "wholeStatementAt", desc := "(I)LPerformRanges$Statement;" } : Jvm.MethodName)) ∈ GW := gw_of (i := 267) (by decide +kernel) (by decide +kernel)
theorem wd_105 : (Jvm.Cond.selects "PerformRanges$Program" ({ cls := "PerformRanges$Program", name := "wholeStatementAt", desc := "(I)LPerformRanges$Statement;" } : Jvm.MethodName) ({ cls := "PerformRanges$Program", name := "wholeStatementAt", desc := "(I)LPerformRanges$Statement;" } : Jvm.MethodName)) ∈ GW := gw_of (i := 268) (by decide +kernel) (by decide +kernel)
theorem wd_106 : (Jvm.Cond.code ({ cls := "PerformRanges$Program", name := "wholeStatementAt", desc := "(I)LPerformRanges$Statement;" } : Jvm.MethodName) prog_5_method_11_code (3 : Nat) (Option.some (Jvm.ClassFile.FieldType.object "PerformRanges$Statement"))) ∈ GW := gw_of (i := 269) (by decide +kernel) (by decide +kernel)
theorem wd_107 : (Jvm.Cond.fieldLink "PerformRanges$Course" (21 : Nat) "PerformRanges$Course" "pile" "LPerformRanges$Pile;") ∈ GW := gw_of (i := 123) (by decide +kernel) (by decide +kernel)
theorem wd_108 : (Jvm.Cond.methodLink "PerformRanges$Course" (70 : Nat) ({ cls := "PerformRanges$Pile", name := "isFull", desc := "()Z" } : Jvm.MethodName)) ∈ GW := gw_of (i := 293) (by decide +kernel) (by decide +kernel)
theorem wd_109 : (Jvm.Cond.methodLink "PerformRanges$Course" (74 : Nat) ({ cls := "PerformRanges$Pile", name := "lay", desc := "(LPerformRanges$Statement;I)V" } : Jvm.MethodName)) ∈ GW := gw_of (i := 297) (by decide +kernel) (by decide +kernel)
theorem wd_110 : (Jvm.Cond.instanceMethod ({ cls := "PerformRanges$Pile", name := "lay", desc := "(LPerformRanges$Statement;I)V" } : Jvm.MethodName)) ∈ GW := gw_of (i := 298) (by decide +kernel) (by decide +kernel)
theorem wd_111 : (Jvm.Cond.selects "PerformRanges$Pile" ({ cls := "PerformRanges$Pile", name := "lay", desc := "(LPerformRanges$Statement;I)V" } : Jvm.MethodName) ({ cls := "PerformRanges$Pile", name := "lay", desc := "(LPerformRanges$Statement;I)V" } : Jvm.MethodName)) ∈ GW := gw_of (i := 299) (by decide +kernel) (by decide +kernel)
theorem wd_112 : (Jvm.Cond.code ({ cls := "PerformRanges$Pile", name := "lay", desc := "(LPerformRanges$Statement;I)V" } : Jvm.MethodName) prog_4_method_4_code (3 : Nat) (Option.none : Option Jvm.ClassFile.FieldType)) ∈ GW := gw_of (i := 300) (by decide +kernel) (by decide +kernel)
theorem wd_113 : (Jvm.Cond.methodLink "PerformRanges$Course" (78 : Nat) ({ cls := "PerformRanges$Statement", name := "goesAtFirst", desc := "(LPerformRanges$Cells;)Z" } : Jvm.MethodName)) ∈ GW := gw_of (i := 303) (by decide +kernel) (by decide +kernel)
theorem wd_114 : (Jvm.Cond.instanceMethod ({ cls := "PerformRanges$Statement", name := "goesAtFirst", desc := "(LPerformRanges$Cells;)Z" } : Jvm.MethodName)) ∈ GW := gw_of (i := 304) (by decide +kernel) (by decide +kernel)
theorem wd_115 : (Jvm.Cond.selects "PerformRanges$Statement" ({ cls := "PerformRanges$Statement", name := "goesAtFirst", desc := "(LPerformRanges$Cells;)Z" } : Jvm.MethodName) ({ cls := "PerformRanges$Statement", name := "goesAtFirst", desc := "(LPerformRanges$Cells;)Z" } : Jvm.MethodName)) ∈ GW := gw_of (i := 305) (by decide +kernel) (by decide +kernel)
theorem wd_116 : (Jvm.Cond.code ({ cls := "PerformRanges$Statement", name := "goesAtFirst", desc := "(LPerformRanges$Cells;)Z" } : Jvm.MethodName) prog_6_method_5_code (2 : Nat) (Option.some Jvm.ClassFile.FieldType.boolean)) ∈ GW := gw_of (i := 306) (by decide +kernel) (by decide +kernel)
theorem wd_117 : (Jvm.Cond.methodLink "PerformRanges$Course" (87 : Nat) ({ cls := "PerformRanges$Pile", name := "takeOff", desc := "()I" } : Jvm.MethodName)) ∈ GW := gw_of (i := 339) (by decide +kernel) (by decide +kernel)
theorem wd_118 : (Jvm.Cond.instanceMethod ({ cls := "PerformRanges$Pile", name := "takeOff", desc := "()I" } : Jvm.MethodName)) ∈ GW := gw_of (i := 340) (by decide +kernel) (by decide +kernel)
theorem wd_119 : (Jvm.Cond.selects "PerformRanges$Pile" ({ cls := "PerformRanges$Pile", name := "takeOff", desc := "()I" } : Jvm.MethodName) ({ cls := "PerformRanges$Pile", name := "takeOff", desc := "()I" } : Jvm.MethodName)) ∈ GW := gw_of (i := 341) (by decide +kernel) (by decide +kernel)
theorem wd_120 : (Jvm.Cond.code ({ cls := "PerformRanges$Pile", name := "takeOff", desc := "()I" } : Jvm.MethodName) prog_4_method_7_code (1 : Nat) (Option.some Jvm.ClassFile.FieldType.int)) ∈ GW := gw_of (i := 342) (by decide +kernel) (by decide +kernel)
theorem wd_121 : (Jvm.Cond.methodLink "PerformRanges$Course" (111 : Nat) ({ cls := "PerformRanges$Program", name := "goingOf", desc := "(I)I" } : Jvm.MethodName)) ∈ GW := gw_of (i := 372) (by decide +kernel) (by decide +kernel)
theorem wd_122 : (Jvm.Cond.instanceMethod ({ cls := "PerformRanges$Program", name := "goingOf", desc := "(I)I" } : Jvm.MethodName)) ∈ GW := gw_of (i := 373) (by decide +kernel) (by decide +kernel)
theorem wd_123 : (Jvm.Cond.selects "PerformRanges$Program" ({ cls := "PerformRanges$Program", name := "goingOf", desc := "(I)I" } : Jvm.MethodName) ({ cls := "PerformRanges$Program", name := "goingOf", desc := "(I)I" } : Jvm.MethodName)) ∈ GW := gw_of (i := 374) (by decide +kernel) (by decide +kernel)
theorem wd_124 : (Jvm.Cond.code ({ cls := "PerformRanges$Program", name := "goingOf", desc := "(I)I" } : Jvm.MethodName) prog_5_method_7_code (2 : Nat) (Option.some Jvm.ClassFile.FieldType.int)) ∈ GW := gw_of (i := 375) (by decide +kernel) (by decide +kernel)
theorem wd_125 : (Jvm.Cond.methodLink "PerformRanges$Course" (114 : Nat) ({ cls := "PerformRanges$Pile", name := "top", desc := "()LPerformRanges$Statement;" } : Jvm.MethodName)) ∈ GW := gw_of (i := 376) (by decide +kernel) (by decide +kernel)
theorem wd_126 : (Jvm.Cond.instanceMethod ({ cls := "PerformRanges$Pile", name := "top", desc := "()LPerformRanges$Statement;" } : Jvm.MethodName)) ∈ GW := gw_of (i := 377) (by decide +kernel) (by decide +kernel)
theorem wd_127 : (Jvm.Cond.selects "PerformRanges$Pile" ({ cls := "PerformRanges$Pile", name := "top", desc := "()LPerformRanges$Statement;" } : Jvm.MethodName) ({ cls := "PerformRanges$Pile", name := "top", desc := "()LPerformRanges$Statement;" } : Jvm.MethodName)) ∈ GW := gw_of (i := 378) (by decide +kernel) (by decide +kernel)
theorem wd_128 : (Jvm.Cond.code ({ cls := "PerformRanges$Pile", name := "top", desc := "()LPerformRanges$Statement;" } : Jvm.MethodName) prog_4_method_5_code (1 : Nat) (Option.some (Jvm.ClassFile.FieldType.object "PerformRanges$Statement"))) ∈ GW := gw_of (i := 379) (by decide +kernel) (by decide +kernel)
theorem wd_129 : (Jvm.Cond.methodLink "PerformRanges$Course" (121 : Nat) ({ cls := "PerformRanges$Course", name := "falling", desc := "(I)I" } : Jvm.MethodName)) ∈ GW := gw_of (i := 380) (by decide +kernel) (by decide +kernel)
theorem wd_130 : (Jvm.Cond.instanceMethod ({ cls := "PerformRanges$Course", name := "falling", desc := "(I)I" } : Jvm.MethodName)) ∈ GW := gw_of (i := 382) (by decide +kernel) (by decide +kernel)
theorem wd_131 : (Jvm.Cond.selects "PerformRanges$Course" ({ cls := "PerformRanges$Course", name := "falling", desc := "(I)I" } : Jvm.MethodName) ({ cls := "PerformRanges$Course", name := "falling", desc := "(I)I" } : Jvm.MethodName)) ∈ GW := gw_of (i := 12) (by decide +kernel) (by decide +kernel)
theorem wd_132 : (Jvm.Cond.code ({ cls := "PerformRanges$Course", name := "falling", desc := "(I)I" } : Jvm.MethodName) prog_3_method_10_code (2 : Nat) (Option.some Jvm.ClassFile.FieldType.int)) ∈ GW := gw_of (i := 383) (by decide +kernel) (by decide +kernel)
theorem wd_133 : (Jvm.Cond.methodLink "PerformRanges$Course" (124 : Nat) ({ cls := "PerformRanges$Pile", name := "countTurn", desc := "()I" } : Jvm.MethodName)) ∈ GW := gw_of (i := 384) (by decide +kernel) (by decide +kernel)
theorem wd_134 : (Jvm.Cond.instanceMethod ({ cls := "PerformRanges$Pile", name := "countTurn", desc := "()I" } : Jvm.MethodName)) ∈ GW := gw_of (i := 385) (by decide +kernel) (by decide +kernel)
theorem wd_135 : (Jvm.Cond.selects "PerformRanges$Pile" ({ cls := "PerformRanges$Pile", name := "countTurn", desc := "()I" } : Jvm.MethodName) ({ cls := "PerformRanges$Pile", name := "countTurn", desc := "()I" } : Jvm.MethodName)) ∈ GW := gw_of (i := 386) (by decide +kernel) (by decide +kernel)
theorem wd_136 : (Jvm.Cond.code ({ cls := "PerformRanges$Pile", name := "countTurn", desc := "()I" } : Jvm.MethodName) prog_4_method_6_code (1 : Nat) (Option.some Jvm.ClassFile.FieldType.int)) ∈ GW := gw_of (i := 387) (by decide +kernel) (by decide +kernel)
theorem wd_137 : (Jvm.Cond.methodLink "PerformRanges$Course" (127 : Nat) ({ cls := "PerformRanges$Statement", name := "goesOnceMore", desc := "(ILPerformRanges$Cells;)Z" } : Jvm.MethodName)) ∈ GW := gw_of (i := 388) (by decide +kernel) (by decide +kernel)
theorem wd_138 : (Jvm.Cond.instanceMethod ({ cls := "PerformRanges$Statement", name := "goesOnceMore", desc := "(ILPerformRanges$Cells;)Z" } : Jvm.MethodName)) ∈ GW := gw_of (i := 389) (by decide +kernel) (by decide +kernel)
theorem wd_139 : (Jvm.Cond.selects "PerformRanges$Statement" ({ cls := "PerformRanges$Statement", name := "goesOnceMore", desc := "(ILPerformRanges$Cells;)Z" } : Jvm.MethodName) ({ cls := "PerformRanges$Statement", name := "goesOnceMore", desc := "(ILPerformRanges$Cells;)Z" } : Jvm.MethodName)) ∈ GW := gw_of (i := 390) (by decide +kernel) (by decide +kernel)
theorem wd_140 : (Jvm.Cond.code ({ cls := "PerformRanges$Statement", name := "goesOnceMore", desc := "(ILPerformRanges$Cells;)Z" } : Jvm.MethodName) prog_6_method_6_code (3 : Nat) (Option.some Jvm.ClassFile.FieldType.boolean)) ∈ GW := gw_of (i := 391) (by decide +kernel) (by decide +kernel)
theorem d_Course_end_0 : decode prog_3_method_5_code 0 = .ok (.aload_n 0, 1) := by decide +kernel
theorem d_Course_end_1 : decode prog_3_method_5_code 1 = .ok (.iload_n 1, 1) := by decide +kernel
theorem d_Course_end_2 : decode prog_3_method_5_code 2 = .ok (.putfield 25, 3) := by decide +kernel
theorem d_Course_end_5 : decode prog_3_method_5_code 5 = .ok (.iconst 0, 1) := by decide +kernel
theorem d_Course_end_6 : decode prog_3_method_5_code 6 = .ok (.ireturn, 1) := by decide +kernel

set_option maxHeartbeats 4000000 in
set_option maxRecDepth 100000 in
theorem c_Course_end {l : Launch} {H0 : Heap} {D : va_G} {cI cL cQ cB : ClassId} {M : mp} {co pg ce pi ra : Nat} {ln : Int32} {en : Int32} {x : Int32} (gh0 : M co = some (.inr (1, [.ref pg, .ref ce, .ref pi, .ref ra, .int ln, .int en]))) : MC l H0 D cls7 (tysOf cI cL cQ cB) NW ({ cls := "PerformRanges$Course", name := "end", desc := "(I)I" } : Jvm.MethodName) (Cond.code ({ cls := "PerformRanges$Course", name := "end", desc := "(I)I" } : Jvm.MethodName) prog_3_method_5_code 2 (Option.some Jvm.ClassFile.FieldType.int) :: GW) ({ frames := 0, cells := 0, slots := 0, locals := 0 }) [.ref co, .int x] M (fun v M' => v = some (.int 0) ∧ M' co = some (.inr (1, [.ref pg, .ref ce, .ref pi, .ref ra, .int ln, .int x])) ∧ ∀ q, q ≠ co → M' q = M q) := by
  refine MC.of (cc := prog_3_method_5_code) (nL := 2) (ret := (Option.some Jvm.ClassFile.FieldType.int)) (lv := [(0, .ref co), (1, .int x)]) (by decide) rfl (Nat.le_of_ble_eq_true rfl) rfl ?_
  intro p e s m below meth c X hr hlk hnm hK
  have k0 : (0 : Int32).toInt = 0 := rfl
  refine V.rd (pc' := 1) (fun hl => lv_aload_n X.1 X.2.1 d_Course_end_0 rfl (lv_at hl 0 rfl)) ?_
  refine V.rd (pc' := 2) (fun hl => lv_iload_n X.1 X.2.1 d_Course_end_1 rfl (lv_at hl 1 rfl)) ?_
  refine V.put (pc' := 5) X hK gh0 uw_Course t_Course tok_Course nm_Course rfl 5 (by decide) (mcs wd_86) rfl rfl rfl (Nat.le_of_ble_eq_true rfl) (fs' := [.ref pg, .ref ce, .ref pi, .ref ra, .int ln, .int x]) rfl d_Course_end_2 rfl (fun M_1 h_2 fr_3 => ?_)
  refine V.go (pc' := 6) (lv_iconst (v := 0) X.1 X.2.1 d_Course_end_5 (by decide)) ?_
  exact V.iret X hr hlk ⟨rfl, h_2, (fun q n0_ => (fr_3 q n0_))⟩ d_Course_end_6

theorem d_Course_going_0 : decode prog_3_method_8_code 0 = .ok (.aload_n 0, 1) := by decide +kernel
theorem d_Course_going_1 : decode prog_3_method_8_code 1 = .ok (.getfield 29, 3) := by decide +kernel
theorem d_Course_going_4 : decode prog_3_method_8_code 4 = .ok (.iload_n 1, 1) := by decide +kernel
theorem d_Course_going_5 : decode prog_3_method_8_code 5 = .ok (.invokevirtual 107, 3) := by decide +kernel
theorem d_Course_going_8 : decode prog_3_method_8_code 8 = .ok (.ifCond .eq 7, 3) := by decide +kernel
theorem d_Course_going_11 : decode prog_3_method_8_code 11 = .ok (.iload_n 1, 1) := by decide +kernel
theorem d_Course_going_12 : decode prog_3_method_8_code 12 = .ok (.goto 8, 3) := by decide +kernel
theorem d_Course_going_15 : decode prog_3_method_8_code 15 = .ok (.aload_n 0, 1) := by decide +kernel
theorem d_Course_going_16 : decode prog_3_method_8_code 16 = .ok (.iconst 3, 1) := by decide +kernel
theorem d_Course_going_17 : decode prog_3_method_8_code 17 = .ok (.invokevirtual 44, 3) := by decide +kernel
theorem d_Course_going_20 : decode prog_3_method_8_code 20 = .ok (.ireturn, 1) := by decide +kernel

def sp_going (np : Int32) (x : Int32) : Int32 := if (sp_isParagraph np x) = 0 then 0 else x
def sp_going_co_5 (en : Int32) (np : Int32) (x : Int32) : Int32 := if (sp_isParagraph np x) = 0 then 3 else en
set_option maxHeartbeats 4000000 in
set_option maxRecDepth 100000 in
theorem c_going {l : Launch} {H0 : Heap} {D : va_G} {cI cL cQ cB : ClassId} {M : mp} {co pg ce pi ra dg gg tg0 : Nat} {ln : Int32} {en : Int32} {np : Int32} {ns : Int32} {x : Int32} (gh0 : M co = some (.inr (1, [.ref pg, .ref ce, .ref pi, .ref ra, .int ln, .int en]))) (gh1 : M pg = some (.inr (3, [.ref dg, .ref gg, .ref tg0, .int np, .int ns]))) : MC l H0 D cls7 (tysOf cI cL cQ cB) NW ({ cls := "PerformRanges$Course", name := "going", desc := "(I)I" } : Jvm.MethodName) (Cond.code ({ cls := "PerformRanges$Course", name := "going", desc := "(I)I" } : Jvm.MethodName) prog_3_method_8_code 2 (Option.some Jvm.ClassFile.FieldType.int) :: GW) ({ frames := 1, cells := 0, slots := 0, locals := 21 }) [.ref co, .int x] M (fun v M' => v = some (.int (sp_going np x)) ∧ M' co = some (.inr (1, [.ref pg, .ref ce, .ref pi, .ref ra, .int ln, .int (sp_going_co_5 en np x)])) ∧ ∀ q, q ≠ co → M' q = M q) := by
  refine MC.of (cc := prog_3_method_8_code) (nL := 2) (ret := (Option.some Jvm.ClassFile.FieldType.int)) (lv := [(0, .ref co), (1, .int x)]) (by decide) rfl (Nat.le_of_ble_eq_true rfl) rfl ?_
  intro p e s m below meth c X hr hlk hnm hK
  have k0 : (0 : Int32).toInt = 0 := rfl
  have k3 : (3 : Int32).toInt = 3 := rfl
  refine V.rd (pc' := 1) (fun hl => lv_aload_n X.1 X.2.1 d_Course_going_0 rfl (lv_at hl 0 rfl)) ?_
  refine V.get (pc' := 4) X hK gh0 uw_Course rfl 0 (by decide) (mcs wd_87) rfl d_Course_going_1 rfl ?_
  refine V.rd (pc' := 5) (fun hl => lv_iload_n X.1 X.2.1 d_Course_going_4 rfl (lv_at hl 1 rfl)) ?_
  refine V.callV0 (pc' := 8) X hK (c_isParagraph  (pg := pg) (dg := dg) (gg := gg) (tg0 := tg0) (np := np) (ns := ns) (x := x)   gh1  ) gh1 rfl (cwG (n := 1) X (mcs wd_88) (mcs wd_5) (mcs wd_6) (mcs wd_7) wd_8 (by decide +kernel) (by decide) (by decide)) rfl rfl (Nat.le_of_ble_eq_true rfl) d_Course_going_5 ⟨by decide, by decide⟩ rfl (st1 := [.int (sp_isParagraph np x)]) rfl ?_
  refine V.br (pc' := 11) (tgt := 15) (P := (sp_isParagraph np x) = 0) (lv_if_eq X.1 X.2.1 d_Course_going_8 (by decide)) (fun c_2 => ?_) (fun c_2 => ?_)
  · have i_3 := congrArg Int32.toInt c_2
    refine V.rd (pc' := 16) (fun hl => lv_aload_n X.1 X.2.1 d_Course_going_15 rfl (lv_at hl 0 rfl)) ?_
    refine V.go (pc' := 17) (lv_iconst (v := 3) X.1 X.2.1 d_Course_going_16 (by decide)) ?_
    refine V.callV (pc' := 20) X hK (c_Course_end  (co := co) (pg := pg) (ce := ce) (pi := pi) (ra := ra) (ln := ln) (en := en) (x := 3)   gh0  ) gh0 rfl (cwG (n := 1) X (mcs wd_89) (mcs wd_90) (mcs wd_91) (mcs wd_92) wd_93 (by decide +kernel) (by decide) (by decide)) rfl rfl (Nat.le_of_ble_eq_true rfl) d_Course_going_17 ⟨by decide, by decide⟩ rfl (st1 := [.int 0]) rfl (fun M_4 ⟨h_5, fr_6⟩ => ?_)
    have h_7 : M_4 pg = some (.inr (3, [.ref dg, .ref gg, .ref tg0, .int np, .int ns])) := (fr_6 _ (ne_k gh1 gh0 (i := 3) (j := 1) rfl rfl (by decide))).trans gh1
    exact V.iret X hr hlk ⟨(by simp only [sp_going, if_pos c_2]), (by simp only [sp_going_co_5, if_pos c_2]; exact h_5), (fun q n0_ => (fr_6 q n0_))⟩ d_Course_going_20
  · have i_8 := isPar_ne c_2
    refine V.rd (pc' := 12) (fun hl => lv_iload_n X.1 X.2.1 d_Course_going_11 rfl (lv_at hl 1 rfl)) ?_
    refine V.go (pc' := 20) (lv_goto X.1 X.2.1 d_Course_going_12 (by decide)) ?_
    exact V.iret X hr hlk ⟨(by simp only [sp_going, if_neg c_2]), (by simp only [sp_going_co_5, if_neg c_2]; exact gh0), (fun q n0_ => rfl)⟩ d_Course_going_20

theorem d_Course_falling_0 : decode prog_3_method_10_code 0 = .ok (.aload_n 0, 1) := by decide +kernel
theorem d_Course_falling_1 : decode prog_3_method_10_code 1 = .ok (.getfield 29, 3) := by decide +kernel
theorem d_Course_falling_4 : decode prog_3_method_10_code 4 = .ok (.iload_n 1, 1) := by decide +kernel
theorem d_Course_falling_5 : decode prog_3_method_10_code 5 = .ok (.iconst 1, 1) := by decide +kernel
theorem d_Course_falling_6 : decode prog_3_method_10_code 6 = .ok (.iadd, 1) := by decide +kernel
theorem d_Course_falling_7 : decode prog_3_method_10_code 7 = .ok (.invokevirtual 107, 3) := by decide +kernel
theorem d_Course_falling_10 : decode prog_3_method_10_code 10 = .ok (.ifCond .eq 9, 3) := by decide +kernel
theorem d_Course_falling_13 : decode prog_3_method_10_code 13 = .ok (.iload_n 1, 1) := by decide +kernel
theorem d_Course_falling_14 : decode prog_3_method_10_code 14 = .ok (.iconst 1, 1) := by decide +kernel
theorem d_Course_falling_15 : decode prog_3_method_10_code 15 = .ok (.iadd, 1) := by decide +kernel
theorem d_Course_falling_16 : decode prog_3_method_10_code 16 = .ok (.goto 8, 3) := by decide +kernel
theorem d_Course_falling_19 : decode prog_3_method_10_code 19 = .ok (.aload_n 0, 1) := by decide +kernel
theorem d_Course_falling_20 : decode prog_3_method_10_code 20 = .ok (.iconst 2, 1) := by decide +kernel
theorem d_Course_falling_21 : decode prog_3_method_10_code 21 = .ok (.invokevirtual 44, 3) := by decide +kernel
theorem d_Course_falling_24 : decode prog_3_method_10_code 24 = .ok (.ireturn, 1) := by decide +kernel

def sp_falling (np : Int32) (x : Int32) : Int32 := if (sp_isParagraph np (x + 1)) = 0 then 0 else x + 1
def sp_falling_co_5 (en : Int32) (np : Int32) (x : Int32) : Int32 := if (sp_isParagraph np (x + 1)) = 0 then 2 else en
set_option maxHeartbeats 4000000 in
set_option maxRecDepth 100000 in
theorem c_falling {l : Launch} {H0 : Heap} {D : va_G} {cI cL cQ cB : ClassId} {M : mp} {co pg ce pi ra dg gg tg0 : Nat} {ln : Int32} {en : Int32} {np : Int32} {ns : Int32} {x : Int32} (gh0 : M co = some (.inr (1, [.ref pg, .ref ce, .ref pi, .ref ra, .int ln, .int en]))) (gh1 : M pg = some (.inr (3, [.ref dg, .ref gg, .ref tg0, .int np, .int ns]))) : MC l H0 D cls7 (tysOf cI cL cQ cB) NW ({ cls := "PerformRanges$Course", name := "falling", desc := "(I)I" } : Jvm.MethodName) (Cond.code ({ cls := "PerformRanges$Course", name := "falling", desc := "(I)I" } : Jvm.MethodName) prog_3_method_10_code 2 (Option.some Jvm.ClassFile.FieldType.int) :: GW) ({ frames := 1, cells := 0, slots := 0, locals := 21 }) [.ref co, .int x] M (fun v M' => v = some (.int (sp_falling np x)) ∧ M' co = some (.inr (1, [.ref pg, .ref ce, .ref pi, .ref ra, .int ln, .int (sp_falling_co_5 en np x)])) ∧ ∀ q, q ≠ co → M' q = M q) := by
  refine MC.of (cc := prog_3_method_10_code) (nL := 2) (ret := (Option.some Jvm.ClassFile.FieldType.int)) (lv := [(0, .ref co), (1, .int x)]) (by decide) rfl (Nat.le_of_ble_eq_true rfl) rfl ?_
  intro p e s m below meth c X hr hlk hnm hK
  have k0 : (0 : Int32).toInt = 0 := rfl
  have k1 : (1 : Int32).toInt = 1 := rfl
  have k2 : (2 : Int32).toInt = 2 := rfl
  refine V.rd (pc' := 1) (fun hl => lv_aload_n X.1 X.2.1 d_Course_falling_0 rfl (lv_at hl 0 rfl)) ?_
  refine V.get (pc' := 4) X hK gh0 uw_Course rfl 0 (by decide) (mcs wd_87) rfl d_Course_falling_1 rfl ?_
  refine V.rd (pc' := 5) (fun hl => lv_iload_n X.1 X.2.1 d_Course_falling_4 rfl (lv_at hl 1 rfl)) ?_
  refine V.go (pc' := 6) (lv_iconst (v := 1) X.1 X.2.1 d_Course_falling_5 (by decide)) ?_
  refine V.go (pc' := 7) (lv_iadd X.1 X.2.1 d_Course_falling_6) ?_
  refine V.callV0 (pc' := 10) X hK (c_isParagraph  (pg := pg) (dg := dg) (gg := gg) (tg0 := tg0) (np := np) (ns := ns) (x := x + 1)   gh1  ) gh1 rfl (cwG (n := 1) X (mcs wd_88) (mcs wd_5) (mcs wd_6) (mcs wd_7) wd_8 (by decide +kernel) (by decide) (by decide)) rfl rfl (Nat.le_of_ble_eq_true rfl) d_Course_falling_7 ⟨by decide, by decide⟩ rfl (st1 := [.int (sp_isParagraph np (x + 1))]) rfl ?_
  refine V.br (pc' := 13) (tgt := 19) (P := (sp_isParagraph np (x + 1)) = 0) (lv_if_eq X.1 X.2.1 d_Course_falling_10 (by decide)) (fun c_2 => ?_) (fun c_2 => ?_)
  · have i_3 := congrArg Int32.toInt c_2
    refine V.rd (pc' := 20) (fun hl => lv_aload_n X.1 X.2.1 d_Course_falling_19 rfl (lv_at hl 0 rfl)) ?_
    refine V.go (pc' := 21) (lv_iconst (v := 2) X.1 X.2.1 d_Course_falling_20 (by decide)) ?_
    refine V.callV (pc' := 24) X hK (c_Course_end  (co := co) (pg := pg) (ce := ce) (pi := pi) (ra := ra) (ln := ln) (en := en) (x := 2)   gh0  ) gh0 rfl (cwG (n := 1) X (mcs wd_89) (mcs wd_90) (mcs wd_91) (mcs wd_92) wd_93 (by decide +kernel) (by decide) (by decide)) rfl rfl (Nat.le_of_ble_eq_true rfl) d_Course_falling_21 ⟨by decide, by decide⟩ rfl (st1 := [.int 0]) rfl (fun M_4 ⟨h_5, fr_6⟩ => ?_)
    have h_7 : M_4 pg = some (.inr (3, [.ref dg, .ref gg, .ref tg0, .int np, .int ns])) := (fr_6 _ (ne_k gh1 gh0 (i := 3) (j := 1) rfl rfl (by decide))).trans gh1
    exact V.iret X hr hlk ⟨(by simp only [sp_falling, if_pos c_2]), (by simp only [sp_falling_co_5, if_pos c_2]; exact h_5), (fun q n0_ => (fr_6 q n0_))⟩ d_Course_falling_24
  · have i_8 := isPar_ne c_2
    refine V.rd (pc' := 14) (fun hl => lv_iload_n X.1 X.2.1 d_Course_falling_13 rfl (lv_at hl 1 rfl)) ?_
    refine V.go (pc' := 15) (lv_iconst (v := 1) X.1 X.2.1 d_Course_falling_14 (by decide)) ?_
    refine V.go (pc' := 16) (lv_iadd X.1 X.2.1 d_Course_falling_15) ?_
    refine V.go (pc' := 24) (lv_goto X.1 X.2.1 d_Course_falling_16 (by decide)) ?_
    exact V.iret X hr hlk ⟨(by simp only [sp_falling, if_neg c_2]), (by simp only [sp_falling_co_5, if_neg c_2]; exact gh0), (fun q n0_ => rfl)⟩ d_Course_falling_24

theorem d_Course_doing_0 : decode prog_3_method_7_code 0 = .ok (.aload_n 0, 1) := by decide +kernel
theorem d_Course_doing_1 : decode prog_3_method_7_code 1 = .ok (.getfield 29, 3) := by decide +kernel
theorem d_Course_doing_4 : decode prog_3_method_7_code 4 = .ok (.iload_n 1, 1) := by decide +kernel
theorem d_Course_doing_5 : decode prog_3_method_7_code 5 = .ok (.invokevirtual 91, 3) := by decide +kernel
theorem d_Course_doing_8 : decode prog_3_method_7_code 8 = .ok (.istore_n 2, 1) := by decide +kernel
theorem d_Course_doing_9 : decode prog_3_method_7_code 9 = .ok (.iload_n 2, 1) := by decide +kernel
theorem d_Course_doing_10 : decode prog_3_method_7_code 10 = .ok (.bipush 8, 2) := by decide +kernel
theorem d_Course_doing_12 : decode prog_3_method_7_code 12 = .ok (.idiv, 1) := by decide +kernel
theorem d_Course_doing_13 : decode prog_3_method_7_code 13 = .ok (.bipush 16, 2) := by decide +kernel
theorem d_Course_doing_15 : decode prog_3_method_7_code 15 = .ok (.irem, 1) := by decide +kernel
theorem d_Course_doing_16 : decode prog_3_method_7_code 16 = .ok (.istore_n 3, 1) := by decide +kernel
theorem d_Course_doing_17 : decode prog_3_method_7_code 17 = .ok (.iload_n 2, 1) := by decide +kernel
theorem d_Course_doing_18 : decode prog_3_method_7_code 18 = .ok (.bipush 8, 2) := by decide +kernel
theorem d_Course_doing_20 : decode prog_3_method_7_code 20 = .ok (.irem, 1) := by decide +kernel
theorem d_Course_doing_21 : decode prog_3_method_7_code 21 = .ok (.tableswitch 92 1 4 #[31, 92, 47, 56], 31) := by decide +kernel
theorem d_Course_doing_52 : decode prog_3_method_7_code 52 = .ok (.aload_n 0, 1) := by decide +kernel
theorem d_Course_doing_53 : decode prog_3_method_7_code 53 = .ok (.getfield 12, 3) := by decide +kernel
theorem d_Course_doing_56 : decode prog_3_method_7_code 56 = .ok (.iload_n 3, 1) := by decide +kernel
theorem d_Course_doing_57 : decode prog_3_method_7_code 57 = .ok (.iload_n 2, 1) := by decide +kernel
theorem d_Course_doing_58 : decode prog_3_method_7_code 58 = .ok (.sipush 128, 3) := by decide +kernel
theorem d_Course_doing_61 : decode prog_3_method_7_code 61 = .ok (.idiv, 1) := by decide +kernel
theorem d_Course_doing_62 : decode prog_3_method_7_code 62 = .ok (.i2l, 1) := by decide +kernel
theorem d_Course_doing_63 : decode prog_3_method_7_code 63 = .ok (.invokevirtual 94, 3) := by decide +kernel
theorem d_Course_doing_66 : decode prog_3_method_7_code 66 = .ok (.iconst (-1), 1) := by decide +kernel
theorem d_Course_doing_67 : decode prog_3_method_7_code 67 = .ok (.ireturn, 1) := by decide +kernel
theorem d_Course_doing_68 : decode prog_3_method_7_code 68 = .ok (.aload_n 0, 1) := by decide +kernel
theorem d_Course_doing_69 : decode prog_3_method_7_code 69 = .ok (.iload_n 2, 1) := by decide +kernel
theorem d_Course_doing_70 : decode prog_3_method_7_code 70 = .ok (.bipush 8, 2) := by decide +kernel
theorem d_Course_doing_72 : decode prog_3_method_7_code 72 = .ok (.idiv, 1) := by decide +kernel
theorem d_Course_doing_73 : decode prog_3_method_7_code 73 = .ok (.invokevirtual 98, 3) := by decide +kernel
theorem d_Course_doing_76 : decode prog_3_method_7_code 76 = .ok (.ireturn, 1) := by decide +kernel
theorem d_Course_doing_77 : decode prog_3_method_7_code 77 = .ok (.aload_n 0, 1) := by decide +kernel
theorem d_Course_doing_78 : decode prog_3_method_7_code 78 = .ok (.getfield 12, 3) := by decide +kernel
theorem d_Course_doing_81 : decode prog_3_method_7_code 81 = .ok (.iload_n 3, 1) := by decide +kernel
theorem d_Course_doing_82 : decode prog_3_method_7_code 82 = .ok (.invokevirtual 101, 3) := by decide +kernel
theorem d_Course_doing_85 : decode prog_3_method_7_code 85 = .ok (.lconst 0, 1) := by decide +kernel
theorem d_Course_doing_86 : decode prog_3_method_7_code 86 = .ok (.lcmp, 1) := by decide +kernel
theorem d_Course_doing_87 : decode prog_3_method_7_code 87 = .ok (.ifCond .gt 5, 3) := by decide +kernel
theorem d_Course_doing_90 : decode prog_3_method_7_code 90 = .ok (.iconst (-1), 1) := by decide +kernel
theorem d_Course_doing_91 : decode prog_3_method_7_code 91 = .ok (.ireturn, 1) := by decide +kernel
theorem d_Course_doing_92 : decode prog_3_method_7_code 92 = .ok (.aload_n 0, 1) := by decide +kernel
theorem d_Course_doing_93 : decode prog_3_method_7_code 93 = .ok (.getfield 12, 3) := by decide +kernel
theorem d_Course_doing_96 : decode prog_3_method_7_code 96 = .ok (.iload_n 3, 1) := by decide +kernel
theorem d_Course_doing_97 : decode prog_3_method_7_code 97 = .ok (.ldc2_w 105, 3) := by decide +kernel
theorem d_Course_doing_100 : decode prog_3_method_7_code 100 = .ok (.invokevirtual 94, 3) := by decide +kernel
theorem d_Course_doing_103 : decode prog_3_method_7_code 103 = .ok (.aload_n 0, 1) := by decide +kernel
theorem d_Course_doing_104 : decode prog_3_method_7_code 104 = .ok (.iload_n 2, 1) := by decide +kernel
theorem d_Course_doing_105 : decode prog_3_method_7_code 105 = .ok (.sipush 128, 3) := by decide +kernel
theorem d_Course_doing_108 : decode prog_3_method_7_code 108 = .ok (.idiv, 1) := by decide +kernel
theorem d_Course_doing_109 : decode prog_3_method_7_code 109 = .ok (.invokevirtual 98, 3) := by decide +kernel
theorem d_Course_doing_112 : decode prog_3_method_7_code 112 = .ok (.ireturn, 1) := by decide +kernel
theorem d_Course_doing_113 : decode prog_3_method_7_code 113 = .ok (.iconst (-1), 1) := by decide +kernel
theorem d_Course_doing_114 : decode prog_3_method_7_code 114 = .ok (.ireturn, 1) := by decide +kernel

def sp_doing (np : Int32) (dd : Nat → Int32) (f : Nat → Int64) (x : Int32) : Int32 := if ((sp_doingOf np dd x) - (sp_doingOf np dd x) / 8 * 8) = 1 then (-1) else if ((sp_doingOf np dd x) - (sp_doingOf np dd x) / 8 * 8) = 2 then (-1) else if ((sp_doingOf np dd x) - (sp_doingOf np dd x) / 8 * 8) = 3 then sp_going np ((sp_doingOf np dd x) / 8) else if ((sp_doingOf np dd x) - (sp_doingOf np dd x) / 8 * 8) = 4 then (if 0 < (lg_cmp (sp_Cells_value f (((sp_doingOf np dd x) / 8) - ((sp_doingOf np dd x) / 8) / 16 * 16)) 0) then sp_going np ((sp_doingOf np dd x) / 128) else (-1)) else (-1)
def sp_doing_va (np : Int32) (dd : Nat → Int32) (f : Nat → Int64) (x : Int32) : Nat → Int64 := if ((sp_doingOf np dd x) - (sp_doingOf np dd x) / 8 * 8) = 1 then sp_Cells_grow_va f (((sp_doingOf np dd x) / 8) - ((sp_doingOf np dd x) / 8) / 16 * 16) (((sp_doingOf np dd x) / 128).toInt64) else if ((sp_doingOf np dd x) - (sp_doingOf np dd x) / 8 * 8) = 2 then f else if ((sp_doingOf np dd x) - (sp_doingOf np dd x) / 8 * 8) = 3 then f else if ((sp_doingOf np dd x) - (sp_doingOf np dd x) / 8 * 8) = 4 then (if 0 < (lg_cmp (sp_Cells_value f (((sp_doingOf np dd x) / 8) - ((sp_doingOf np dd x) / 8) / 16 * 16)) 0) then sp_Cells_grow_va f (((sp_doingOf np dd x) / 8) - ((sp_doingOf np dd x) / 8) / 16 * 16) (-1) else f) else f
def sp_doing_co_5 (en : Int32) (np : Int32) (dd : Nat → Int32) (f : Nat → Int64) (x : Int32) : Int32 := if ((sp_doingOf np dd x) - (sp_doingOf np dd x) / 8 * 8) = 1 then en else if ((sp_doingOf np dd x) - (sp_doingOf np dd x) / 8 * 8) = 2 then en else if ((sp_doingOf np dd x) - (sp_doingOf np dd x) / 8 * 8) = 3 then sp_going_co_5 en np ((sp_doingOf np dd x) / 8) else if ((sp_doingOf np dd x) - (sp_doingOf np dd x) / 8 * 8) = 4 then (if 0 < (lg_cmp (sp_Cells_value f (((sp_doingOf np dd x) / 8) - ((sp_doingOf np dd x) / 8) / 16 * 16)) 0) then sp_going_co_5 en np ((sp_doingOf np dd x) / 128) else en) else en
set_option maxHeartbeats 4000000 in
set_option maxRecDepth 100000 in
theorem c_doing {l : Launch} {H0 : Heap} {D : va_G} {cI cL cQ cB : ClassId} {M : mp} {co pg ce pi ra va dg gg tg0 : Nat} {ln : Int32} {en : Int32} {np : Int32} {ns : Int32} {dd : Nat → Int32} {f : Nat → Int64} {x : Int32} (gh0 : M co = some (.inr (1, [.ref pg, .ref ce, .ref pi, .ref ra, .int ln, .int en]))) (gh1 : M ce = some (.inr (0, [.ref va]))) (gh2 : M va = some (.inl (cL, 16, .inr (.inl f)))) (gh3 : M pg = some (.inr (3, [.ref dg, .ref gg, .ref tg0, .int np, .int ns]))) (gh4 : M dg = some (.inl (cI, 60, .inl dd))) : MC l H0 D cls7 (tysOf cI cL cQ cB) NW ({ cls := "PerformRanges$Course", name := "doing", desc := "(I)I" } : Jvm.MethodName) (Cond.code ({ cls := "PerformRanges$Course", name := "doing", desc := "(I)I" } : Jvm.MethodName) prog_3_method_7_code 4 (Option.some Jvm.ClassFile.FieldType.int) :: GW) ({ frames := 2, cells := 0, slots := 0, locals := 42 }) [.ref co, .int x] M (fun v M' => v = some (.int (sp_doing np dd f x)) ∧ M' va = some (.inl (cL, 16, .inr (.inl (sp_doing_va np dd f x)))) ∧ M' co = some (.inr (1, [.ref pg, .ref ce, .ref pi, .ref ra, .int ln, .int (sp_doing_co_5 en np dd f x)])) ∧ ∀ q, q ≠ va → q ≠ co → M' q = M q) := by
  refine MC.of (cc := prog_3_method_7_code) (nL := 4) (ret := (Option.some Jvm.ClassFile.FieldType.int)) (lv := [(0, .ref co), (1, .int x)]) (by decide) rfl (Nat.le_of_ble_eq_true rfl) rfl ?_
  intro p e s m below meth c X hr hlk hnm hK
  have km1 : ((-1) : Int32).toInt = -1 := rfl
  have k0 : (0 : Int32).toInt = 0 := rfl
  have k8 : (8 : Int32).toInt = 8 := rfl
  have k16 : (16 : Int32).toInt = 16 := rfl
  have k128 : (128 : Int32).toInt = 128 := rfl
  refine V.rd (pc' := 1) (fun hl => lv_aload_n X.1 X.2.1 d_Course_doing_0 rfl (lv_at hl 0 rfl)) ?_
  refine V.get (pc' := 4) X hK gh0 uw_Course rfl 0 (by decide) (mcs wd_87) rfl d_Course_doing_1 rfl ?_
  refine V.rd (pc' := 5) (fun hl => lv_iload_n X.1 X.2.1 d_Course_doing_4 rfl (lv_at hl 1 rfl)) ?_
  refine V.callV0 (pc' := 8) X hK (c_doingOf  (pg := pg) (dg := dg) (gg := gg) (tg0 := tg0) (np := np) (ns := ns) (dd := dd) (x := x)   gh3 gh4  ) gh3 rfl (cwG (n := 1) X (mcs wd_94) (mcs wd_10) (mcs wd_11) (mcs wd_7) wd_12 (by decide +kernel) (by decide) (by decide)) rfl rfl (Nat.le_of_ble_eq_true rfl) d_Course_doing_5 ⟨by decide, by decide⟩ rfl (st1 := [.int (sp_doingOf np dd x)]) rfl ?_
  refine V.wr (pc' := 9) (lv' := [(2, .int (sp_doingOf np dd x)), (0, .ref co), (1, .int x)]) (fun hl => lv_istore_n X.1 X.2.1 d_Course_doing_8 rfl hl (by decide) rfl) ?_
  refine V.rd (pc' := 10) (fun hl => lv_iload_n X.1 X.2.1 d_Course_doing_9 rfl (lv_at hl 0 rfl)) ?_
  refine V.go (pc' := 12) (lv_bipush (v := 8) X.1 X.2.1 d_Course_doing_10 (by decide)) ?_
  refine V.go (pc' := 13) (lv_idiv X.1 X.2.1 d_Course_doing_12 (by decide)) ?_
  refine V.go (pc' := 15) (lv_bipush (v := 16) X.1 X.2.1 d_Course_doing_13 (by decide)) ?_
  refine V.go (pc' := 16) (lv_irem X.1 X.2.1 d_Course_doing_15 (by decide)) ?_
  refine V.wr (pc' := 17) (lv' := [(3, .int (((sp_doingOf np dd x) / 8) - ((sp_doingOf np dd x) / 8) / 16 * 16)), (2, .int (sp_doingOf np dd x)), (0, .ref co), (1, .int x)]) (fun hl => lv_istore_n X.1 X.2.1 d_Course_doing_16 rfl hl (by decide) rfl) ?_
  refine V.rd (pc' := 18) (fun hl => lv_iload_n X.1 X.2.1 d_Course_doing_17 rfl (lv_at hl 1 rfl)) ?_
  refine V.go (pc' := 20) (lv_bipush (v := 8) X.1 X.2.1 d_Course_doing_18 (by decide)) ?_
  refine V.go (pc' := 21) (lv_irem X.1 X.2.1 d_Course_doing_20 (by decide)) ?_
  refine V.dec (P := ((sp_doingOf np dd x) - (sp_doingOf np dd x) / 8 * 8) = 1) (fun c_2 => ?_) (fun c_2 => ?_)
  · refine V.go (pc' := 52) (lv_tableIn X.1 X.2.1 d_Course_doing_21 (by rw [c_2]; decide) (by rw [c_2]; decide) (off := 31) (by rw [c_2]; rfl) (by decide)) ?_
    refine V.rd (pc' := 53) (fun hl => lv_aload_n X.1 X.2.1 d_Course_doing_52 rfl (lv_at hl 2 rfl)) ?_
    refine V.get (pc' := 56) X hK gh0 uw_Course rfl 1 (by decide) (mcs wd_95) rfl d_Course_doing_53 rfl ?_
    refine V.rd (pc' := 57) (fun hl => lv_iload_n X.1 X.2.1 d_Course_doing_56 rfl (lv_at hl 0 rfl)) ?_
    refine V.rd (pc' := 58) (fun hl => lv_iload_n X.1 X.2.1 d_Course_doing_57 rfl (lv_at hl 1 rfl)) ?_
    refine V.go (pc' := 61) (lv_sipush (v := 128) X.1 X.2.1 d_Course_doing_58 (by decide)) ?_
    refine V.go (pc' := 62) (lv_idiv X.1 X.2.1 d_Course_doing_61 (by decide)) ?_
    refine V.go (pc' := 63) (lv_i2l X.1 X.2.1 d_Course_doing_62 rfl) ?_
    refine V.callV (pc' := 66) X hK (c_Cells_grow  (ce := ce) (va := va) (f := f) (x := ((sp_doingOf np dd x) / 8) - ((sp_doingOf np dd x) / 8) / 16 * 16) (y := ((sp_doingOf np dd x) / 128).toInt64)   gh1 gh2  ) gh1 rfl (cwG (n := 2) X (mcs wd_96) (mcs wd_30) (mcs wd_31) (mcs wd_24) wd_32 (by decide +kernel) (by decide) (by decide)) rfl rfl (Nat.le_of_ble_eq_true rfl) d_Course_doing_63 ⟨by decide, by decide⟩ rfl (st1 := []) rfl (fun M_3 ⟨h_4, fr_5⟩ => ?_)
    have h_6 : M_3 co = some (.inr (1, [.ref pg, .ref ce, .ref pi, .ref ra, .int ln, .int en])) := (fr_5 _ (ne_k gh0 gh2 (i := 1) (j := 100016) rfl rfl (by decide))).trans gh0
    have h_7 : M_3 ce = some (.inr (0, [.ref va])) := (fr_5 _ (ne_k gh1 gh2 (i := 0) (j := 100016) rfl rfl (by decide))).trans gh1
    have h_8 : M_3 pg = some (.inr (3, [.ref dg, .ref gg, .ref tg0, .int np, .int ns])) := (fr_5 _ (ne_k gh3 gh2 (i := 3) (j := 100016) rfl rfl (by decide))).trans gh3
    have h_9 : M_3 dg = some (.inl (cI, 60, .inl dd)) := (fr_5 _ (ne_k gh4 gh2 (i := 1060) (j := 100016) rfl rfl (by decide))).trans gh4
    refine V.go (pc' := 67) (lv_iconst (v := (-1)) X.1 X.2.1 d_Course_doing_66 (by decide)) ?_
    exact V.iret X hr hlk ⟨(by simp only [sp_doing, if_pos c_2]), (by simp only [sp_doing_va, if_pos c_2]; exact h_4), (by simp only [sp_doing_co_5, if_pos c_2]; exact h_6), (fun q n0_ n1_ => (fr_5 q n0_))⟩ d_Course_doing_67
  · refine V.dec (P := ((sp_doingOf np dd x) - (sp_doingOf np dd x) / 8 * 8) = 2) (fun c_10 => ?_) (fun c_10 => ?_)
    · refine V.go (pc' := 113) (lv_tableIn X.1 X.2.1 d_Course_doing_21 (by rw [c_10]; decide) (by rw [c_10]; decide) (off := 92) (by rw [c_10]; rfl) (by decide)) ?_
      refine V.go (pc' := 114) (lv_iconst (v := (-1)) X.1 X.2.1 d_Course_doing_113 (by decide)) ?_
      exact V.iret X hr hlk ⟨(by simp only [sp_doing, if_neg c_2, if_pos c_10]), (by simp only [sp_doing_va, if_neg c_2, if_pos c_10]; exact gh2), (by simp only [sp_doing_co_5, if_neg c_2, if_pos c_10]; exact gh0), (fun q n0_ n1_ => rfl)⟩ d_Course_doing_114
    · refine V.dec (P := ((sp_doingOf np dd x) - (sp_doingOf np dd x) / 8 * 8) = 3) (fun c_11 => ?_) (fun c_11 => ?_)
      · refine V.go (pc' := 68) (lv_tableIn X.1 X.2.1 d_Course_doing_21 (by rw [c_11]; decide) (by rw [c_11]; decide) (off := 47) (by rw [c_11]; rfl) (by decide)) ?_
        refine V.rd (pc' := 69) (fun hl => lv_aload_n X.1 X.2.1 d_Course_doing_68 rfl (lv_at hl 2 rfl)) ?_
        refine V.rd (pc' := 70) (fun hl => lv_iload_n X.1 X.2.1 d_Course_doing_69 rfl (lv_at hl 1 rfl)) ?_
        refine V.go (pc' := 72) (lv_bipush (v := 8) X.1 X.2.1 d_Course_doing_70 (by decide)) ?_
        refine V.go (pc' := 73) (lv_idiv X.1 X.2.1 d_Course_doing_72 (by decide)) ?_
        refine V.callV (pc' := 76) X hK (c_going  (co := co) (pg := pg) (ce := ce) (pi := pi) (ra := ra) (dg := dg) (gg := gg) (tg0 := tg0) (ln := ln) (en := en) (np := np) (ns := ns) (x := (sp_doingOf np dd x) / 8)   gh0 gh3  ) gh0 rfl (cwG (n := 1) X (mcs wd_97) (mcs wd_98) (mcs wd_99) (mcs wd_92) wd_100 (by decide +kernel) (by decide) (by decide)) rfl rfl (Nat.le_of_ble_eq_true rfl) d_Course_doing_73 ⟨by decide, by decide⟩ rfl (st1 := [.int (sp_going np ((sp_doingOf np dd x) / 8))]) rfl (fun M_12 ⟨h_13, fr_14⟩ => ?_)
        have h_15 : M_12 ce = some (.inr (0, [.ref va])) := (fr_14 _ (ne_k gh1 gh0 (i := 0) (j := 1) rfl rfl (by decide))).trans gh1
        have h_16 : M_12 va = some (.inl (cL, 16, .inr (.inl f))) := (fr_14 _ (ne_k gh2 gh0 (i := 100016) (j := 1) rfl rfl (by decide))).trans gh2
        have h_17 : M_12 pg = some (.inr (3, [.ref dg, .ref gg, .ref tg0, .int np, .int ns])) := (fr_14 _ (ne_k gh3 gh0 (i := 3) (j := 1) rfl rfl (by decide))).trans gh3
        have h_18 : M_12 dg = some (.inl (cI, 60, .inl dd)) := (fr_14 _ (ne_k gh4 gh0 (i := 1060) (j := 1) rfl rfl (by decide))).trans gh4
        exact V.iret X hr hlk ⟨(by simp only [sp_doing, if_neg c_2, if_neg c_10, if_pos c_11]), (by simp only [sp_doing_va, if_neg c_2, if_neg c_10, if_pos c_11]; exact h_16), (by simp only [sp_doing_co_5, if_neg c_2, if_neg c_10, if_pos c_11]; exact h_13), (fun q n0_ n1_ => (fr_14 q n1_))⟩ d_Course_doing_76
      · refine V.dec (P := ((sp_doingOf np dd x) - (sp_doingOf np dd x) / 8 * 8) = 4) (fun c_19 => ?_) (fun c_19 => ?_)
        · refine V.go (pc' := 77) (lv_tableIn X.1 X.2.1 d_Course_doing_21 (by rw [c_19]; decide) (by rw [c_19]; decide) (off := 56) (by rw [c_19]; rfl) (by decide)) ?_
          refine V.rd (pc' := 78) (fun hl => lv_aload_n X.1 X.2.1 d_Course_doing_77 rfl (lv_at hl 2 rfl)) ?_
          refine V.get (pc' := 81) X hK gh0 uw_Course rfl 1 (by decide) (mcs wd_95) rfl d_Course_doing_78 rfl ?_
          refine V.rd (pc' := 82) (fun hl => lv_iload_n X.1 X.2.1 d_Course_doing_81 rfl (lv_at hl 0 rfl)) ?_
          refine V.callV0 (pc' := 85) X hK (c_Cells_value  (ce := ce) (va := va) (f := f) (x := ((sp_doingOf np dd x) / 8) - ((sp_doingOf np dd x) / 8) / 16 * 16)   gh1 gh2  ) gh1 rfl (cwG (n := 1) X (mcs wd_101) (mcs wd_22) (mcs wd_23) (mcs wd_24) wd_25 (by decide +kernel) (by decide) (by decide)) rfl rfl (Nat.le_of_ble_eq_true rfl) d_Course_doing_82 ⟨by decide, by decide⟩ rfl (st1 := [.long (sp_Cells_value f (((sp_doingOf np dd x) / 8) - ((sp_doingOf np dd x) / 8) / 16 * 16))]) rfl ?_
          refine V.go (pc' := 86) (lv_lconst (v := 0) X.1 X.2.1 d_Course_doing_85 (by decide)) ?_
          refine V.go (pc' := 87) (W.lcmp X.1 X.2.1 d_Course_doing_86) ?_
          refine V.br (pc' := 90) (tgt := 92) (P := 0 < (lg_cmp (sp_Cells_value f (((sp_doingOf np dd x) / 8) - ((sp_doingOf np dd x) / 8) / 16 * 16)) 0)) (lv_if_gt X.1 X.2.1 d_Course_doing_87 (by decide)) (fun c_21 => ?_) (fun c_21 => ?_)
          · refine V.rd (pc' := 93) (fun hl => lv_aload_n X.1 X.2.1 d_Course_doing_92 rfl (lv_at hl 2 rfl)) ?_
            refine V.get (pc' := 96) X hK gh0 uw_Course rfl 1 (by decide) (mcs wd_95) rfl d_Course_doing_93 rfl ?_
            refine V.rd (pc' := 97) (fun hl => lv_iload_n X.1 X.2.1 d_Course_doing_96 rfl (lv_at hl 0 rfl)) ?_
            refine V.go (pc' := 100) (lv_ldc2 (v := (-1)) X.1 X.2.1 X.2.2.2.1 (X.2.2.2.2 _ (mcs wd_102)) d_Course_doing_97) ?_
            refine V.callV (pc' := 103) X hK (c_Cells_grow  (ce := ce) (va := va) (f := f) (x := ((sp_doingOf np dd x) / 8) - ((sp_doingOf np dd x) / 8) / 16 * 16) (y := (-1))   gh1 gh2  ) gh1 rfl (cwG (n := 2) X (mcs wd_96) (mcs wd_30) (mcs wd_31) (mcs wd_24) wd_32 (by decide +kernel) (by decide) (by decide)) rfl rfl (Nat.le_of_ble_eq_true rfl) d_Course_doing_100 ⟨by decide, by decide⟩ rfl (st1 := []) rfl (fun M_22 ⟨h_23, fr_24⟩ => ?_)
            have h_25 : M_22 co = some (.inr (1, [.ref pg, .ref ce, .ref pi, .ref ra, .int ln, .int en])) := (fr_24 _ (ne_k gh0 gh2 (i := 1) (j := 100016) rfl rfl (by decide))).trans gh0
            have h_26 : M_22 ce = some (.inr (0, [.ref va])) := (fr_24 _ (ne_k gh1 gh2 (i := 0) (j := 100016) rfl rfl (by decide))).trans gh1
            have h_27 : M_22 pg = some (.inr (3, [.ref dg, .ref gg, .ref tg0, .int np, .int ns])) := (fr_24 _ (ne_k gh3 gh2 (i := 3) (j := 100016) rfl rfl (by decide))).trans gh3
            have h_28 : M_22 dg = some (.inl (cI, 60, .inl dd)) := (fr_24 _ (ne_k gh4 gh2 (i := 1060) (j := 100016) rfl rfl (by decide))).trans gh4
            refine V.rd (pc' := 104) (fun hl => lv_aload_n X.1 X.2.1 d_Course_doing_103 rfl (lv_at hl 2 rfl)) ?_
            refine V.rd (pc' := 105) (fun hl => lv_iload_n X.1 X.2.1 d_Course_doing_104 rfl (lv_at hl 1 rfl)) ?_
            refine V.go (pc' := 108) (lv_sipush (v := 128) X.1 X.2.1 d_Course_doing_105 (by decide)) ?_
            refine V.go (pc' := 109) (lv_idiv X.1 X.2.1 d_Course_doing_108 (by decide)) ?_
            refine V.callV (pc' := 112) X hK (c_going  (co := co) (pg := pg) (ce := ce) (pi := pi) (ra := ra) (dg := dg) (gg := gg) (tg0 := tg0) (ln := ln) (en := en) (np := np) (ns := ns) (x := (sp_doingOf np dd x) / 128)   h_25 h_27  ) h_25 rfl (cwG (n := 1) X (mcs wd_97) (mcs wd_98) (mcs wd_99) (mcs wd_92) wd_100 (by decide +kernel) (by decide) (by decide)) rfl rfl (Nat.le_of_ble_eq_true rfl) d_Course_doing_109 ⟨by decide, by decide⟩ rfl (st1 := [.int (sp_going np ((sp_doingOf np dd x) / 128))]) rfl (fun M_29 ⟨h_30, fr_31⟩ => ?_)
            have h_32 : M_29 ce = some (.inr (0, [.ref va])) := (fr_31 _ (ne_k h_26 h_25 (i := 0) (j := 1) rfl rfl (by decide))).trans h_26
            have h_33 : M_29 pg = some (.inr (3, [.ref dg, .ref gg, .ref tg0, .int np, .int ns])) := (fr_31 _ (ne_k h_27 h_25 (i := 3) (j := 1) rfl rfl (by decide))).trans h_27
            have h_34 : M_29 dg = some (.inl (cI, 60, .inl dd)) := (fr_31 _ (ne_k h_28 h_25 (i := 1060) (j := 1) rfl rfl (by decide))).trans h_28
            have h_35 : M_29 va = some (.inl (cL, 16, .inr (.inl (sp_Cells_grow_va f (((sp_doingOf np dd x) / 8) - ((sp_doingOf np dd x) / 8) / 16 * 16) (-1))))) := (fr_31 _ (ne_k h_23 h_25 (i := 100016) (j := 1) rfl rfl (by decide))).trans h_23
            exact V.iret X hr hlk ⟨(by simp only [sp_doing, if_neg c_2, if_neg c_10, if_neg c_11, if_pos c_19, if_pos c_21]), (by simp only [sp_doing_va, if_neg c_2, if_neg c_10, if_neg c_11, if_pos c_19, if_pos c_21]; exact h_35), (by simp only [sp_doing_co_5, if_neg c_2, if_neg c_10, if_neg c_11, if_pos c_19, if_pos c_21]; exact h_30), (fun q n0_ n1_ => (fr_31 q n1_).trans ((fr_24 q n0_)))⟩ d_Course_doing_112
          · refine V.go (pc' := 91) (lv_iconst (v := (-1)) X.1 X.2.1 d_Course_doing_90 (by decide)) ?_
            exact V.iret X hr hlk ⟨(by simp only [sp_doing, if_neg c_2, if_neg c_10, if_neg c_11, if_pos c_19, if_neg c_21]), (by simp only [sp_doing_va, if_neg c_2, if_neg c_10, if_neg c_11, if_pos c_19, if_neg c_21]; exact gh2), (by simp only [sp_doing_co_5, if_neg c_2, if_neg c_10, if_neg c_11, if_pos c_19, if_neg c_21]; exact gh0), (fun q n0_ n1_ => rfl)⟩ d_Course_doing_91
        · refine V.go (pc' := 113) (lv_tableOut X.1 X.2.1 d_Course_doing_21 (by have t0 := lv_neT (a := 1) c_2 rfl; have t1 := lv_neT (a := 2) c_10 rfl; have t2 := lv_neT (a := 3) c_11 rfl; have t3 := lv_neT (a := 4) c_19 rfl; omega) (by decide)) ?_
          refine V.go (pc' := 114) (lv_iconst (v := (-1)) X.1 X.2.1 d_Course_doing_113 (by decide)) ?_
          exact V.iret X hr hlk ⟨(by simp only [sp_doing, if_neg c_2, if_neg c_10, if_neg c_11, if_neg c_19]), (by simp only [sp_doing_va, if_neg c_2, if_neg c_10, if_neg c_11, if_neg c_19]; exact gh2), (by simp only [sp_doing_co_5, if_neg c_2, if_neg c_10, if_neg c_11, if_neg c_19]; exact gh0), (fun q n0_ n1_ => rfl)⟩ d_Course_doing_114

theorem d_Course_performing_0 : decode prog_3_method_6_code 0 = .ok (.aload_n 0, 1) := by decide +kernel
theorem d_Course_performing_1 : decode prog_3_method_6_code 1 = .ok (.getfield 29, 3) := by decide +kernel
theorem d_Course_performing_4 : decode prog_3_method_6_code 4 = .ok (.iload_n 1, 1) := by decide +kernel
theorem d_Course_performing_5 : decode prog_3_method_6_code 5 = .ok (.invokevirtual 66, 3) := by decide +kernel
theorem d_Course_performing_8 : decode prog_3_method_6_code 8 = .ok (.astore_n 3, 1) := by decide +kernel
theorem d_Course_performing_9 : decode prog_3_method_6_code 9 = .ok (.aload_n 3, 1) := by decide +kernel
theorem d_Course_performing_10 : decode prog_3_method_6_code 10 = .ok (.ifnonnull 9, 3) := by decide +kernel
theorem d_Course_performing_13 : decode prog_3_method_6_code 13 = .ok (.aload_n 0, 1) := by decide +kernel
theorem d_Course_performing_14 : decode prog_3_method_6_code 14 = .ok (.iconst 3, 1) := by decide +kernel
theorem d_Course_performing_15 : decode prog_3_method_6_code 15 = .ok (.invokevirtual 44, 3) := by decide +kernel
theorem d_Course_performing_18 : decode prog_3_method_6_code 18 = .ok (.ireturn, 1) := by decide +kernel
theorem d_Course_performing_19 : decode prog_3_method_6_code 19 = .ok (.aload_n 0, 1) := by decide +kernel
theorem d_Course_performing_20 : decode prog_3_method_6_code 20 = .ok (.getfield 21, 3) := by decide +kernel
theorem d_Course_performing_23 : decode prog_3_method_6_code 23 = .ok (.invokevirtual 70, 3) := by decide +kernel
theorem d_Course_performing_26 : decode prog_3_method_6_code 26 = .ok (.ifCond .eq 9, 3) := by decide +kernel
theorem d_Course_performing_29 : decode prog_3_method_6_code 29 = .ok (.aload_n 0, 1) := by decide +kernel
theorem d_Course_performing_30 : decode prog_3_method_6_code 30 = .ok (.iconst 4, 1) := by decide +kernel
theorem d_Course_performing_31 : decode prog_3_method_6_code 31 = .ok (.invokevirtual 44, 3) := by decide +kernel
theorem d_Course_performing_34 : decode prog_3_method_6_code 34 = .ok (.ireturn, 1) := by decide +kernel
theorem d_Course_performing_35 : decode prog_3_method_6_code 35 = .ok (.aload_n 0, 1) := by decide +kernel
theorem d_Course_performing_36 : decode prog_3_method_6_code 36 = .ok (.getfield 21, 3) := by decide +kernel
theorem d_Course_performing_39 : decode prog_3_method_6_code 39 = .ok (.aload_n 3, 1) := by decide +kernel
theorem d_Course_performing_40 : decode prog_3_method_6_code 40 = .ok (.iload_n 2, 1) := by decide +kernel
theorem d_Course_performing_41 : decode prog_3_method_6_code 41 = .ok (.invokevirtual 74, 3) := by decide +kernel
theorem d_Course_performing_44 : decode prog_3_method_6_code 44 = .ok (.aload_n 3, 1) := by decide +kernel
theorem d_Course_performing_45 : decode prog_3_method_6_code 45 = .ok (.aload_n 0, 1) := by decide +kernel
theorem d_Course_performing_46 : decode prog_3_method_6_code 46 = .ok (.getfield 12, 3) := by decide +kernel
theorem d_Course_performing_49 : decode prog_3_method_6_code 49 = .ok (.invokevirtual 78, 3) := by decide +kernel
theorem d_Course_performing_52 : decode prog_3_method_6_code 52 = .ok (.ifCond .eq 8, 3) := by decide +kernel
theorem d_Course_performing_55 : decode prog_3_method_6_code 55 = .ok (.aload_n 3, 1) := by decide +kernel
theorem d_Course_performing_56 : decode prog_3_method_6_code 56 = .ok (.getfield 84, 3) := by decide +kernel
theorem d_Course_performing_59 : decode prog_3_method_6_code 59 = .ok (.ireturn, 1) := by decide +kernel
theorem d_Course_performing_60 : decode prog_3_method_6_code 60 = .ok (.aload_n 0, 1) := by decide +kernel
theorem d_Course_performing_61 : decode prog_3_method_6_code 61 = .ok (.getfield 21, 3) := by decide +kernel
theorem d_Course_performing_64 : decode prog_3_method_6_code 64 = .ok (.invokevirtual 87, 3) := by decide +kernel
theorem d_Course_performing_67 : decode prog_3_method_6_code 67 = .ok (.pop, 1) := by decide +kernel
theorem d_Course_performing_68 : decode prog_3_method_6_code 68 = .ok (.iconst (-1), 1) := by decide +kernel
theorem d_Course_performing_69 : decode prog_3_method_6_code 69 = .ok (.ireturn, 1) := by decide +kernel

def sp_performing (ns : Int32) (hh : Int32) (f : Nat → Int64) (x : Int32) (σ : Nat → Stm) : Int32 := oc (sp_whole ns x σ) 0 (fun i_3 => if (sp_Pile_isFull hh) = 0 then (if (sp_goesAtFirst (st_k (σ i_3)) (st_n (σ i_3)) (st_a (σ i_3)) (st_l (σ i_3)) (st_kc (σ i_3)) (st_kv (σ i_3)) (st_lc (σ i_3)) (st_fv (σ i_3)) (st_lz (σ i_3)) f) = 0 then (-1) else st_f (σ i_3)) else 0)
def sp_performing_co_5 (en : Int32) (ns : Int32) (hh : Int32) (x : Int32) (σ : Nat → Stm) : Int32 := oc (sp_whole ns x σ) 3 (fun i_3 => if (sp_Pile_isFull hh) = 0 then en else 4)
def sp_performing_la (ns : Int32) (hh : Int32) (lo : Nat → Option Nat) (x : Int32) (σ : Nat → Stm) : Nat → Option Nat := oc (sp_whole ns x σ) lo (fun i_3 => if (sp_Pile_isFull hh) = 0 then sp_lay_la hh lo i_3 else lo)
def sp_performing_pe (ns : Int32) (hh : Int32) (pd : Nat → Int32) (x : Int32) (y : Int32) (σ : Nat → Stm) : Nat → Int32 := oc (sp_whole ns x σ) pd (fun i_3 => if (sp_Pile_isFull hh) = 0 then sp_lay_pe hh pd y else pd)
def sp_performing_tu (ns : Int32) (hh : Int32) (ud : Nat → Int32) (x : Int32) (σ : Nat → Stm) : Nat → Int32 := oc (sp_whole ns x σ) ud (fun i_3 => if (sp_Pile_isFull hh) = 0 then sp_lay_tu hh ud else ud)
def sp_performing_pi_3 (ns : Int32) (hh : Int32) (f : Nat → Int64) (x : Int32) (σ : Nat → Stm) : Int32 := oc (sp_whole ns x σ) hh (fun i_3 => if (sp_Pile_isFull hh) = 0 then (if (sp_goesAtFirst (st_k (σ i_3)) (st_n (σ i_3)) (st_a (σ i_3)) (st_l (σ i_3)) (st_kc (σ i_3)) (st_kv (σ i_3)) (st_lc (σ i_3)) (st_fv (σ i_3)) (st_lz (σ i_3)) f) = 0 then sp_Pile_takeOff_pi_3 (sp_lay_pi_3 hh) else sp_lay_pi_3 hh) else hh)
def sp_performing_pi_4 (ns : Int32) (hh : Int32) (hi : Int32) (f : Nat → Int64) (x : Int32) (σ : Nat → Stm) : Int32 := oc (sp_whole ns x σ) hi (fun i_3 => if (sp_Pile_isFull hh) = 0 then (if (sp_goesAtFirst (st_k (σ i_3)) (st_n (σ i_3)) (st_a (σ i_3)) (st_l (σ i_3)) (st_kc (σ i_3)) (st_kv (σ i_3)) (st_lc (σ i_3)) (st_fv (σ i_3)) (st_lz (σ i_3)) f) = 0 then (sp_lay_pi_4 hh hi) else sp_lay_pi_4 hh hi) else hi)
def sp_performing_va (ns : Int32) (hh : Int32) (f : Nat → Int64) (x : Int32) (σ : Nat → Stm) : Nat → Int64 := oc (sp_whole ns x σ) f (fun i_3 => if (sp_Pile_isFull hh) = 0 then sp_goesAtFirst_va (st_k (σ i_3)) (st_a (σ i_3)) (st_l (σ i_3)) (st_kc (σ i_3)) (st_kv (σ i_3)) (st_lc (σ i_3)) (st_fv (σ i_3)) (st_lz (σ i_3)) f else f)
set_option maxHeartbeats 4000000 in
set_option maxRecDepth 100000 in
theorem c_performing {l : Launch} {H0 : Heap} {D : va_G} {cI cL cQ cB : ClassId} {M : mp} {co pg ce pi ra va dg gg tg0 la pe tu : Nat} {sa u1 u2 u3 u4 u5 : Nat → Nat} {σ : Nat → Stm} {ln : Int32} {en : Int32} {np : Int32} {ns : Int32} {hh : Int32} {hi : Int32} {f : Nat → Int64} {lo : Nat → Option Nat} {pd : Nat → Int32} {ud : Nat → Int32} {x : Int32} {y : Int32} (ne0 : pe ≠ tu) (gh0 : M co = some (.inr (1, [.ref pg, .ref ce, .ref pi, .ref ra, .int ln, .int en]))) (gh1 : M ce = some (.inr (0, [.ref va]))) (gh2 : M va = some (.inl (cL, 16, .inr (.inl f)))) (gh3 : M pg = some (.inr (3, [.ref dg, .ref gg, .ref tg0, .int np, .int ns]))) (gh4 : M tg0 = some (.inl (cQ, 60, .inr (.inr (.inr (.inr (tdOf ns sa))))))) (gh5 : M pi = some (.inr (2, [.ref la, .ref pe, .ref tu, .int hh, .int hi]))) (gh6 : M la = some (.inl (cQ, 100, .inr (.inr (.inr (.inr (lq lo sa))))))) (gh7 : M pe = some (.inl (cI, 100, .inl pd))) (gh8 : M tu = some (.inl (cI, 100, .inl ud))) (hp : SP cI cL M ns sa u1 u2 u3 u4 u5 σ) (hσ : ∀ i : Nat, (i : Int) < ns.toInt → (st_l (σ i)).toInt ≤ 7) : MC l H0 D cls7 (tysOf cI cL cQ cB) NW ({ cls := "PerformRanges$Course", name := "performing", desc := "(II)I" } : Jvm.MethodName) (Cond.code ({ cls := "PerformRanges$Course", name := "performing", desc := "(II)I" } : Jvm.MethodName) prog_3_method_6_code 4 (Option.some Jvm.ClassFile.FieldType.int) :: GW) ({ frames := 5, cells := 0, slots := 0, locals := 109 }) [.ref co, .int x, .int y] M (fun v M' => v = some (.int (sp_performing ns hh f x σ)) ∧ M' co = some (.inr (1, [.ref pg, .ref ce, .ref pi, .ref ra, .int ln, .int (sp_performing_co_5 en ns hh x σ)])) ∧ M' la = some (.inl (cQ, 100, .inr (.inr (.inr (.inr (lq (sp_performing_la ns hh lo x σ) sa)))))) ∧ M' pe = some (.inl (cI, 100, .inl (sp_performing_pe ns hh pd x y σ))) ∧ M' tu = some (.inl (cI, 100, .inl (sp_performing_tu ns hh ud x σ))) ∧ M' pi = some (.inr (2, [.ref la, .ref pe, .ref tu, .int (sp_performing_pi_3 ns hh f x σ), .int (sp_performing_pi_4 ns hh hi f x σ)])) ∧ M' va = some (.inl (cL, 16, .inr (.inl (sp_performing_va ns hh f x σ)))) ∧ ∀ q, q ≠ co → q ≠ la → q ≠ pe → q ≠ tu → q ≠ pi → q ≠ va → M' q = M q) := by
  refine MC.of (cc := prog_3_method_6_code) (nL := 4) (ret := (Option.some Jvm.ClassFile.FieldType.int)) (lv := [(0, .ref co), (1, .int x), (2, .int y)]) (by decide) rfl (Nat.le_of_ble_eq_true rfl) rfl ?_
  intro p e s m below meth c X hr hlk hnm hK
  have km1 : ((-1) : Int32).toInt = -1 := rfl
  have k0 : (0 : Int32).toInt = 0 := rfl
  have k3 : (3 : Int32).toInt = 3 := rfl
  have k4 : (4 : Int32).toInt = 4 := rfl
  refine V.rd (pc' := 1) (fun hl => lv_aload_n X.1 X.2.1 d_Course_performing_0 rfl (lv_at hl 0 rfl)) ?_
  refine V.get (pc' := 4) X hK gh0 uw_Course rfl 0 (by decide) (mcs wd_87) rfl d_Course_performing_1 rfl ?_
  refine V.rd (pc' := 5) (fun hl => lv_iload_n X.1 X.2.1 d_Course_performing_4 rfl (lv_at hl 1 rfl)) ?_
  refine V.callV0 (pc' := 8) X hK (c_whole  (pg := pg) (dg := dg) (gg := gg) (tg0 := tg0) (np := np) (ns := ns) (x := x)   gh3 gh4 hp hσ) gh3 rfl (cwG (n := 1) X (mcs wd_103) (mcs wd_104) (mcs wd_105) (mcs wd_7) wd_106 (by decide +kernel) (by decide) (by decide)) rfl rfl (Nat.le_of_ble_eq_true rfl) d_Course_performing_5 ⟨by decide, by decide⟩ rfl (st1 := [va_rf (Option.map sa (sp_whole ns x σ))]) rfl ?_
  refine V.sp (o := sp_whole ns x σ) (fun c_2 => ?_) (fun i_3 c_2 => ?_)
  · refine V.wr (pc' := 9) (lv' := [(3, .null), (0, .ref co), (1, .int x), (2, .int y)]) (fun hl => lv_astore_nN X.1 X.2.1 d_Course_performing_8 rfl hl (by decide) rfl) ?_
    refine V.rd (pc' := 10) (fun hl => lv_aload_nN X.1 X.2.1 d_Course_performing_9 rfl (lv_at hl 0 rfl)) ?_
    refine V.go (pc' := 13) (lv_ifnonnullN X.1 X.2.1 d_Course_performing_10) ?_
    refine V.rd (pc' := 14) (fun hl => lv_aload_n X.1 X.2.1 d_Course_performing_13 rfl (lv_at hl 1 rfl)) ?_
    refine V.go (pc' := 15) (lv_iconst (v := 3) X.1 X.2.1 d_Course_performing_14 (by decide)) ?_
    refine V.callV (pc' := 18) X hK (c_Course_end  (co := co) (pg := pg) (ce := ce) (pi := pi) (ra := ra) (ln := ln) (en := en) (x := 3)   gh0  ) gh0 rfl (cwG (n := 1) X (mcs wd_89) (mcs wd_90) (mcs wd_91) (mcs wd_92) wd_93 (by decide +kernel) (by decide) (by decide)) rfl rfl (Nat.le_of_ble_eq_true rfl) d_Course_performing_15 ⟨by decide, by decide⟩ rfl (st1 := [.int 0]) rfl (fun M_4 ⟨h_5, fr_6⟩ => ?_)
    have h_7 : M_4 ce = some (.inr (0, [.ref va])) := (fr_6 _ (ne_k gh1 gh0 (i := 0) (j := 1) rfl rfl (by decide))).trans gh1
    have h_8 : M_4 va = some (.inl (cL, 16, .inr (.inl f))) := (fr_6 _ (ne_k gh2 gh0 (i := 100016) (j := 1) rfl rfl (by decide))).trans gh2
    have h_9 : M_4 pg = some (.inr (3, [.ref dg, .ref gg, .ref tg0, .int np, .int ns])) := (fr_6 _ (ne_k gh3 gh0 (i := 3) (j := 1) rfl rfl (by decide))).trans gh3
    have h_10 : M_4 tg0 = some (.inl (cQ, 60, .inr (.inr (.inr (.inr (tdOf ns sa)))))) := (fr_6 _ (ne_k gh4 gh0 (i := 10000060) (j := 1) rfl rfl (by decide))).trans gh4
    have h_11 : M_4 pi = some (.inr (2, [.ref la, .ref pe, .ref tu, .int hh, .int hi])) := (fr_6 _ (ne_k gh5 gh0 (i := 2) (j := 1) rfl rfl (by decide))).trans gh5
    have h_12 : M_4 la = some (.inl (cQ, 100, .inr (.inr (.inr (.inr (lq lo sa)))))) := (fr_6 _ (ne_k gh6 gh0 (i := 10000100) (j := 1) rfl rfl (by decide))).trans gh6
    have h_13 : M_4 pe = some (.inl (cI, 100, .inl pd)) := (fr_6 _ (ne_k gh7 gh0 (i := 1100) (j := 1) rfl rfl (by decide))).trans gh7
    have h_14 : M_4 tu = some (.inl (cI, 100, .inl ud)) := (fr_6 _ (ne_k gh8 gh0 (i := 1100) (j := 1) rfl rfl (by decide))).trans gh8
    have hp_15 := hp.keep (M' := M_4) (fun q e he ht => fr_6 q (ne_p he ht gh0 (j := 1) rfl (by decide)))
    exact V.iret X hr hlk ⟨(by simp only [sp_performing, c_2, oc_none]), (by simp only [sp_performing_co_5, c_2, oc_none]; exact h_5), (by simp only [sp_performing_la, c_2, oc_none]; exact h_12), (by simp only [sp_performing_pe, c_2, oc_none]; exact h_13), (by simp only [sp_performing_tu, c_2, oc_none]; exact h_14), (by simp only [sp_performing_pi_3, sp_performing_pi_4, c_2, oc_none]; exact h_11), (by simp only [sp_performing_va, c_2, oc_none]; exact h_8), (fun q n0_ n1_ n2_ n3_ n4_ n5_ => (fr_6 q n0_))⟩ d_Course_performing_18
  · have hlt_22 : (i_3 : Int) < ns.toInt := whole_lt c_2
    have hs_23 := hσ i_3 hlt_22
    obtain ⟨h_16, h_17, h_18, h_19, h_20, h_21⟩ := hp i_3 hlt_22
    refine V.wr (pc' := 9) (lv' := [(3, .ref (sa i_3)), (0, .ref co), (1, .int x), (2, .int y)]) (fun hl => lv_astore_n X.1 X.2.1 d_Course_performing_8 rfl hl (by decide) rfl) ?_
    refine V.rd (pc' := 10) (fun hl => lv_aload_n X.1 X.2.1 d_Course_performing_9 rfl (lv_at hl 0 rfl)) ?_
    refine V.go (pc' := 19) (lv_ifnonnull X.1 X.2.1 d_Course_performing_10 (by decide)) ?_
    refine V.rd (pc' := 20) (fun hl => lv_aload_n X.1 X.2.1 d_Course_performing_19 rfl (lv_at hl 1 rfl)) ?_
    refine V.get (pc' := 23) X hK gh0 uw_Course rfl 2 (by decide) (mcs wd_107) rfl d_Course_performing_20 rfl ?_
    refine V.callV0 (pc' := 26) X hK (c_Pile_isFull  (pi := pi) (la := la) (pe := pe) (tu := tu) (hh := hh) (hi := hi)   gh5  ) gh5 rfl (cwG (n := 0) X (mcs wd_108) (mcs wd_79) (mcs wd_80) (mcs wd_81) wd_82 (by decide +kernel) (by decide) (by decide)) rfl rfl (Nat.le_of_ble_eq_true rfl) d_Course_performing_23 ⟨by decide, by decide⟩ rfl (st1 := [.int (sp_Pile_isFull hh)]) rfl ?_
    refine V.br (pc' := 29) (tgt := 35) (P := (sp_Pile_isFull hh) = 0) (lv_if_eq X.1 X.2.1 d_Course_performing_26 (by decide)) (fun c_25 => ?_) (fun c_25 => ?_)
    · have i_26 := isFull_0 c_25
      refine V.rd (pc' := 36) (fun hl => lv_aload_n X.1 X.2.1 d_Course_performing_35 rfl (lv_at hl 1 rfl)) ?_
      refine V.get (pc' := 39) X hK gh0 uw_Course rfl 2 (by decide) (mcs wd_107) rfl d_Course_performing_36 rfl ?_
      refine V.rd (pc' := 40) (fun hl => lv_aload_n X.1 X.2.1 d_Course_performing_39 rfl (lv_at hl 0 rfl)) ?_
      refine V.rd (pc' := 41) (fun hl => lv_iload_n X.1 X.2.1 d_Course_performing_40 rfl (lv_at hl 3 rfl)) ?_
      refine V.callV (pc' := 44) X hK (c_lay  (pi := pi) (la := la) (pe := pe) (tu := tu) (hh := hh) (hi := hi) (lo := lo) (pd := pd) (ud := ud) (i0 := i_3) (vs := [.int (st_f (σ i_3)), .int (st_t (σ i_3)), .int (st_k (σ i_3)), .int (st_n (σ i_3)), .int (st_a (σ i_3)), .int (st_c (σ i_3)), .int (st_l (σ i_3)), .ref (u1 i_3), .ref (u2 i_3), .ref (u3 i_3), .ref (u4 i_3), .ref (u5 i_3)]) (x := y)  ne0 gh5 gh6 gh7 gh8 h_16  ) gh5 rfl (cwG (n := 2) X (mcs wd_109) (mcs wd_110) (mcs wd_111) (mcs wd_81) wd_112 (by decide +kernel) (by decide) (by decide)) rfl rfl (Nat.le_of_ble_eq_true rfl) d_Course_performing_41 ⟨by decide, by decide⟩ rfl (st1 := []) rfl (fun M_27 ⟨h_28, h_29, h_30, h_31, fr_32⟩ => ?_)
      have h_33 : M_27 co = some (.inr (1, [.ref pg, .ref ce, .ref pi, .ref ra, .int ln, .int en])) := (fr_32 _ (ne_k gh0 gh6 (i := 1) (j := 10000100) rfl rfl (by decide)) (ne_k gh0 gh7 (i := 1) (j := 1100) rfl rfl (by decide)) (ne_k gh0 gh8 (i := 1) (j := 1100) rfl rfl (by decide)) (ne_k gh0 gh5 (i := 1) (j := 2) rfl rfl (by decide))).trans gh0
      have h_34 : M_27 ce = some (.inr (0, [.ref va])) := (fr_32 _ (ne_k gh1 gh6 (i := 0) (j := 10000100) rfl rfl (by decide)) (ne_k gh1 gh7 (i := 0) (j := 1100) rfl rfl (by decide)) (ne_k gh1 gh8 (i := 0) (j := 1100) rfl rfl (by decide)) (ne_k gh1 gh5 (i := 0) (j := 2) rfl rfl (by decide))).trans gh1
      have h_35 : M_27 va = some (.inl (cL, 16, .inr (.inl f))) := (fr_32 _ (ne_k gh2 gh6 (i := 100016) (j := 10000100) rfl rfl (by decide)) (ne_k gh2 gh7 (i := 100016) (j := 1100) rfl rfl (by decide)) (ne_k gh2 gh8 (i := 100016) (j := 1100) rfl rfl (by decide)) (ne_k gh2 gh5 (i := 100016) (j := 2) rfl rfl (by decide))).trans gh2
      have h_36 : M_27 pg = some (.inr (3, [.ref dg, .ref gg, .ref tg0, .int np, .int ns])) := (fr_32 _ (ne_k gh3 gh6 (i := 3) (j := 10000100) rfl rfl (by decide)) (ne_k gh3 gh7 (i := 3) (j := 1100) rfl rfl (by decide)) (ne_k gh3 gh8 (i := 3) (j := 1100) rfl rfl (by decide)) (ne_k gh3 gh5 (i := 3) (j := 2) rfl rfl (by decide))).trans gh3
      have h_37 : M_27 tg0 = some (.inl (cQ, 60, .inr (.inr (.inr (.inr (tdOf ns sa)))))) := (fr_32 _ (ne_k gh4 gh6 (i := 10000060) (j := 10000100) rfl rfl (by decide)) (ne_k gh4 gh7 (i := 10000060) (j := 1100) rfl rfl (by decide)) (ne_k gh4 gh8 (i := 10000060) (j := 1100) rfl rfl (by decide)) (ne_k gh4 gh5 (i := 10000060) (j := 2) rfl rfl (by decide))).trans gh4
      have h_38 : M_27 (sa i_3) = some (.inr (4, [.int (st_f (σ i_3)), .int (st_t (σ i_3)), .int (st_k (σ i_3)), .int (st_n (σ i_3)), .int (st_a (σ i_3)), .int (st_c (σ i_3)), .int (st_l (σ i_3)), .ref (u1 i_3), .ref (u2 i_3), .ref (u3 i_3), .ref (u4 i_3), .ref (u5 i_3)])) := (fr_32 _ (ne_k h_16 gh6 (i := 4) (j := 10000100) rfl rfl (by decide)) (ne_k h_16 gh7 (i := 4) (j := 1100) rfl rfl (by decide)) (ne_k h_16 gh8 (i := 4) (j := 1100) rfl rfl (by decide)) (ne_k h_16 gh5 (i := 4) (j := 2) rfl rfl (by decide))).trans h_16
      have h_39 : M_27 (u1 i_3) = some (.inl (cI, 7, .inl (st_kc (σ i_3)))) := (fr_32 _ (ne_k h_17 gh6 (i := 1007) (j := 10000100) rfl rfl (by decide)) (ne_k h_17 gh7 (i := 1007) (j := 1100) rfl rfl (by decide)) (ne_k h_17 gh8 (i := 1007) (j := 1100) rfl rfl (by decide)) (ne_k h_17 gh5 (i := 1007) (j := 2) rfl rfl (by decide))).trans h_17
      have h_40 : M_27 (u2 i_3) = some (.inl (cL, 7, .inr (.inl (st_kv (σ i_3))))) := (fr_32 _ (ne_k h_18 gh6 (i := 100007) (j := 10000100) rfl rfl (by decide)) (ne_k h_18 gh7 (i := 100007) (j := 1100) rfl rfl (by decide)) (ne_k h_18 gh8 (i := 100007) (j := 1100) rfl rfl (by decide)) (ne_k h_18 gh5 (i := 100007) (j := 2) rfl rfl (by decide))).trans h_18
      have h_41 : M_27 (u3 i_3) = some (.inl (cI, 7, .inl (st_lc (σ i_3)))) := (fr_32 _ (ne_k h_19 gh6 (i := 1007) (j := 10000100) rfl rfl (by decide)) (ne_k h_19 gh7 (i := 1007) (j := 1100) rfl rfl (by decide)) (ne_k h_19 gh8 (i := 1007) (j := 1100) rfl rfl (by decide)) (ne_k h_19 gh5 (i := 1007) (j := 2) rfl rfl (by decide))).trans h_19
      have h_42 : M_27 (u4 i_3) = some (.inl (cL, 7, .inr (.inl (st_fv (σ i_3))))) := (fr_32 _ (ne_k h_20 gh6 (i := 100007) (j := 10000100) rfl rfl (by decide)) (ne_k h_20 gh7 (i := 100007) (j := 1100) rfl rfl (by decide)) (ne_k h_20 gh8 (i := 100007) (j := 1100) rfl rfl (by decide)) (ne_k h_20 gh5 (i := 100007) (j := 2) rfl rfl (by decide))).trans h_20
      have h_43 : M_27 (u5 i_3) = some (.inl (cL, 7, .inr (.inl (st_lz (σ i_3))))) := (fr_32 _ (ne_k h_21 gh6 (i := 100007) (j := 10000100) rfl rfl (by decide)) (ne_k h_21 gh7 (i := 100007) (j := 1100) rfl rfl (by decide)) (ne_k h_21 gh8 (i := 100007) (j := 1100) rfl rfl (by decide)) (ne_k h_21 gh5 (i := 100007) (j := 2) rfl rfl (by decide))).trans h_21
      have hp_44 := hp.keep (M' := M_27) (fun q e he ht => fr_32 q (ne_p he ht gh6 (j := 10000100) rfl (by decide)) (ne_p he ht gh7 (j := 1100) rfl (by decide)) (ne_p he ht gh8 (j := 1100) rfl (by decide)) (ne_p he ht gh5 (j := 2) rfl (by decide)))
      refine V.rd (pc' := 45) (fun hl => lv_aload_n X.1 X.2.1 d_Course_performing_44 rfl (lv_at hl 0 rfl)) ?_
      refine V.rd (pc' := 46) (fun hl => lv_aload_n X.1 X.2.1 d_Course_performing_45 rfl (lv_at hl 1 rfl)) ?_
      refine V.get (pc' := 49) X hK h_33 uw_Course rfl 1 (by decide) (mcs wd_95) rfl d_Course_performing_46 rfl ?_
      refine V.callV (pc' := 52) X hK (c_goesAtFirst  (sm := sa i_3) (acc := u1 i_3) (acv := u2 i_3) (alc := u3 i_3) (afv := u4 i_3) (als := u5 i_3) (ce := ce) (va := va) (sf := st_f (σ i_3)) (sto := st_t (σ i_3)) (sk := st_k (σ i_3)) (sn := st_n (σ i_3)) (saf := st_a (σ i_3)) (sc := st_c (σ i_3)) (sl := st_l (σ i_3)) (kc := st_kc (σ i_3)) (kv := st_kv (σ i_3)) (lc := st_lc (σ i_3)) (fv := st_fv (σ i_3)) (lz := st_lz (σ i_3)) (f := f) (by first | assumption | omega)  h_38 h_39 h_40 h_41 h_42 h_43 h_34 h_35  ) h_38 rfl (cwG (n := 1) X (mcs wd_113) (mcs wd_114) (mcs wd_115) (mcs wd_46) wd_116 (by decide +kernel) (by decide) (by decide)) rfl rfl (Nat.le_of_ble_eq_true rfl) d_Course_performing_49 ⟨by decide, by decide⟩ rfl (st1 := [.int (sp_goesAtFirst (st_k (σ i_3)) (st_n (σ i_3)) (st_a (σ i_3)) (st_l (σ i_3)) (st_kc (σ i_3)) (st_kv (σ i_3)) (st_lc (σ i_3)) (st_fv (σ i_3)) (st_lz (σ i_3)) f)]) rfl (fun M_45 ⟨h_46, fr_47⟩ => ?_)
      have h_48 : M_45 co = some (.inr (1, [.ref pg, .ref ce, .ref pi, .ref ra, .int ln, .int en])) := (fr_47 _ (ne_k h_33 h_35 (i := 1) (j := 100016) rfl rfl (by decide))).trans h_33
      have h_49 : M_45 ce = some (.inr (0, [.ref va])) := (fr_47 _ (ne_k h_34 h_35 (i := 0) (j := 100016) rfl rfl (by decide))).trans h_34
      have h_50 : M_45 pg = some (.inr (3, [.ref dg, .ref gg, .ref tg0, .int np, .int ns])) := (fr_47 _ (ne_k h_36 h_35 (i := 3) (j := 100016) rfl rfl (by decide))).trans h_36
      have h_51 : M_45 tg0 = some (.inl (cQ, 60, .inr (.inr (.inr (.inr (tdOf ns sa)))))) := (fr_47 _ (ne_k h_37 h_35 (i := 10000060) (j := 100016) rfl rfl (by decide))).trans h_37
      have h_52 : M_45 (sa i_3) = some (.inr (4, [.int (st_f (σ i_3)), .int (st_t (σ i_3)), .int (st_k (σ i_3)), .int (st_n (σ i_3)), .int (st_a (σ i_3)), .int (st_c (σ i_3)), .int (st_l (σ i_3)), .ref (u1 i_3), .ref (u2 i_3), .ref (u3 i_3), .ref (u4 i_3), .ref (u5 i_3)])) := (fr_47 _ (ne_k h_38 h_35 (i := 4) (j := 100016) rfl rfl (by decide))).trans h_38
      have h_53 : M_45 (u1 i_3) = some (.inl (cI, 7, .inl (st_kc (σ i_3)))) := (fr_47 _ (ne_k h_39 h_35 (i := 1007) (j := 100016) rfl rfl (by decide))).trans h_39
      have h_54 : M_45 (u2 i_3) = some (.inl (cL, 7, .inr (.inl (st_kv (σ i_3))))) := (fr_47 _ (ne_k h_40 h_35 (i := 100007) (j := 100016) rfl rfl (by decide))).trans h_40
      have h_55 : M_45 (u3 i_3) = some (.inl (cI, 7, .inl (st_lc (σ i_3)))) := (fr_47 _ (ne_k h_41 h_35 (i := 1007) (j := 100016) rfl rfl (by decide))).trans h_41
      have h_56 : M_45 (u4 i_3) = some (.inl (cL, 7, .inr (.inl (st_fv (σ i_3))))) := (fr_47 _ (ne_k h_42 h_35 (i := 100007) (j := 100016) rfl rfl (by decide))).trans h_42
      have h_57 : M_45 (u5 i_3) = some (.inl (cL, 7, .inr (.inl (st_lz (σ i_3))))) := (fr_47 _ (ne_k h_43 h_35 (i := 100007) (j := 100016) rfl rfl (by decide))).trans h_43
      have h_58 : M_45 la = some (.inl (cQ, 100, .inr (.inr (.inr (.inr (lq (sp_lay_la hh lo i_3) sa)))))) := (fr_47 _ (ne_k h_28 h_35 (i := 10000100) (j := 100016) rfl rfl (by decide))).trans h_28
      have h_59 : M_45 pe = some (.inl (cI, 100, .inl (sp_lay_pe hh pd y))) := (fr_47 _ (ne_k h_29 h_35 (i := 1100) (j := 100016) rfl rfl (by decide))).trans h_29
      have h_60 : M_45 tu = some (.inl (cI, 100, .inl (sp_lay_tu hh ud))) := (fr_47 _ (ne_k h_30 h_35 (i := 1100) (j := 100016) rfl rfl (by decide))).trans h_30
      have h_61 : M_45 pi = some (.inr (2, [.ref la, .ref pe, .ref tu, .int (sp_lay_pi_3 hh), .int (sp_lay_pi_4 hh hi)])) := (fr_47 _ (ne_k h_31 h_35 (i := 2) (j := 100016) rfl rfl (by decide))).trans h_31
      have hp_62 := hp_44.keep (M' := M_45) (fun q e he ht => fr_47 q (ne_p he ht h_35 (j := 100016) rfl (by decide)))
      refine V.br (pc' := 55) (tgt := 60) (P := (sp_goesAtFirst (st_k (σ i_3)) (st_n (σ i_3)) (st_a (σ i_3)) (st_l (σ i_3)) (st_kc (σ i_3)) (st_kv (σ i_3)) (st_lc (σ i_3)) (st_fv (σ i_3)) (st_lz (σ i_3)) f) = 0) (lv_if_eq X.1 X.2.1 d_Course_performing_52 (by decide)) (fun c_63 => ?_) (fun c_63 => ?_)
      · have i_64 := congrArg Int32.toInt c_63
        refine V.rd (pc' := 61) (fun hl => lv_aload_n X.1 X.2.1 d_Course_performing_60 rfl (lv_at hl 1 rfl)) ?_
        refine V.get (pc' := 64) X hK h_48 uw_Course rfl 2 (by decide) (mcs wd_107) rfl d_Course_performing_61 rfl ?_
        refine V.callV (pc' := 67) X hK (c_Pile_takeOff  (pi := pi) (la := la) (pe := pe) (tu := tu) (hh := sp_lay_pi_3 hh) (hi := sp_lay_pi_4 hh hi) (pd := sp_lay_pe hh pd y)   h_61 h_59  ) h_61 rfl (cwG (n := 0) X (mcs wd_117) (mcs wd_118) (mcs wd_119) (mcs wd_81) wd_120 (by decide +kernel) (by decide) (by decide)) rfl rfl (Nat.le_of_ble_eq_true rfl) d_Course_performing_64 ⟨by decide, by decide⟩ rfl (st1 := [.int (sp_Pile_takeOff (sp_lay_pi_3 hh) (sp_lay_pe hh pd y))]) rfl (fun M_65 ⟨h_66, fr_67⟩ => ?_)
        have h_68 : M_65 co = some (.inr (1, [.ref pg, .ref ce, .ref pi, .ref ra, .int ln, .int en])) := (fr_67 _ (ne_k h_48 h_61 (i := 1) (j := 2) rfl rfl (by decide))).trans h_48
        have h_69 : M_65 ce = some (.inr (0, [.ref va])) := (fr_67 _ (ne_k h_49 h_61 (i := 0) (j := 2) rfl rfl (by decide))).trans h_49
        have h_70 : M_65 pg = some (.inr (3, [.ref dg, .ref gg, .ref tg0, .int np, .int ns])) := (fr_67 _ (ne_k h_50 h_61 (i := 3) (j := 2) rfl rfl (by decide))).trans h_50
        have h_71 : M_65 tg0 = some (.inl (cQ, 60, .inr (.inr (.inr (.inr (tdOf ns sa)))))) := (fr_67 _ (ne_k h_51 h_61 (i := 10000060) (j := 2) rfl rfl (by decide))).trans h_51
        have h_72 : M_65 (sa i_3) = some (.inr (4, [.int (st_f (σ i_3)), .int (st_t (σ i_3)), .int (st_k (σ i_3)), .int (st_n (σ i_3)), .int (st_a (σ i_3)), .int (st_c (σ i_3)), .int (st_l (σ i_3)), .ref (u1 i_3), .ref (u2 i_3), .ref (u3 i_3), .ref (u4 i_3), .ref (u5 i_3)])) := (fr_67 _ (ne_k h_52 h_61 (i := 4) (j := 2) rfl rfl (by decide))).trans h_52
        have h_73 : M_65 (u1 i_3) = some (.inl (cI, 7, .inl (st_kc (σ i_3)))) := (fr_67 _ (ne_k h_53 h_61 (i := 1007) (j := 2) rfl rfl (by decide))).trans h_53
        have h_74 : M_65 (u2 i_3) = some (.inl (cL, 7, .inr (.inl (st_kv (σ i_3))))) := (fr_67 _ (ne_k h_54 h_61 (i := 100007) (j := 2) rfl rfl (by decide))).trans h_54
        have h_75 : M_65 (u3 i_3) = some (.inl (cI, 7, .inl (st_lc (σ i_3)))) := (fr_67 _ (ne_k h_55 h_61 (i := 1007) (j := 2) rfl rfl (by decide))).trans h_55
        have h_76 : M_65 (u4 i_3) = some (.inl (cL, 7, .inr (.inl (st_fv (σ i_3))))) := (fr_67 _ (ne_k h_56 h_61 (i := 100007) (j := 2) rfl rfl (by decide))).trans h_56
        have h_77 : M_65 (u5 i_3) = some (.inl (cL, 7, .inr (.inl (st_lz (σ i_3))))) := (fr_67 _ (ne_k h_57 h_61 (i := 100007) (j := 2) rfl rfl (by decide))).trans h_57
        have h_78 : M_65 la = some (.inl (cQ, 100, .inr (.inr (.inr (.inr (lq (sp_lay_la hh lo i_3) sa)))))) := (fr_67 _ (ne_k h_58 h_61 (i := 10000100) (j := 2) rfl rfl (by decide))).trans h_58
        have h_79 : M_65 pe = some (.inl (cI, 100, .inl (sp_lay_pe hh pd y))) := (fr_67 _ (ne_k h_59 h_61 (i := 1100) (j := 2) rfl rfl (by decide))).trans h_59
        have h_80 : M_65 tu = some (.inl (cI, 100, .inl (sp_lay_tu hh ud))) := (fr_67 _ (ne_k h_60 h_61 (i := 1100) (j := 2) rfl rfl (by decide))).trans h_60
        have h_81 : M_65 va = some (.inl (cL, 16, .inr (.inl (sp_goesAtFirst_va (st_k (σ i_3)) (st_a (σ i_3)) (st_l (σ i_3)) (st_kc (σ i_3)) (st_kv (σ i_3)) (st_lc (σ i_3)) (st_fv (σ i_3)) (st_lz (σ i_3)) f)))) := (fr_67 _ (ne_k h_46 h_61 (i := 100016) (j := 2) rfl rfl (by decide))).trans h_46
        have hp_82 := hp_62.keep (M' := M_65) (fun q e he ht => fr_67 q (ne_p he ht h_61 (j := 2) rfl (by decide)))
        refine V.go (pc' := 68) (lv_pop X.1 X.2.1 d_Course_performing_67 rfl) ?_
        refine V.go (pc' := 69) (lv_iconst (v := (-1)) X.1 X.2.1 d_Course_performing_68 (by decide)) ?_
        exact V.iret X hr hlk ⟨(by simp only [sp_performing, c_2, oc_some, if_pos c_25, if_pos c_63]), (by simp only [sp_performing_co_5, c_2, oc_some, if_pos c_25, if_pos c_63]; exact h_68), (by simp only [sp_performing_la, c_2, oc_some, if_pos c_25, if_pos c_63]; exact h_78), (by simp only [sp_performing_pe, c_2, oc_some, if_pos c_25, if_pos c_63]; exact h_79), (by simp only [sp_performing_tu, c_2, oc_some, if_pos c_25, if_pos c_63]; exact h_80), (by simp only [sp_performing_pi_3, sp_performing_pi_4, c_2, oc_some, if_pos c_25, if_pos c_63]; exact h_66), (by simp only [sp_performing_va, c_2, oc_some, if_pos c_25, if_pos c_63]; exact h_81), (fun q n0_ n1_ n2_ n3_ n4_ n5_ => (fr_67 q n4_).trans ((fr_47 q n5_).trans ((fr_32 q n1_ n2_ n3_ n4_))))⟩ d_Course_performing_69
      · have i_83 := mt Int32.toInt_inj.mp c_63
        refine V.rd (pc' := 56) (fun hl => lv_aload_n X.1 X.2.1 d_Course_performing_55 rfl (lv_at hl 0 rfl)) ?_
        refine V.getN (pc' := 59) X hK h_52 uw_Statement rfl 0 (by decide) (List.mem_of_getElem? (i := 11) rfl) rfl d_Course_performing_56 rfl ?_
        exact V.iret X hr hlk ⟨(by simp only [sp_performing, c_2, oc_some, if_pos c_25, if_neg c_63]), (by simp only [sp_performing_co_5, c_2, oc_some, if_pos c_25, if_neg c_63]; exact h_48), (by simp only [sp_performing_la, c_2, oc_some, if_pos c_25, if_neg c_63]; exact h_58), (by simp only [sp_performing_pe, c_2, oc_some, if_pos c_25, if_neg c_63]; exact h_59), (by simp only [sp_performing_tu, c_2, oc_some, if_pos c_25, if_neg c_63]; exact h_60), (by simp only [sp_performing_pi_3, sp_performing_pi_4, c_2, oc_some, if_pos c_25, if_neg c_63]; exact h_61), (by simp only [sp_performing_va, c_2, oc_some, if_pos c_25, if_neg c_63]; exact h_46), (fun q n0_ n1_ n2_ n3_ n4_ n5_ => (fr_47 q n5_).trans ((fr_32 q n1_ n2_ n3_ n4_)))⟩ d_Course_performing_59
    · have i_84 := mt Int32.toInt_inj.mp c_25
      refine V.rd (pc' := 30) (fun hl => lv_aload_n X.1 X.2.1 d_Course_performing_29 rfl (lv_at hl 1 rfl)) ?_
      refine V.go (pc' := 31) (lv_iconst (v := 4) X.1 X.2.1 d_Course_performing_30 (by decide)) ?_
      refine V.callV (pc' := 34) X hK (c_Course_end  (co := co) (pg := pg) (ce := ce) (pi := pi) (ra := ra) (ln := ln) (en := en) (x := 4)   gh0  ) gh0 rfl (cwG (n := 1) X (mcs wd_89) (mcs wd_90) (mcs wd_91) (mcs wd_92) wd_93 (by decide +kernel) (by decide) (by decide)) rfl rfl (Nat.le_of_ble_eq_true rfl) d_Course_performing_31 ⟨by decide, by decide⟩ rfl (st1 := [.int 0]) rfl (fun M_85 ⟨h_86, fr_87⟩ => ?_)
      have h_88 : M_85 ce = some (.inr (0, [.ref va])) := (fr_87 _ (ne_k gh1 gh0 (i := 0) (j := 1) rfl rfl (by decide))).trans gh1
      have h_89 : M_85 va = some (.inl (cL, 16, .inr (.inl f))) := (fr_87 _ (ne_k gh2 gh0 (i := 100016) (j := 1) rfl rfl (by decide))).trans gh2
      have h_90 : M_85 pg = some (.inr (3, [.ref dg, .ref gg, .ref tg0, .int np, .int ns])) := (fr_87 _ (ne_k gh3 gh0 (i := 3) (j := 1) rfl rfl (by decide))).trans gh3
      have h_91 : M_85 tg0 = some (.inl (cQ, 60, .inr (.inr (.inr (.inr (tdOf ns sa)))))) := (fr_87 _ (ne_k gh4 gh0 (i := 10000060) (j := 1) rfl rfl (by decide))).trans gh4
      have h_92 : M_85 pi = some (.inr (2, [.ref la, .ref pe, .ref tu, .int hh, .int hi])) := (fr_87 _ (ne_k gh5 gh0 (i := 2) (j := 1) rfl rfl (by decide))).trans gh5
      have h_93 : M_85 la = some (.inl (cQ, 100, .inr (.inr (.inr (.inr (lq lo sa)))))) := (fr_87 _ (ne_k gh6 gh0 (i := 10000100) (j := 1) rfl rfl (by decide))).trans gh6
      have h_94 : M_85 pe = some (.inl (cI, 100, .inl pd)) := (fr_87 _ (ne_k gh7 gh0 (i := 1100) (j := 1) rfl rfl (by decide))).trans gh7
      have h_95 : M_85 tu = some (.inl (cI, 100, .inl ud)) := (fr_87 _ (ne_k gh8 gh0 (i := 1100) (j := 1) rfl rfl (by decide))).trans gh8
      have h_96 : M_85 (sa i_3) = some (.inr (4, [.int (st_f (σ i_3)), .int (st_t (σ i_3)), .int (st_k (σ i_3)), .int (st_n (σ i_3)), .int (st_a (σ i_3)), .int (st_c (σ i_3)), .int (st_l (σ i_3)), .ref (u1 i_3), .ref (u2 i_3), .ref (u3 i_3), .ref (u4 i_3), .ref (u5 i_3)])) := (fr_87 _ (ne_k h_16 gh0 (i := 4) (j := 1) rfl rfl (by decide))).trans h_16
      have h_97 : M_85 (u1 i_3) = some (.inl (cI, 7, .inl (st_kc (σ i_3)))) := (fr_87 _ (ne_k h_17 gh0 (i := 1007) (j := 1) rfl rfl (by decide))).trans h_17
      have h_98 : M_85 (u2 i_3) = some (.inl (cL, 7, .inr (.inl (st_kv (σ i_3))))) := (fr_87 _ (ne_k h_18 gh0 (i := 100007) (j := 1) rfl rfl (by decide))).trans h_18
      have h_99 : M_85 (u3 i_3) = some (.inl (cI, 7, .inl (st_lc (σ i_3)))) := (fr_87 _ (ne_k h_19 gh0 (i := 1007) (j := 1) rfl rfl (by decide))).trans h_19
      have h_100 : M_85 (u4 i_3) = some (.inl (cL, 7, .inr (.inl (st_fv (σ i_3))))) := (fr_87 _ (ne_k h_20 gh0 (i := 100007) (j := 1) rfl rfl (by decide))).trans h_20
      have h_101 : M_85 (u5 i_3) = some (.inl (cL, 7, .inr (.inl (st_lz (σ i_3))))) := (fr_87 _ (ne_k h_21 gh0 (i := 100007) (j := 1) rfl rfl (by decide))).trans h_21
      have hp_102 := hp.keep (M' := M_85) (fun q e he ht => fr_87 q (ne_p he ht gh0 (j := 1) rfl (by decide)))
      exact V.iret X hr hlk ⟨(by simp only [sp_performing, c_2, oc_some, if_neg c_25]), (by simp only [sp_performing_co_5, c_2, oc_some, if_neg c_25]; exact h_86), (by simp only [sp_performing_la, c_2, oc_some, if_neg c_25]; exact h_93), (by simp only [sp_performing_pe, c_2, oc_some, if_neg c_25]; exact h_94), (by simp only [sp_performing_tu, c_2, oc_some, if_neg c_25]; exact h_95), (by simp only [sp_performing_pi_3, sp_performing_pi_4, c_2, oc_some, if_neg c_25]; exact h_92), (by simp only [sp_performing_va, c_2, oc_some, if_neg c_25]; exact h_89), (fun q n0_ n1_ n2_ n3_ n4_ n5_ => (fr_87 q n0_))⟩ d_Course_performing_34

theorem perf_lo {ns hh x : Int32} {lo : Nat → Option Nat} {σ : Nat → Stm} (hlo : ∀ k j : Nat, lo k = some j → (j : Int) < ns.toInt) : ∀ k j : Nat, sp_performing_la ns hh lo x σ k = some j → (j : Int) < ns.toInt := by
  intro k j h
  unfold sp_performing_la at h
  cases hc : sp_whole ns x σ with
  | none =>
    rw [hc, oc_none] at h
    exact hlo k j h
  | some i =>
    rw [hc, oc_some] at h
    by_cases hf : sp_Pile_isFull hh = 0
    · rw [if_pos hf, sp_lay_la, if_pos hf] at h
      by_cases h0 : 0 ≤ hh
      · rw [if_pos h0] at h
        by_cases hk : k = hh.toNatClampNeg
        · subst hk
          rw [va_up_self] at h
          cases h
          exact whole_lt hc
        · rw [va_up_ne _ _ hk] at h
          exact hlo k j h
      · rw [if_neg h0] at h
        exact hlo k j h
    · rw [if_neg hf] at h
      exact hlo k j h

theorem d_Course_behindDoing_0 : decode prog_3_method_9_code 0 = .ok (.iload_n 1, 1) := by decide +kernel
theorem d_Course_behindDoing_1 : decode prog_3_method_9_code 1 = .ok (.istore_n 2, 1) := by decide +kernel
theorem d_Course_behindDoing_2 : decode prog_3_method_9_code 2 = .ok (.iconst 0, 1) := by decide +kernel
theorem d_Course_behindDoing_3 : decode prog_3_method_9_code 3 = .ok (.istore_n 3, 1) := by decide +kernel
theorem d_Course_behindDoing_4 : decode prog_3_method_9_code 4 = .ok (.iload_n 3, 1) := by decide +kernel
theorem d_Course_behindDoing_5 : decode prog_3_method_9_code 5 = .ok (.bipush 100, 2) := by decide +kernel
theorem d_Course_behindDoing_7 : decode prog_3_method_9_code 7 = .ok (.if_icmp .ge 97, 3) := by decide +kernel
theorem d_Course_behindDoing_10 : decode prog_3_method_9_code 10 = .ok (.iload_n 2, 1) := by decide +kernel
theorem d_Course_behindDoing_11 : decode prog_3_method_9_code 11 = .ok (.ifCond .eq 93, 3) := by decide +kernel
theorem d_Course_behindDoing_14 : decode prog_3_method_9_code 14 = .ok (.aload_n 0, 1) := by decide +kernel
theorem d_Course_behindDoing_15 : decode prog_3_method_9_code 15 = .ok (.getfield 29, 3) := by decide +kernel
theorem d_Course_behindDoing_18 : decode prog_3_method_9_code 18 = .ok (.iload_n 2, 1) := by decide +kernel
theorem d_Course_behindDoing_19 : decode prog_3_method_9_code 19 = .ok (.invokevirtual 111, 3) := by decide +kernel
theorem d_Course_behindDoing_22 : decode prog_3_method_9_code 22 = .ok (.istore 4, 2) := by decide +kernel
theorem d_Course_behindDoing_24 : decode prog_3_method_9_code 24 = .ok (.iload 4, 2) := by decide +kernel
theorem d_Course_behindDoing_26 : decode prog_3_method_9_code 26 = .ok (.ifCond .eq 10, 3) := by decide +kernel
theorem d_Course_behindDoing_29 : decode prog_3_method_9_code 29 = .ok (.aload_n 0, 1) := by decide +kernel
theorem d_Course_behindDoing_30 : decode prog_3_method_9_code 30 = .ok (.iload 4, 2) := by decide +kernel
theorem d_Course_behindDoing_32 : decode prog_3_method_9_code 32 = .ok (.invokevirtual 98, 3) := by decide +kernel
theorem d_Course_behindDoing_35 : decode prog_3_method_9_code 35 = .ok (.ireturn, 1) := by decide +kernel
theorem d_Course_behindDoing_36 : decode prog_3_method_9_code 36 = .ok (.aload_n 0, 1) := by decide +kernel
theorem d_Course_behindDoing_37 : decode prog_3_method_9_code 37 = .ok (.getfield 21, 3) := by decide +kernel
theorem d_Course_behindDoing_40 : decode prog_3_method_9_code 40 = .ok (.invokevirtual 114, 3) := by decide +kernel
theorem d_Course_behindDoing_43 : decode prog_3_method_9_code 43 = .ok (.astore 5, 2) := by decide +kernel
theorem d_Course_behindDoing_45 : decode prog_3_method_9_code 45 = .ok (.aload 5, 2) := by decide +kernel
theorem d_Course_behindDoing_47 : decode prog_3_method_9_code 47 = .ok (.ifnull 12, 3) := by decide +kernel
theorem d_Course_behindDoing_50 : decode prog_3_method_9_code 50 = .ok (.aload 5, 2) := by decide +kernel
theorem d_Course_behindDoing_52 : decode prog_3_method_9_code 52 = .ok (.getfield 118, 3) := by decide +kernel
theorem d_Course_behindDoing_55 : decode prog_3_method_9_code 55 = .ok (.iload_n 2, 1) := by decide +kernel
theorem d_Course_behindDoing_56 : decode prog_3_method_9_code 56 = .ok (.if_icmp .eq 9, 3) := by decide +kernel
theorem d_Course_behindDoing_59 : decode prog_3_method_9_code 59 = .ok (.aload_n 0, 1) := by decide +kernel
theorem d_Course_behindDoing_60 : decode prog_3_method_9_code 60 = .ok (.iload_n 2, 1) := by decide +kernel
theorem d_Course_behindDoing_61 : decode prog_3_method_9_code 61 = .ok (.invokevirtual 121, 3) := by decide +kernel
theorem d_Course_behindDoing_64 : decode prog_3_method_9_code 64 = .ok (.ireturn, 1) := by decide +kernel
theorem d_Course_behindDoing_65 : decode prog_3_method_9_code 65 = .ok (.aload 5, 2) := by decide +kernel
theorem d_Course_behindDoing_67 : decode prog_3_method_9_code 67 = .ok (.aload_n 0, 1) := by decide +kernel
theorem d_Course_behindDoing_68 : decode prog_3_method_9_code 68 = .ok (.getfield 21, 3) := by decide +kernel
theorem d_Course_behindDoing_71 : decode prog_3_method_9_code 71 = .ok (.invokevirtual 124, 3) := by decide +kernel
theorem d_Course_behindDoing_74 : decode prog_3_method_9_code 74 = .ok (.aload_n 0, 1) := by decide +kernel
theorem d_Course_behindDoing_75 : decode prog_3_method_9_code 75 = .ok (.getfield 12, 3) := by decide +kernel
theorem d_Course_behindDoing_78 : decode prog_3_method_9_code 78 = .ok (.invokevirtual 127, 3) := by decide +kernel
theorem d_Course_behindDoing_81 : decode prog_3_method_9_code 81 = .ok (.ifCond .eq 9, 3) := by decide +kernel
theorem d_Course_behindDoing_84 : decode prog_3_method_9_code 84 = .ok (.aload 5, 2) := by decide +kernel
theorem d_Course_behindDoing_86 : decode prog_3_method_9_code 86 = .ok (.getfield 84, 3) := by decide +kernel
theorem d_Course_behindDoing_89 : decode prog_3_method_9_code 89 = .ok (.ireturn, 1) := by decide +kernel
theorem d_Course_behindDoing_90 : decode prog_3_method_9_code 90 = .ok (.aload_n 0, 1) := by decide +kernel
theorem d_Course_behindDoing_91 : decode prog_3_method_9_code 91 = .ok (.getfield 21, 3) := by decide +kernel
theorem d_Course_behindDoing_94 : decode prog_3_method_9_code 94 = .ok (.invokevirtual 87, 3) := by decide +kernel
theorem d_Course_behindDoing_97 : decode prog_3_method_9_code 97 = .ok (.istore_n 2, 1) := by decide +kernel
theorem d_Course_behindDoing_98 : decode prog_3_method_9_code 98 = .ok (.iinc 3 1, 3) := by decide +kernel
theorem d_Course_behindDoing_101 : decode prog_3_method_9_code 101 = .ok (.goto (-97), 3) := by decide +kernel
theorem d_Course_behindDoing_104 : decode prog_3_method_9_code 104 = .ok (.aload_n 0, 1) := by decide +kernel
theorem d_Course_behindDoing_105 : decode prog_3_method_9_code 105 = .ok (.iconst 0, 1) := by decide +kernel
theorem d_Course_behindDoing_106 : decode prog_3_method_9_code 106 = .ok (.invokevirtual 44, 3) := by decide +kernel
theorem d_Course_behindDoing_109 : decode prog_3_method_9_code 109 = .ok (.ireturn, 1) := by decide +kernel

def lp_behindDoing (np : Int32) (gd : Nat → Int32) (lo : Nat → Option Nat) (pd : Nat → Int32) (σ : Nat → Stm) : Nat → Int32 → Int32 → (Nat → Int64) → Int32 → (Nat → Int32) → Int32
  | 0, _, _, _, _, _ => 0
  | n_ + 1, hr_, k, g, h2, ud2 => if 100 ≤ k then 0 else if hr_ = 0 then 0 else if (sp_goingOf np gd hr_) = 0 then oc (sp_top h2 lo) (sp_falling np hr_) (fun i_45 => if (st_t (σ i_45)) = hr_ then (if (sp_goesOnceMore (st_k (σ i_45)) (st_n (σ i_45)) (st_a (σ i_45)) (st_l (σ i_45)) (st_kc (σ i_45)) (st_kv (σ i_45)) (st_lc (σ i_45)) (st_fv (σ i_45)) (st_lz (σ i_45)) g (sp_Pile_countTurn h2 ud2)) = 0 then lp_behindDoing np gd lo pd σ n_ (sp_Pile_takeOff h2 pd) (k + 1) (sp_goesOnceMore_va (st_k (σ i_45)) (st_a (σ i_45)) (st_l (σ i_45)) (st_kc (σ i_45)) (st_kv (σ i_45)) (st_lc (σ i_45)) (st_fv (σ i_45)) (st_lz (σ i_45)) g) (sp_Pile_takeOff_pi_3 h2) (sp_Pile_countTurn_tu h2 ud2) else st_f (σ i_45)) else sp_falling np hr_) else sp_going np (sp_goingOf np gd hr_)
def lp_behindDoing_co_5 (en : Int32) (np : Int32) (gd : Nat → Int32) (lo : Nat → Option Nat) (pd : Nat → Int32) (σ : Nat → Stm) : Nat → Int32 → Int32 → (Nat → Int64) → Int32 → (Nat → Int32) → Int32
  | 0, _, _, _, _, _ => en
  | n_ + 1, hr_, k, g, h2, ud2 => if 100 ≤ k then 0 else if hr_ = 0 then 0 else if (sp_goingOf np gd hr_) = 0 then oc (sp_top h2 lo) (sp_falling_co_5 en np hr_) (fun i_45 => if (st_t (σ i_45)) = hr_ then (if (sp_goesOnceMore (st_k (σ i_45)) (st_n (σ i_45)) (st_a (σ i_45)) (st_l (σ i_45)) (st_kc (σ i_45)) (st_kv (σ i_45)) (st_lc (σ i_45)) (st_fv (σ i_45)) (st_lz (σ i_45)) g (sp_Pile_countTurn h2 ud2)) = 0 then lp_behindDoing_co_5 en np gd lo pd σ n_ (sp_Pile_takeOff h2 pd) (k + 1) (sp_goesOnceMore_va (st_k (σ i_45)) (st_a (σ i_45)) (st_l (σ i_45)) (st_kc (σ i_45)) (st_kv (σ i_45)) (st_lc (σ i_45)) (st_fv (σ i_45)) (st_lz (σ i_45)) g) (sp_Pile_takeOff_pi_3 h2) (sp_Pile_countTurn_tu h2 ud2) else en) else sp_falling_co_5 en np hr_) else sp_going_co_5 en np (sp_goingOf np gd hr_)
def lp_behindDoing_tu (np : Int32) (gd : Nat → Int32) (lo : Nat → Option Nat) (pd : Nat → Int32) (σ : Nat → Stm) : Nat → Int32 → Int32 → (Nat → Int64) → Int32 → (Nat → Int32) → Nat → Int32
  | 0, _, _, _, _, ud2 => ud2
  | n_ + 1, hr_, k, g, h2, ud2 => if 100 ≤ k then ud2 else if hr_ = 0 then ud2 else if (sp_goingOf np gd hr_) = 0 then oc (sp_top h2 lo) ud2 (fun i_45 => if (st_t (σ i_45)) = hr_ then (if (sp_goesOnceMore (st_k (σ i_45)) (st_n (σ i_45)) (st_a (σ i_45)) (st_l (σ i_45)) (st_kc (σ i_45)) (st_kv (σ i_45)) (st_lc (σ i_45)) (st_fv (σ i_45)) (st_lz (σ i_45)) g (sp_Pile_countTurn h2 ud2)) = 0 then lp_behindDoing_tu np gd lo pd σ n_ (sp_Pile_takeOff h2 pd) (k + 1) (sp_goesOnceMore_va (st_k (σ i_45)) (st_a (σ i_45)) (st_l (σ i_45)) (st_kc (σ i_45)) (st_kv (σ i_45)) (st_lc (σ i_45)) (st_fv (σ i_45)) (st_lz (σ i_45)) g) (sp_Pile_takeOff_pi_3 h2) (sp_Pile_countTurn_tu h2 ud2) else sp_Pile_countTurn_tu h2 ud2) else ud2) else ud2
def lp_behindDoing_va (np : Int32) (gd : Nat → Int32) (lo : Nat → Option Nat) (pd : Nat → Int32) (σ : Nat → Stm) : Nat → Int32 → Int32 → (Nat → Int64) → Int32 → (Nat → Int32) → Nat → Int64
  | 0, _, _, g, _, _ => g
  | n_ + 1, hr_, k, g, h2, ud2 => if 100 ≤ k then g else if hr_ = 0 then g else if (sp_goingOf np gd hr_) = 0 then oc (sp_top h2 lo) g (fun i_45 => if (st_t (σ i_45)) = hr_ then (if (sp_goesOnceMore (st_k (σ i_45)) (st_n (σ i_45)) (st_a (σ i_45)) (st_l (σ i_45)) (st_kc (σ i_45)) (st_kv (σ i_45)) (st_lc (σ i_45)) (st_fv (σ i_45)) (st_lz (σ i_45)) g (sp_Pile_countTurn h2 ud2)) = 0 then lp_behindDoing_va np gd lo pd σ n_ (sp_Pile_takeOff h2 pd) (k + 1) (sp_goesOnceMore_va (st_k (σ i_45)) (st_a (σ i_45)) (st_l (σ i_45)) (st_kc (σ i_45)) (st_kv (σ i_45)) (st_lc (σ i_45)) (st_fv (σ i_45)) (st_lz (σ i_45)) g) (sp_Pile_takeOff_pi_3 h2) (sp_Pile_countTurn_tu h2 ud2) else sp_goesOnceMore_va (st_k (σ i_45)) (st_a (σ i_45)) (st_l (σ i_45)) (st_kc (σ i_45)) (st_kv (σ i_45)) (st_lc (σ i_45)) (st_fv (σ i_45)) (st_lz (σ i_45)) g) else g) else g
def lp_behindDoing_pi_3 (np : Int32) (gd : Nat → Int32) (lo : Nat → Option Nat) (pd : Nat → Int32) (σ : Nat → Stm) : Nat → Int32 → Int32 → (Nat → Int64) → Int32 → (Nat → Int32) → Int32
  | 0, _, _, _, h2, _ => h2
  | n_ + 1, hr_, k, g, h2, ud2 => if 100 ≤ k then h2 else if hr_ = 0 then h2 else if (sp_goingOf np gd hr_) = 0 then oc (sp_top h2 lo) h2 (fun i_45 => if (st_t (σ i_45)) = hr_ then (if (sp_goesOnceMore (st_k (σ i_45)) (st_n (σ i_45)) (st_a (σ i_45)) (st_l (σ i_45)) (st_kc (σ i_45)) (st_kv (σ i_45)) (st_lc (σ i_45)) (st_fv (σ i_45)) (st_lz (σ i_45)) g (sp_Pile_countTurn h2 ud2)) = 0 then lp_behindDoing_pi_3 np gd lo pd σ n_ (sp_Pile_takeOff h2 pd) (k + 1) (sp_goesOnceMore_va (st_k (σ i_45)) (st_a (σ i_45)) (st_l (σ i_45)) (st_kc (σ i_45)) (st_kv (σ i_45)) (st_lc (σ i_45)) (st_fv (σ i_45)) (st_lz (σ i_45)) g) (sp_Pile_takeOff_pi_3 h2) (sp_Pile_countTurn_tu h2 ud2) else h2) else h2) else h2
set_option maxHeartbeats 4000000 in
set_option maxRecDepth 100000 in
theorem c_behindDoing {l : Launch} {H0 : Heap} {D : va_G} {cI cL cQ cB : ClassId} {M : mp} {co pg ce pi ra va dg gg tg0 la pe tu : Nat} {sa u1 u2 u3 u4 u5 : Nat → Nat} {σ : Nat → Stm} {ln : Int32} {en : Int32} {np : Int32} {ns : Int32} {hh : Int32} {hi : Int32} {gd : Nat → Int32} {f : Nat → Int64} {lo : Nat → Option Nat} {pd : Nat → Int32} {ud : Nat → Int32} {x : Int32} (ne0 : pe ≠ tu) (gh0 : M co = some (.inr (1, [.ref pg, .ref ce, .ref pi, .ref ra, .int ln, .int en]))) (gh1 : M ce = some (.inr (0, [.ref va]))) (gh2 : M va = some (.inl (cL, 16, .inr (.inl f)))) (gh3 : M pg = some (.inr (3, [.ref dg, .ref gg, .ref tg0, .int np, .int ns]))) (gh4 : M gg = some (.inl (cI, 60, .inl gd))) (gh5 : M pi = some (.inr (2, [.ref la, .ref pe, .ref tu, .int hh, .int hi]))) (gh6 : M la = some (.inl (cQ, 100, .inr (.inr (.inr (.inr (lq lo sa))))))) (gh7 : M pe = some (.inl (cI, 100, .inl pd))) (gh8 : M tu = some (.inl (cI, 100, .inl ud))) (hp : SP cI cL M ns sa u1 u2 u3 u4 u5 σ) (hσ : ∀ i : Nat, (i : Int) < ns.toInt → (st_l (σ i)).toInt ≤ 7) (hlo : ∀ k j : Nat, lo k = some j → (j : Int) < ns.toInt) : MC l H0 D cls7 (tysOf cI cL cQ cB) NW ({ cls := "PerformRanges$Course", name := "behindDoing", desc := "(I)I" } : Jvm.MethodName) (Cond.code ({ cls := "PerformRanges$Course", name := "behindDoing", desc := "(I)I" } : Jvm.MethodName) prog_3_method_9_code 6 (Option.some Jvm.ClassFile.FieldType.int) :: GW) ({ frames := 5, cells := 0, slots := 0, locals := 110 }) [.ref co, .int x] M (fun v M' => v = some (.int (lp_behindDoing np gd lo pd σ 101 x 0 f hh ud)) ∧ M' co = some (.inr (1, [.ref pg, .ref ce, .ref pi, .ref ra, .int ln, .int (lp_behindDoing_co_5 en np gd lo pd σ 101 x 0 f hh ud)])) ∧ M' tu = some (.inl (cI, 100, .inl (lp_behindDoing_tu np gd lo pd σ 101 x 0 f hh ud))) ∧ M' va = some (.inl (cL, 16, .inr (.inl (lp_behindDoing_va np gd lo pd σ 101 x 0 f hh ud)))) ∧ M' pi = some (.inr (2, [.ref la, .ref pe, .ref tu, .int (lp_behindDoing_pi_3 np gd lo pd σ 101 x 0 f hh ud), .int hi])) ∧ ∀ q, q ≠ co → q ≠ tu → q ≠ va → q ≠ pi → M' q = M q) := by
  refine MC.of (cc := prog_3_method_9_code) (nL := 6) (ret := (Option.some Jvm.ClassFile.FieldType.int)) (lv := [(0, .ref co), (1, .int x)]) (by decide) rfl (Nat.le_of_ble_eq_true rfl) rfl ?_
  intro p e s m below meth c X hr hlk hnm hK
  have k0 : (0 : Int32).toInt = 0 := rfl
  have k100 : (100 : Int32).toInt = 100 := rfl
  refine V.rd (pc' := 1) (fun hl => lv_iload_n X.1 X.2.1 d_Course_behindDoing_0 rfl (lv_at hl 1 rfl)) ?_
  refine V.wr (pc' := 2) (lv' := [(2, .int x), (0, .ref co), (1, .int x)]) (fun hl => lv_istore_n X.1 X.2.1 d_Course_behindDoing_1 rfl hl (by decide) rfl) ?_
  refine V.go (pc' := 3) (lv_iconst (v := 0) X.1 X.2.1 d_Course_behindDoing_2 (by decide)) ?_
  refine V.wr (pc' := 4) (lv' := [(3, .int 0), (2, .int x), (0, .ref co), (1, .int x)]) (fun hl => lv_istore_n X.1 X.2.1 d_Course_behindDoing_3 rfl hl (by decide) rfl) ?_
  obtain ⟨ze_17, hze_17⟩ : ∃ z, z = lp_behindDoing np gd lo pd σ 101 x 0 f hh ud := ⟨_, rfl⟩
  obtain ⟨ze_18, hze_18⟩ : ∃ z, z = lp_behindDoing_co_5 en np gd lo pd σ 101 x 0 f hh ud := ⟨_, rfl⟩
  obtain ⟨ze_19, hze_19⟩ : ∃ z, z = lp_behindDoing_tu np gd lo pd σ 101 x 0 f hh ud := ⟨_, rfl⟩
  obtain ⟨ze_20, hze_20⟩ : ∃ z, z = lp_behindDoing_va np gd lo pd σ 101 x 0 f hh ud := ⟨_, rfl⟩
  obtain ⟨ze_21, hze_21⟩ : ∃ z, z = lp_behindDoing_pi_3 np gd lo pd σ 101 x 0 f hh ud := ⟨_, rfl⟩
  refine V.pick [2, 3, 1, 0] rfl ?_
  refine V.ind (α := Unit) (x0 := ()) (n0 := 101) (I := fun nn_ _ M' lv' => ∃ (hr_ : Int32) (k : Int32) (g : Nat → Int64) (h2 : Int32) (ud2 : Nat → Int32), lv' = [(0, .ref co), (1, .int x), (2, .int hr_), (3, .int k)] ∧ M' co = some (.inr (1, [.ref pg, .ref ce, .ref pi, .ref ra, .int ln, .int en])) ∧ M' ce = some (.inr (0, [.ref va])) ∧ M' va = some (.inl (cL, 16, .inr (.inl g))) ∧ M' pg = some (.inr (3, [.ref dg, .ref gg, .ref tg0, .int np, .int ns])) ∧ M' gg = some (.inl (cI, 60, .inl gd)) ∧ M' pi = some (.inr (2, [.ref la, .ref pe, .ref tu, .int h2, .int hi])) ∧ M' la = some (.inl (cQ, 100, .inr (.inr (.inr (.inr (lq lo sa)))))) ∧ M' pe = some (.inl (cI, 100, .inl pd)) ∧ M' tu = some (.inl (cI, 100, .inl ud2)) ∧ SP cI cL M' ns sa u1 u2 u3 u4 u5 σ ∧ (∀ q, q ≠ va → q ≠ pi → q ≠ tu → M' q = M q) ∧ (0 ≤ k.toInt ∧ k.toInt ≤ 100) ∧ (k.toInt + nn_ = 101) ∧ lp_behindDoing np gd lo pd σ nn_ hr_ k g h2 ud2 = ze_17 ∧ lp_behindDoing_co_5 en np gd lo pd σ nn_ hr_ k g h2 ud2 = ze_18 ∧ lp_behindDoing_tu np gd lo pd σ nn_ hr_ k g h2 ud2 = ze_19 ∧ lp_behindDoing_va np gd lo pd σ nn_ hr_ k g h2 ud2 = ze_20 ∧ lp_behindDoing_pi_3 np gd lo pd σ nn_ hr_ k g h2 ud2 = ze_21) ⟨x, 0, f, hh, ud, rfl, gh0, gh1, gh2, gh3, gh4, gh5, gh6, gh7, gh8, hp, (fun q _ _ _ => rfl), (by omega), (by omega), hze_17.symm, hze_18.symm, hze_19.symm, hze_20.symm, hze_21.symm⟩ (fun n_11 ih_12 _ M_10 lv_13 hI_14 => ?_)
  obtain ⟨hr_, k, g, h2, ud2, rfl, h_1, h_2, h_3, h_4, h_5, h_6, h_7, h_8, h_9, hp_16, fr_15, j1, j2, e_17, e_18, e_19, e_20, e_21⟩ := hI_14
  obtain ⟨n_11, rfl⟩ : ∃ j, n_11 = j + 1 := ⟨n_11 - 1, by omega⟩
  refine V.rd (pc' := 5) (fun hl => lv_iload_n X.1 X.2.1 d_Course_behindDoing_4 rfl (lv_at hl 3 rfl)) ?_
  refine V.go (pc' := 7) (lv_bipush (v := 100) X.1 X.2.1 d_Course_behindDoing_5 (by decide)) ?_
  refine V.br (pc' := 10) (tgt := 104) (P := 100 ≤ k) (lv_icmp_ge X.1 X.2.1 d_Course_behindDoing_7 (by decide)) (fun c_22 => ?_) (fun c_22 => ?_)
  · have i_23 := Int32.le_iff_toInt_le.mp c_22
    refine V.rd (pc' := 105) (fun hl => lv_aload_n X.1 X.2.1 d_Course_behindDoing_104 rfl (lv_at hl 0 rfl)) ?_
    refine V.go (pc' := 106) (lv_iconst (v := 0) X.1 X.2.1 d_Course_behindDoing_105 (by decide)) ?_
    refine V.callV (pc' := 109) X hK (c_Course_end  (co := co) (pg := pg) (ce := ce) (pi := pi) (ra := ra) (ln := ln) (en := en) (x := 0)   h_1  ) h_1 rfl (cwG (n := 1) X (mcs wd_89) (mcs wd_90) (mcs wd_91) (mcs wd_92) wd_93 (by decide +kernel) (by decide) (by decide)) rfl rfl (Nat.le_of_ble_eq_true rfl) d_Course_behindDoing_106 ⟨by decide, by decide⟩ rfl (st1 := [.int 0]) rfl (fun M_24 ⟨h_25, fr_26⟩ => ?_)
    have h_27 : M_24 ce = some (.inr (0, [.ref va])) := (fr_26 _ (ne_k h_2 h_1 (i := 0) (j := 1) rfl rfl (by decide))).trans h_2
    have h_28 : M_24 va = some (.inl (cL, 16, .inr (.inl g))) := (fr_26 _ (ne_k h_3 h_1 (i := 100016) (j := 1) rfl rfl (by decide))).trans h_3
    have h_29 : M_24 pg = some (.inr (3, [.ref dg, .ref gg, .ref tg0, .int np, .int ns])) := (fr_26 _ (ne_k h_4 h_1 (i := 3) (j := 1) rfl rfl (by decide))).trans h_4
    have h_30 : M_24 gg = some (.inl (cI, 60, .inl gd)) := (fr_26 _ (ne_k h_5 h_1 (i := 1060) (j := 1) rfl rfl (by decide))).trans h_5
    have h_31 : M_24 pi = some (.inr (2, [.ref la, .ref pe, .ref tu, .int h2, .int hi])) := (fr_26 _ (ne_k h_6 h_1 (i := 2) (j := 1) rfl rfl (by decide))).trans h_6
    have h_32 : M_24 la = some (.inl (cQ, 100, .inr (.inr (.inr (.inr (lq lo sa)))))) := (fr_26 _ (ne_k h_7 h_1 (i := 10000100) (j := 1) rfl rfl (by decide))).trans h_7
    have h_33 : M_24 pe = some (.inl (cI, 100, .inl pd)) := (fr_26 _ (ne_k h_8 h_1 (i := 1100) (j := 1) rfl rfl (by decide))).trans h_8
    have h_34 : M_24 tu = some (.inl (cI, 100, .inl ud2)) := (fr_26 _ (ne_k h_9 h_1 (i := 1100) (j := 1) rfl rfl (by decide))).trans h_9
    have hp_35 := hp_16.keep (M' := M_24) (fun q e he ht => fr_26 q (ne_p he ht h_1 (j := 1) rfl (by decide)))
    rw [lp_behindDoing] at e_17
    simp only [if_pos c_22] at e_17
    rw [lp_behindDoing_co_5] at e_18
    simp only [if_pos c_22] at e_18
    rw [lp_behindDoing_tu] at e_19
    simp only [if_pos c_22] at e_19
    rw [lp_behindDoing_va] at e_20
    simp only [if_pos c_22] at e_20
    rw [lp_behindDoing_pi_3] at e_21
    simp only [if_pos c_22] at e_21
    exact V.iret X hr hlk ⟨(by exact congrArg (fun z => some (Value.int z)) (e_17.trans hze_17)), (by rw [← hze_18, ← e_18]; exact h_25), (by rw [← hze_19, ← e_19]; exact h_34), (by rw [← hze_20, ← e_20]; exact h_28), (by rw [← hze_21, ← e_21]; exact h_31), (fun q n0_ n1_ n2_ n3_ => (fr_26 q n0_).trans ((fr_15 q n2_ n3_ n1_)))⟩ d_Course_behindDoing_109
  · have i_36 := mt Int32.le_iff_toInt_le.mpr c_22
    refine V.rd (pc' := 11) (fun hl => lv_iload_n X.1 X.2.1 d_Course_behindDoing_10 rfl (lv_at hl 2 rfl)) ?_
    refine V.br (pc' := 14) (tgt := 104) (P := hr_ = 0) (lv_if_eq X.1 X.2.1 d_Course_behindDoing_11 (by decide)) (fun c_37 => ?_) (fun c_37 => ?_)
    · have i_38 := congrArg Int32.toInt c_37
      refine V.rd (pc' := 105) (fun hl => lv_aload_n X.1 X.2.1 d_Course_behindDoing_104 rfl (lv_at hl 0 rfl)) ?_
      refine V.go (pc' := 106) (lv_iconst (v := 0) X.1 X.2.1 d_Course_behindDoing_105 (by decide)) ?_
      refine V.callV (pc' := 109) X hK (c_Course_end  (co := co) (pg := pg) (ce := ce) (pi := pi) (ra := ra) (ln := ln) (en := en) (x := 0)   h_1  ) h_1 rfl (cwG (n := 1) X (mcs wd_89) (mcs wd_90) (mcs wd_91) (mcs wd_92) wd_93 (by decide +kernel) (by decide) (by decide)) rfl rfl (Nat.le_of_ble_eq_true rfl) d_Course_behindDoing_106 ⟨by decide, by decide⟩ rfl (st1 := [.int 0]) rfl (fun M_39 ⟨h_40, fr_41⟩ => ?_)
      have h_42 : M_39 ce = some (.inr (0, [.ref va])) := (fr_41 _ (ne_k h_2 h_1 (i := 0) (j := 1) rfl rfl (by decide))).trans h_2
      have h_43 : M_39 va = some (.inl (cL, 16, .inr (.inl g))) := (fr_41 _ (ne_k h_3 h_1 (i := 100016) (j := 1) rfl rfl (by decide))).trans h_3
      have h_44 : M_39 pg = some (.inr (3, [.ref dg, .ref gg, .ref tg0, .int np, .int ns])) := (fr_41 _ (ne_k h_4 h_1 (i := 3) (j := 1) rfl rfl (by decide))).trans h_4
      have h_45 : M_39 gg = some (.inl (cI, 60, .inl gd)) := (fr_41 _ (ne_k h_5 h_1 (i := 1060) (j := 1) rfl rfl (by decide))).trans h_5
      have h_46 : M_39 pi = some (.inr (2, [.ref la, .ref pe, .ref tu, .int h2, .int hi])) := (fr_41 _ (ne_k h_6 h_1 (i := 2) (j := 1) rfl rfl (by decide))).trans h_6
      have h_47 : M_39 la = some (.inl (cQ, 100, .inr (.inr (.inr (.inr (lq lo sa)))))) := (fr_41 _ (ne_k h_7 h_1 (i := 10000100) (j := 1) rfl rfl (by decide))).trans h_7
      have h_48 : M_39 pe = some (.inl (cI, 100, .inl pd)) := (fr_41 _ (ne_k h_8 h_1 (i := 1100) (j := 1) rfl rfl (by decide))).trans h_8
      have h_49 : M_39 tu = some (.inl (cI, 100, .inl ud2)) := (fr_41 _ (ne_k h_9 h_1 (i := 1100) (j := 1) rfl rfl (by decide))).trans h_9
      have hp_50 := hp_16.keep (M' := M_39) (fun q e he ht => fr_41 q (ne_p he ht h_1 (j := 1) rfl (by decide)))
      rw [lp_behindDoing] at e_17
      simp only [if_neg c_22, if_pos c_37] at e_17
      rw [lp_behindDoing_co_5] at e_18
      simp only [if_neg c_22, if_pos c_37] at e_18
      rw [lp_behindDoing_tu] at e_19
      simp only [if_neg c_22, if_pos c_37] at e_19
      rw [lp_behindDoing_va] at e_20
      simp only [if_neg c_22, if_pos c_37] at e_20
      rw [lp_behindDoing_pi_3] at e_21
      simp only [if_neg c_22, if_pos c_37] at e_21
      exact V.iret X hr hlk ⟨(by exact congrArg (fun z => some (Value.int z)) (e_17.trans hze_17)), (by rw [← hze_18, ← e_18]; exact h_40), (by rw [← hze_19, ← e_19]; exact h_49), (by rw [← hze_20, ← e_20]; exact h_43), (by rw [← hze_21, ← e_21]; exact h_46), (fun q n0_ n1_ n2_ n3_ => (fr_41 q n0_).trans ((fr_15 q n2_ n3_ n1_)))⟩ d_Course_behindDoing_109
    · have i_51 := mt Int32.toInt_inj.mp c_37
      refine V.rd (pc' := 15) (fun hl => lv_aload_n X.1 X.2.1 d_Course_behindDoing_14 rfl (lv_at hl 0 rfl)) ?_
      refine V.get (pc' := 18) X hK h_1 uw_Course rfl 0 (by decide) (mcs wd_87) rfl d_Course_behindDoing_15 rfl ?_
      refine V.rd (pc' := 19) (fun hl => lv_iload_n X.1 X.2.1 d_Course_behindDoing_18 rfl (lv_at hl 2 rfl)) ?_
      refine V.callV0 (pc' := 22) X hK (c_goingOf  (pg := pg) (dg := dg) (gg := gg) (tg0 := tg0) (np := np) (ns := ns) (gd := gd) (x := hr_)   h_4 h_5  ) h_4 rfl (cwG (n := 1) X (mcs wd_121) (mcs wd_122) (mcs wd_123) (mcs wd_7) wd_124 (by decide +kernel) (by decide) (by decide)) rfl rfl (Nat.le_of_ble_eq_true rfl) d_Course_behindDoing_19 ⟨by decide, by decide⟩ rfl (st1 := [.int (sp_goingOf np gd hr_)]) rfl ?_
      refine V.wr (pc' := 24) (lv' := [(4, .int (sp_goingOf np gd hr_)), (0, .ref co), (1, .int x), (2, .int hr_), (3, .int k)]) (fun hl => lv_istore X.1 X.2.1 d_Course_behindDoing_22 hl (by decide) rfl) ?_
      refine V.rd (pc' := 26) (fun hl => lv_iload X.1 X.2.1 d_Course_behindDoing_24 (lv_at hl 0 rfl)) ?_
      refine V.br (pc' := 29) (tgt := 36) (P := (sp_goingOf np gd hr_) = 0) (lv_if_eq X.1 X.2.1 d_Course_behindDoing_26 (by decide)) (fun c_53 => ?_) (fun c_53 => ?_)
      · have i_54 := congrArg Int32.toInt c_53
        refine V.rd (pc' := 37) (fun hl => lv_aload_n X.1 X.2.1 d_Course_behindDoing_36 rfl (lv_at hl 1 rfl)) ?_
        refine V.get (pc' := 40) X hK h_1 uw_Course rfl 2 (by decide) (mcs wd_107) rfl d_Course_behindDoing_37 rfl ?_
        refine V.callV0 (pc' := 43) X hK (c_top  (pi := pi) (la := la) (pe := pe) (tu := tu) (hh := h2) (hi := hi) (lo := lo)   h_6 h_7  ) h_6 rfl (cwG (n := 0) X (mcs wd_125) (mcs wd_126) (mcs wd_127) (mcs wd_81) wd_128 (by decide +kernel) (by decide) (by decide)) rfl rfl (Nat.le_of_ble_eq_true rfl) d_Course_behindDoing_40 ⟨by decide, by decide⟩ rfl (st1 := [va_rf (Option.map sa (sp_top h2 lo))]) rfl ?_
        refine V.sp (o := sp_top h2 lo) (fun c_56 => ?_) (fun i_57 c_56 => ?_)
        · refine V.wr (pc' := 45) (lv' := [(5, .null), (4, .int (sp_goingOf np gd hr_)), (0, .ref co), (1, .int x), (2, .int hr_), (3, .int k)]) (fun hl => lv_astoreN X.1 X.2.1 d_Course_behindDoing_43 hl (by decide) rfl) ?_
          refine V.rd (pc' := 47) (fun hl => lv_aloadN X.1 X.2.1 d_Course_behindDoing_45 (lv_at hl 0 rfl)) ?_
          refine V.go (pc' := 59) (lv_ifnullN X.1 X.2.1 d_Course_behindDoing_47 (by decide)) ?_
          refine V.rd (pc' := 60) (fun hl => lv_aload_n X.1 X.2.1 d_Course_behindDoing_59 rfl (lv_at hl 2 rfl)) ?_
          refine V.rd (pc' := 61) (fun hl => lv_iload_n X.1 X.2.1 d_Course_behindDoing_60 rfl (lv_at hl 4 rfl)) ?_
          refine V.callV (pc' := 64) X hK (c_falling  (co := co) (pg := pg) (ce := ce) (pi := pi) (ra := ra) (dg := dg) (gg := gg) (tg0 := tg0) (ln := ln) (en := en) (np := np) (ns := ns) (x := hr_)   h_1 h_4  ) h_1 rfl (cwG (n := 1) X (mcs wd_129) (mcs wd_130) (mcs wd_131) (mcs wd_92) wd_132 (by decide +kernel) (by decide) (by decide)) rfl rfl (Nat.le_of_ble_eq_true rfl) d_Course_behindDoing_61 ⟨by decide, by decide⟩ rfl (st1 := [.int (sp_falling np hr_)]) rfl (fun M_58 ⟨h_59, fr_60⟩ => ?_)
          have h_61 : M_58 ce = some (.inr (0, [.ref va])) := (fr_60 _ (ne_k h_2 h_1 (i := 0) (j := 1) rfl rfl (by decide))).trans h_2
          have h_62 : M_58 va = some (.inl (cL, 16, .inr (.inl g))) := (fr_60 _ (ne_k h_3 h_1 (i := 100016) (j := 1) rfl rfl (by decide))).trans h_3
          have h_63 : M_58 pg = some (.inr (3, [.ref dg, .ref gg, .ref tg0, .int np, .int ns])) := (fr_60 _ (ne_k h_4 h_1 (i := 3) (j := 1) rfl rfl (by decide))).trans h_4
          have h_64 : M_58 gg = some (.inl (cI, 60, .inl gd)) := (fr_60 _ (ne_k h_5 h_1 (i := 1060) (j := 1) rfl rfl (by decide))).trans h_5
          have h_65 : M_58 pi = some (.inr (2, [.ref la, .ref pe, .ref tu, .int h2, .int hi])) := (fr_60 _ (ne_k h_6 h_1 (i := 2) (j := 1) rfl rfl (by decide))).trans h_6
          have h_66 : M_58 la = some (.inl (cQ, 100, .inr (.inr (.inr (.inr (lq lo sa)))))) := (fr_60 _ (ne_k h_7 h_1 (i := 10000100) (j := 1) rfl rfl (by decide))).trans h_7
          have h_67 : M_58 pe = some (.inl (cI, 100, .inl pd)) := (fr_60 _ (ne_k h_8 h_1 (i := 1100) (j := 1) rfl rfl (by decide))).trans h_8
          have h_68 : M_58 tu = some (.inl (cI, 100, .inl ud2)) := (fr_60 _ (ne_k h_9 h_1 (i := 1100) (j := 1) rfl rfl (by decide))).trans h_9
          have hp_69 := hp_16.keep (M' := M_58) (fun q e he ht => fr_60 q (ne_p he ht h_1 (j := 1) rfl (by decide)))
          rw [lp_behindDoing] at e_17
          simp only [if_neg c_22, if_neg c_37, if_pos c_53, c_56, oc_none] at e_17
          rw [lp_behindDoing_co_5] at e_18
          simp only [if_neg c_22, if_neg c_37, if_pos c_53, c_56, oc_none] at e_18
          rw [lp_behindDoing_tu] at e_19
          simp only [if_neg c_22, if_neg c_37, if_pos c_53, c_56, oc_none] at e_19
          rw [lp_behindDoing_va] at e_20
          simp only [if_neg c_22, if_neg c_37, if_pos c_53, c_56, oc_none] at e_20
          rw [lp_behindDoing_pi_3] at e_21
          simp only [if_neg c_22, if_neg c_37, if_pos c_53, c_56, oc_none] at e_21
          exact V.iret X hr hlk ⟨(by exact congrArg (fun z => some (Value.int z)) (e_17.trans hze_17)), (by rw [← hze_18, ← e_18]; exact h_59), (by rw [← hze_19, ← e_19]; exact h_68), (by rw [← hze_20, ← e_20]; exact h_62), (by rw [← hze_21, ← e_21]; exact h_65), (fun q n0_ n1_ n2_ n3_ => (fr_60 q n0_).trans ((fr_15 q n2_ n3_ n1_)))⟩ d_Course_behindDoing_64
        · have hlt_76 : (i_57 : Int) < ns.toInt := top_lt hlo c_56
          have hs_77 := hσ i_57 hlt_76
          obtain ⟨h_70, h_71, h_72, h_73, h_74, h_75⟩ := hp_16 i_57 hlt_76
          refine V.wr (pc' := 45) (lv' := [(5, .ref (sa i_57)), (4, .int (sp_goingOf np gd hr_)), (0, .ref co), (1, .int x), (2, .int hr_), (3, .int k)]) (fun hl => lv_astore X.1 X.2.1 d_Course_behindDoing_43 hl (by decide) rfl) ?_
          refine V.rd (pc' := 47) (fun hl => lv_aload X.1 X.2.1 d_Course_behindDoing_45 (lv_at hl 0 rfl)) ?_
          refine V.go (pc' := 50) (lv_ifnull X.1 X.2.1 d_Course_behindDoing_47) ?_
          refine V.rd (pc' := 52) (fun hl => lv_aload X.1 X.2.1 d_Course_behindDoing_50 (lv_at hl 0 rfl)) ?_
          refine V.getN (pc' := 55) X hK h_70 uw_Statement rfl 1 (by decide) (List.mem_of_getElem? (i := 13) rfl) rfl d_Course_behindDoing_52 rfl ?_
          refine V.rd (pc' := 56) (fun hl => lv_iload_n X.1 X.2.1 d_Course_behindDoing_55 rfl (lv_at hl 4 rfl)) ?_
          refine V.br (pc' := 59) (tgt := 65) (P := (st_t (σ i_57)) = hr_) (lv_icmp_eq X.1 X.2.1 d_Course_behindDoing_56 (by decide)) (fun c_78 => ?_) (fun c_78 => ?_)
          · have i_79 := congrArg Int32.toInt c_78
            refine V.rd (pc' := 67) (fun hl => lv_aload X.1 X.2.1 d_Course_behindDoing_65 (lv_at hl 0 rfl)) ?_
            refine V.rd (pc' := 68) (fun hl => lv_aload_n X.1 X.2.1 d_Course_behindDoing_67 rfl (lv_at hl 2 rfl)) ?_
            refine V.get (pc' := 71) X hK h_1 uw_Course rfl 2 (by decide) (mcs wd_107) rfl d_Course_behindDoing_68 rfl ?_
            refine V.callV (pc' := 74) X hK (c_Pile_countTurn  (pi := pi) (la := la) (pe := pe) (tu := tu) (hh := h2) (hi := hi) (ud := ud2)   h_6 h_9  ) h_6 rfl (cwG (n := 0) X (mcs wd_133) (mcs wd_134) (mcs wd_135) (mcs wd_81) wd_136 (by decide +kernel) (by decide) (by decide)) rfl rfl (Nat.le_of_ble_eq_true rfl) d_Course_behindDoing_71 ⟨by decide, by decide⟩ rfl (st1 := [.int (sp_Pile_countTurn h2 ud2), .ref (sa i_57)]) rfl (fun M_80 ⟨h_81, fr_82⟩ => ?_)
            have h_83 : M_80 co = some (.inr (1, [.ref pg, .ref ce, .ref pi, .ref ra, .int ln, .int en])) := (fr_82 _ (ne_k h_1 h_9 (i := 1) (j := 1100) rfl rfl (by decide))).trans h_1
            have h_84 : M_80 ce = some (.inr (0, [.ref va])) := (fr_82 _ (ne_k h_2 h_9 (i := 0) (j := 1100) rfl rfl (by decide))).trans h_2
            have h_85 : M_80 va = some (.inl (cL, 16, .inr (.inl g))) := (fr_82 _ (ne_k h_3 h_9 (i := 100016) (j := 1100) rfl rfl (by decide))).trans h_3
            have h_86 : M_80 pg = some (.inr (3, [.ref dg, .ref gg, .ref tg0, .int np, .int ns])) := (fr_82 _ (ne_k h_4 h_9 (i := 3) (j := 1100) rfl rfl (by decide))).trans h_4
            have h_87 : M_80 gg = some (.inl (cI, 60, .inl gd)) := (fr_82 _ (ne_k h_5 h_9 (i := 1060) (j := 1100) rfl rfl (by decide))).trans h_5
            have h_88 : M_80 pi = some (.inr (2, [.ref la, .ref pe, .ref tu, .int h2, .int hi])) := (fr_82 _ (ne_k h_6 h_9 (i := 2) (j := 1100) rfl rfl (by decide))).trans h_6
            have h_89 : M_80 la = some (.inl (cQ, 100, .inr (.inr (.inr (.inr (lq lo sa)))))) := (fr_82 _ (ne_k h_7 h_9 (i := 10000100) (j := 1100) rfl rfl (by decide))).trans h_7
            have h_90 : M_80 pe = some (.inl (cI, 100, .inl pd)) := (fr_82 _ ne0).trans h_8
            have h_91 : M_80 (sa i_57) = some (.inr (4, [.int (st_f (σ i_57)), .int (st_t (σ i_57)), .int (st_k (σ i_57)), .int (st_n (σ i_57)), .int (st_a (σ i_57)), .int (st_c (σ i_57)), .int (st_l (σ i_57)), .ref (u1 i_57), .ref (u2 i_57), .ref (u3 i_57), .ref (u4 i_57), .ref (u5 i_57)])) := (fr_82 _ (ne_k h_70 h_9 (i := 4) (j := 1100) rfl rfl (by decide))).trans h_70
            have h_92 : M_80 (u1 i_57) = some (.inl (cI, 7, .inl (st_kc (σ i_57)))) := (fr_82 _ (ne_k h_71 h_9 (i := 1007) (j := 1100) rfl rfl (by decide))).trans h_71
            have h_93 : M_80 (u2 i_57) = some (.inl (cL, 7, .inr (.inl (st_kv (σ i_57))))) := (fr_82 _ (ne_k h_72 h_9 (i := 100007) (j := 1100) rfl rfl (by decide))).trans h_72
            have h_94 : M_80 (u3 i_57) = some (.inl (cI, 7, .inl (st_lc (σ i_57)))) := (fr_82 _ (ne_k h_73 h_9 (i := 1007) (j := 1100) rfl rfl (by decide))).trans h_73
            have h_95 : M_80 (u4 i_57) = some (.inl (cL, 7, .inr (.inl (st_fv (σ i_57))))) := (fr_82 _ (ne_k h_74 h_9 (i := 100007) (j := 1100) rfl rfl (by decide))).trans h_74
            have h_96 : M_80 (u5 i_57) = some (.inl (cL, 7, .inr (.inl (st_lz (σ i_57))))) := (fr_82 _ (ne_k h_75 h_9 (i := 100007) (j := 1100) rfl rfl (by decide))).trans h_75
            have hp_97 := hp_16.keep (M' := M_80) (fun q e he ht => fr_82 q (ne_p he ht h_9 (j := 1100) rfl (by decide)))
            refine V.rd (pc' := 75) (fun hl => lv_aload_n X.1 X.2.1 d_Course_behindDoing_74 rfl (lv_at hl 2 rfl)) ?_
            refine V.get (pc' := 78) X hK h_83 uw_Course rfl 1 (by decide) (mcs wd_95) rfl d_Course_behindDoing_75 rfl ?_
            refine V.callV (pc' := 81) X hK (c_goesOnceMore  (sm := sa i_57) (acc := u1 i_57) (acv := u2 i_57) (alc := u3 i_57) (afv := u4 i_57) (als := u5 i_57) (ce := ce) (va := va) (sf := st_f (σ i_57)) (sto := st_t (σ i_57)) (sk := st_k (σ i_57)) (sn := st_n (σ i_57)) (saf := st_a (σ i_57)) (sc := st_c (σ i_57)) (sl := st_l (σ i_57)) (kc := st_kc (σ i_57)) (kv := st_kv (σ i_57)) (lc := st_lc (σ i_57)) (fv := st_fv (σ i_57)) (lz := st_lz (σ i_57)) (f := g) (x := sp_Pile_countTurn h2 ud2) (by first | assumption | omega)  h_91 h_92 h_93 h_94 h_95 h_96 h_84 h_85  ) h_91 rfl (cwG (n := 2) X (mcs wd_137) (mcs wd_138) (mcs wd_139) (mcs wd_46) wd_140 (by decide +kernel) (by decide) (by decide)) rfl rfl (Nat.le_of_ble_eq_true rfl) d_Course_behindDoing_78 ⟨by decide, by decide⟩ rfl (st1 := [.int (sp_goesOnceMore (st_k (σ i_57)) (st_n (σ i_57)) (st_a (σ i_57)) (st_l (σ i_57)) (st_kc (σ i_57)) (st_kv (σ i_57)) (st_lc (σ i_57)) (st_fv (σ i_57)) (st_lz (σ i_57)) g (sp_Pile_countTurn h2 ud2))]) rfl (fun M_98 ⟨h_99, fr_100⟩ => ?_)
            have h_101 : M_98 co = some (.inr (1, [.ref pg, .ref ce, .ref pi, .ref ra, .int ln, .int en])) := (fr_100 _ (ne_k h_83 h_85 (i := 1) (j := 100016) rfl rfl (by decide))).trans h_83
            have h_102 : M_98 ce = some (.inr (0, [.ref va])) := (fr_100 _ (ne_k h_84 h_85 (i := 0) (j := 100016) rfl rfl (by decide))).trans h_84
            have h_103 : M_98 pg = some (.inr (3, [.ref dg, .ref gg, .ref tg0, .int np, .int ns])) := (fr_100 _ (ne_k h_86 h_85 (i := 3) (j := 100016) rfl rfl (by decide))).trans h_86
            have h_104 : M_98 gg = some (.inl (cI, 60, .inl gd)) := (fr_100 _ (ne_k h_87 h_85 (i := 1060) (j := 100016) rfl rfl (by decide))).trans h_87
            have h_105 : M_98 pi = some (.inr (2, [.ref la, .ref pe, .ref tu, .int h2, .int hi])) := (fr_100 _ (ne_k h_88 h_85 (i := 2) (j := 100016) rfl rfl (by decide))).trans h_88
            have h_106 : M_98 la = some (.inl (cQ, 100, .inr (.inr (.inr (.inr (lq lo sa)))))) := (fr_100 _ (ne_k h_89 h_85 (i := 10000100) (j := 100016) rfl rfl (by decide))).trans h_89
            have h_107 : M_98 pe = some (.inl (cI, 100, .inl pd)) := (fr_100 _ (ne_k h_90 h_85 (i := 1100) (j := 100016) rfl rfl (by decide))).trans h_90
            have h_108 : M_98 (sa i_57) = some (.inr (4, [.int (st_f (σ i_57)), .int (st_t (σ i_57)), .int (st_k (σ i_57)), .int (st_n (σ i_57)), .int (st_a (σ i_57)), .int (st_c (σ i_57)), .int (st_l (σ i_57)), .ref (u1 i_57), .ref (u2 i_57), .ref (u3 i_57), .ref (u4 i_57), .ref (u5 i_57)])) := (fr_100 _ (ne_k h_91 h_85 (i := 4) (j := 100016) rfl rfl (by decide))).trans h_91
            have h_109 : M_98 (u1 i_57) = some (.inl (cI, 7, .inl (st_kc (σ i_57)))) := (fr_100 _ (ne_k h_92 h_85 (i := 1007) (j := 100016) rfl rfl (by decide))).trans h_92
            have h_110 : M_98 (u2 i_57) = some (.inl (cL, 7, .inr (.inl (st_kv (σ i_57))))) := (fr_100 _ (ne_k h_93 h_85 (i := 100007) (j := 100016) rfl rfl (by decide))).trans h_93
            have h_111 : M_98 (u3 i_57) = some (.inl (cI, 7, .inl (st_lc (σ i_57)))) := (fr_100 _ (ne_k h_94 h_85 (i := 1007) (j := 100016) rfl rfl (by decide))).trans h_94
            have h_112 : M_98 (u4 i_57) = some (.inl (cL, 7, .inr (.inl (st_fv (σ i_57))))) := (fr_100 _ (ne_k h_95 h_85 (i := 100007) (j := 100016) rfl rfl (by decide))).trans h_95
            have h_113 : M_98 (u5 i_57) = some (.inl (cL, 7, .inr (.inl (st_lz (σ i_57))))) := (fr_100 _ (ne_k h_96 h_85 (i := 100007) (j := 100016) rfl rfl (by decide))).trans h_96
            have h_114 : M_98 tu = some (.inl (cI, 100, .inl (sp_Pile_countTurn_tu h2 ud2))) := (fr_100 _ (ne_k h_81 h_85 (i := 1100) (j := 100016) rfl rfl (by decide))).trans h_81
            have hp_115 := hp_97.keep (M' := M_98) (fun q e he ht => fr_100 q (ne_p he ht h_85 (j := 100016) rfl (by decide)))
            refine V.br (pc' := 84) (tgt := 90) (P := (sp_goesOnceMore (st_k (σ i_57)) (st_n (σ i_57)) (st_a (σ i_57)) (st_l (σ i_57)) (st_kc (σ i_57)) (st_kv (σ i_57)) (st_lc (σ i_57)) (st_fv (σ i_57)) (st_lz (σ i_57)) g (sp_Pile_countTurn h2 ud2)) = 0) (lv_if_eq X.1 X.2.1 d_Course_behindDoing_81 (by decide)) (fun c_116 => ?_) (fun c_116 => ?_)
            · have i_117 := congrArg Int32.toInt c_116
              refine V.rd (pc' := 91) (fun hl => lv_aload_n X.1 X.2.1 d_Course_behindDoing_90 rfl (lv_at hl 2 rfl)) ?_
              refine V.get (pc' := 94) X hK h_101 uw_Course rfl 2 (by decide) (mcs wd_107) rfl d_Course_behindDoing_91 rfl ?_
              refine V.callV (pc' := 97) X hK (c_Pile_takeOff  (pi := pi) (la := la) (pe := pe) (tu := tu) (hh := h2) (hi := hi) (pd := pd)   h_105 h_107  ) h_105 rfl (cwG (n := 0) X (mcs wd_117) (mcs wd_118) (mcs wd_119) (mcs wd_81) wd_120 (by decide +kernel) (by decide) (by decide)) rfl rfl (Nat.le_of_ble_eq_true rfl) d_Course_behindDoing_94 ⟨by decide, by decide⟩ rfl (st1 := [.int (sp_Pile_takeOff h2 pd)]) rfl (fun M_118 ⟨h_119, fr_120⟩ => ?_)
              have h_121 : M_118 co = some (.inr (1, [.ref pg, .ref ce, .ref pi, .ref ra, .int ln, .int en])) := (fr_120 _ (ne_k h_101 h_105 (i := 1) (j := 2) rfl rfl (by decide))).trans h_101
              have h_122 : M_118 ce = some (.inr (0, [.ref va])) := (fr_120 _ (ne_k h_102 h_105 (i := 0) (j := 2) rfl rfl (by decide))).trans h_102
              have h_123 : M_118 pg = some (.inr (3, [.ref dg, .ref gg, .ref tg0, .int np, .int ns])) := (fr_120 _ (ne_k h_103 h_105 (i := 3) (j := 2) rfl rfl (by decide))).trans h_103
              have h_124 : M_118 gg = some (.inl (cI, 60, .inl gd)) := (fr_120 _ (ne_k h_104 h_105 (i := 1060) (j := 2) rfl rfl (by decide))).trans h_104
              have h_125 : M_118 la = some (.inl (cQ, 100, .inr (.inr (.inr (.inr (lq lo sa)))))) := (fr_120 _ (ne_k h_106 h_105 (i := 10000100) (j := 2) rfl rfl (by decide))).trans h_106
              have h_126 : M_118 pe = some (.inl (cI, 100, .inl pd)) := (fr_120 _ (ne_k h_107 h_105 (i := 1100) (j := 2) rfl rfl (by decide))).trans h_107
              have h_127 : M_118 (sa i_57) = some (.inr (4, [.int (st_f (σ i_57)), .int (st_t (σ i_57)), .int (st_k (σ i_57)), .int (st_n (σ i_57)), .int (st_a (σ i_57)), .int (st_c (σ i_57)), .int (st_l (σ i_57)), .ref (u1 i_57), .ref (u2 i_57), .ref (u3 i_57), .ref (u4 i_57), .ref (u5 i_57)])) := (fr_120 _ (ne_k h_108 h_105 (i := 4) (j := 2) rfl rfl (by decide))).trans h_108
              have h_128 : M_118 (u1 i_57) = some (.inl (cI, 7, .inl (st_kc (σ i_57)))) := (fr_120 _ (ne_k h_109 h_105 (i := 1007) (j := 2) rfl rfl (by decide))).trans h_109
              have h_129 : M_118 (u2 i_57) = some (.inl (cL, 7, .inr (.inl (st_kv (σ i_57))))) := (fr_120 _ (ne_k h_110 h_105 (i := 100007) (j := 2) rfl rfl (by decide))).trans h_110
              have h_130 : M_118 (u3 i_57) = some (.inl (cI, 7, .inl (st_lc (σ i_57)))) := (fr_120 _ (ne_k h_111 h_105 (i := 1007) (j := 2) rfl rfl (by decide))).trans h_111
              have h_131 : M_118 (u4 i_57) = some (.inl (cL, 7, .inr (.inl (st_fv (σ i_57))))) := (fr_120 _ (ne_k h_112 h_105 (i := 100007) (j := 2) rfl rfl (by decide))).trans h_112
              have h_132 : M_118 (u5 i_57) = some (.inl (cL, 7, .inr (.inl (st_lz (σ i_57))))) := (fr_120 _ (ne_k h_113 h_105 (i := 100007) (j := 2) rfl rfl (by decide))).trans h_113
              have h_133 : M_118 tu = some (.inl (cI, 100, .inl (sp_Pile_countTurn_tu h2 ud2))) := (fr_120 _ (ne_k h_114 h_105 (i := 1100) (j := 2) rfl rfl (by decide))).trans h_114
              have h_134 : M_118 va = some (.inl (cL, 16, .inr (.inl (sp_goesOnceMore_va (st_k (σ i_57)) (st_a (σ i_57)) (st_l (σ i_57)) (st_kc (σ i_57)) (st_kv (σ i_57)) (st_lc (σ i_57)) (st_fv (σ i_57)) (st_lz (σ i_57)) g)))) := (fr_120 _ (ne_k h_99 h_105 (i := 100016) (j := 2) rfl rfl (by decide))).trans h_99
              have hp_135 := hp_115.keep (M' := M_118) (fun q e he ht => fr_120 q (ne_p he ht h_105 (j := 2) rfl (by decide)))
              refine V.wr (pc' := 98) (lv' := [(2, .int (sp_Pile_takeOff h2 pd)), (5, .ref (sa i_57)), (4, .int (sp_goingOf np gd hr_)), (0, .ref co), (1, .int x), (3, .int k)]) (fun hl => lv_istore_n X.1 X.2.1 d_Course_behindDoing_97 rfl hl (by decide) rfl) ?_
              refine V.wr (pc' := 101) (lv' := [(3, .int (k + 1)), (2, .int (sp_Pile_takeOff h2 pd)), (5, .ref (sa i_57)), (4, .int (sp_goingOf np gd hr_)), (0, .ref co), (1, .int x)]) (fun hl => lv_iinc (k := 5) (v := k + 1) X.1 X.2.1 d_Course_behindDoing_98 hl rfl rfl (by decide) rfl) ?_
              have s_136 : (k + 1).toInt = k.toInt + (1) := i32_add1 (by omega)
              refine V.go (pc' := 4) (lv_goto X.1 X.2.1 d_Course_behindDoing_101 (by decide)) ?_
              refine V.pick [4, 5, 1, 0] rfl ?_
              exact ih_12 n_11 (by omega) () _ _ ⟨(sp_Pile_takeOff h2 pd), (k + 1), (sp_goesOnceMore_va (st_k (σ i_57)) (st_a (σ i_57)) (st_l (σ i_57)) (st_kc (σ i_57)) (st_kv (σ i_57)) (st_lc (σ i_57)) (st_fv (σ i_57)) (st_lz (σ i_57)) g), (sp_Pile_takeOff_pi_3 h2), (sp_Pile_countTurn_tu h2 ud2), rfl, h_121, h_122, h_134, h_123, h_124, h_119, h_125, h_126, h_133, hp_135, (fun q n0_ n1_ n2_ => (fr_120 q n1_).trans ((fr_100 q n0_).trans ((fr_82 q n2_).trans ((fr_15 q n0_ n1_ n2_))))), (by omega), (by omega), (by rw [← e_17, lp_behindDoing]; simp only [if_neg c_22, if_neg c_37, if_pos c_53, c_56, oc_some, if_pos c_78, if_pos c_116]), (by rw [← e_18, lp_behindDoing_co_5]; simp only [if_neg c_22, if_neg c_37, if_pos c_53, c_56, oc_some, if_pos c_78, if_pos c_116]), (by rw [← e_19, lp_behindDoing_tu]; simp only [if_neg c_22, if_neg c_37, if_pos c_53, c_56, oc_some, if_pos c_78, if_pos c_116]), (by rw [← e_20, lp_behindDoing_va]; simp only [if_neg c_22, if_neg c_37, if_pos c_53, c_56, oc_some, if_pos c_78, if_pos c_116]), (by rw [← e_21, lp_behindDoing_pi_3]; simp only [if_neg c_22, if_neg c_37, if_pos c_53, c_56, oc_some, if_pos c_78, if_pos c_116])⟩
            · have i_137 := mt Int32.toInt_inj.mp c_116
              refine V.rd (pc' := 86) (fun hl => lv_aload X.1 X.2.1 d_Course_behindDoing_84 (lv_at hl 0 rfl)) ?_
              refine V.getN (pc' := 89) X hK h_108 uw_Statement rfl 0 (by decide) (List.mem_of_getElem? (i := 11) rfl) rfl d_Course_behindDoing_86 rfl ?_
              rw [lp_behindDoing] at e_17
              simp only [if_neg c_22, if_neg c_37, if_pos c_53, c_56, oc_some, if_pos c_78, if_neg c_116] at e_17
              rw [lp_behindDoing_co_5] at e_18
              simp only [if_neg c_22, if_neg c_37, if_pos c_53, c_56, oc_some, if_pos c_78, if_neg c_116] at e_18
              rw [lp_behindDoing_tu] at e_19
              simp only [if_neg c_22, if_neg c_37, if_pos c_53, c_56, oc_some, if_pos c_78, if_neg c_116] at e_19
              rw [lp_behindDoing_va] at e_20
              simp only [if_neg c_22, if_neg c_37, if_pos c_53, c_56, oc_some, if_pos c_78, if_neg c_116] at e_20
              rw [lp_behindDoing_pi_3] at e_21
              simp only [if_neg c_22, if_neg c_37, if_pos c_53, c_56, oc_some, if_pos c_78, if_neg c_116] at e_21
              exact V.iret X hr hlk ⟨(by exact congrArg (fun z => some (Value.int z)) (e_17.trans hze_17)), (by rw [← hze_18, ← e_18]; exact h_101), (by rw [← hze_19, ← e_19]; exact h_114), (by rw [← hze_20, ← e_20]; exact h_99), (by rw [← hze_21, ← e_21]; exact h_105), (fun q n0_ n1_ n2_ n3_ => (fr_100 q n2_).trans ((fr_82 q n1_).trans ((fr_15 q n2_ n3_ n1_))))⟩ d_Course_behindDoing_89
          · have i_138 := mt Int32.toInt_inj.mp c_78
            refine V.rd (pc' := 60) (fun hl => lv_aload_n X.1 X.2.1 d_Course_behindDoing_59 rfl (lv_at hl 2 rfl)) ?_
            refine V.rd (pc' := 61) (fun hl => lv_iload_n X.1 X.2.1 d_Course_behindDoing_60 rfl (lv_at hl 4 rfl)) ?_
            refine V.callV (pc' := 64) X hK (c_falling  (co := co) (pg := pg) (ce := ce) (pi := pi) (ra := ra) (dg := dg) (gg := gg) (tg0 := tg0) (ln := ln) (en := en) (np := np) (ns := ns) (x := hr_)   h_1 h_4  ) h_1 rfl (cwG (n := 1) X (mcs wd_129) (mcs wd_130) (mcs wd_131) (mcs wd_92) wd_132 (by decide +kernel) (by decide) (by decide)) rfl rfl (Nat.le_of_ble_eq_true rfl) d_Course_behindDoing_61 ⟨by decide, by decide⟩ rfl (st1 := [.int (sp_falling np hr_)]) rfl (fun M_139 ⟨h_140, fr_141⟩ => ?_)
            have h_142 : M_139 ce = some (.inr (0, [.ref va])) := (fr_141 _ (ne_k h_2 h_1 (i := 0) (j := 1) rfl rfl (by decide))).trans h_2
            have h_143 : M_139 va = some (.inl (cL, 16, .inr (.inl g))) := (fr_141 _ (ne_k h_3 h_1 (i := 100016) (j := 1) rfl rfl (by decide))).trans h_3
            have h_144 : M_139 pg = some (.inr (3, [.ref dg, .ref gg, .ref tg0, .int np, .int ns])) := (fr_141 _ (ne_k h_4 h_1 (i := 3) (j := 1) rfl rfl (by decide))).trans h_4
            have h_145 : M_139 gg = some (.inl (cI, 60, .inl gd)) := (fr_141 _ (ne_k h_5 h_1 (i := 1060) (j := 1) rfl rfl (by decide))).trans h_5
            have h_146 : M_139 pi = some (.inr (2, [.ref la, .ref pe, .ref tu, .int h2, .int hi])) := (fr_141 _ (ne_k h_6 h_1 (i := 2) (j := 1) rfl rfl (by decide))).trans h_6
            have h_147 : M_139 la = some (.inl (cQ, 100, .inr (.inr (.inr (.inr (lq lo sa)))))) := (fr_141 _ (ne_k h_7 h_1 (i := 10000100) (j := 1) rfl rfl (by decide))).trans h_7
            have h_148 : M_139 pe = some (.inl (cI, 100, .inl pd)) := (fr_141 _ (ne_k h_8 h_1 (i := 1100) (j := 1) rfl rfl (by decide))).trans h_8
            have h_149 : M_139 tu = some (.inl (cI, 100, .inl ud2)) := (fr_141 _ (ne_k h_9 h_1 (i := 1100) (j := 1) rfl rfl (by decide))).trans h_9
            have h_150 : M_139 (sa i_57) = some (.inr (4, [.int (st_f (σ i_57)), .int (st_t (σ i_57)), .int (st_k (σ i_57)), .int (st_n (σ i_57)), .int (st_a (σ i_57)), .int (st_c (σ i_57)), .int (st_l (σ i_57)), .ref (u1 i_57), .ref (u2 i_57), .ref (u3 i_57), .ref (u4 i_57), .ref (u5 i_57)])) := (fr_141 _ (ne_k h_70 h_1 (i := 4) (j := 1) rfl rfl (by decide))).trans h_70
            have h_151 : M_139 (u1 i_57) = some (.inl (cI, 7, .inl (st_kc (σ i_57)))) := (fr_141 _ (ne_k h_71 h_1 (i := 1007) (j := 1) rfl rfl (by decide))).trans h_71
            have h_152 : M_139 (u2 i_57) = some (.inl (cL, 7, .inr (.inl (st_kv (σ i_57))))) := (fr_141 _ (ne_k h_72 h_1 (i := 100007) (j := 1) rfl rfl (by decide))).trans h_72
            have h_153 : M_139 (u3 i_57) = some (.inl (cI, 7, .inl (st_lc (σ i_57)))) := (fr_141 _ (ne_k h_73 h_1 (i := 1007) (j := 1) rfl rfl (by decide))).trans h_73
            have h_154 : M_139 (u4 i_57) = some (.inl (cL, 7, .inr (.inl (st_fv (σ i_57))))) := (fr_141 _ (ne_k h_74 h_1 (i := 100007) (j := 1) rfl rfl (by decide))).trans h_74
            have h_155 : M_139 (u5 i_57) = some (.inl (cL, 7, .inr (.inl (st_lz (σ i_57))))) := (fr_141 _ (ne_k h_75 h_1 (i := 100007) (j := 1) rfl rfl (by decide))).trans h_75
            have hp_156 := hp_16.keep (M' := M_139) (fun q e he ht => fr_141 q (ne_p he ht h_1 (j := 1) rfl (by decide)))
            rw [lp_behindDoing] at e_17
            simp only [if_neg c_22, if_neg c_37, if_pos c_53, c_56, oc_some, if_neg c_78] at e_17
            rw [lp_behindDoing_co_5] at e_18
            simp only [if_neg c_22, if_neg c_37, if_pos c_53, c_56, oc_some, if_neg c_78] at e_18
            rw [lp_behindDoing_tu] at e_19
            simp only [if_neg c_22, if_neg c_37, if_pos c_53, c_56, oc_some, if_neg c_78] at e_19
            rw [lp_behindDoing_va] at e_20
            simp only [if_neg c_22, if_neg c_37, if_pos c_53, c_56, oc_some, if_neg c_78] at e_20
            rw [lp_behindDoing_pi_3] at e_21
            simp only [if_neg c_22, if_neg c_37, if_pos c_53, c_56, oc_some, if_neg c_78] at e_21
            exact V.iret X hr hlk ⟨(by exact congrArg (fun z => some (Value.int z)) (e_17.trans hze_17)), (by rw [← hze_18, ← e_18]; exact h_140), (by rw [← hze_19, ← e_19]; exact h_149), (by rw [← hze_20, ← e_20]; exact h_143), (by rw [← hze_21, ← e_21]; exact h_146), (fun q n0_ n1_ n2_ n3_ => (fr_141 q n0_).trans ((fr_15 q n2_ n3_ n1_)))⟩ d_Course_behindDoing_64
      · have i_157 := mt Int32.toInt_inj.mp c_53
        refine V.rd (pc' := 30) (fun hl => lv_aload_n X.1 X.2.1 d_Course_behindDoing_29 rfl (lv_at hl 1 rfl)) ?_
        refine V.rd (pc' := 32) (fun hl => lv_iload X.1 X.2.1 d_Course_behindDoing_30 (lv_at hl 0 rfl)) ?_
        refine V.callV (pc' := 35) X hK (c_going  (co := co) (pg := pg) (ce := ce) (pi := pi) (ra := ra) (dg := dg) (gg := gg) (tg0 := tg0) (ln := ln) (en := en) (np := np) (ns := ns) (x := sp_goingOf np gd hr_)   h_1 h_4  ) h_1 rfl (cwG (n := 1) X (mcs wd_97) (mcs wd_98) (mcs wd_99) (mcs wd_92) wd_100 (by decide +kernel) (by decide) (by decide)) rfl rfl (Nat.le_of_ble_eq_true rfl) d_Course_behindDoing_32 ⟨by decide, by decide⟩ rfl (st1 := [.int (sp_going np (sp_goingOf np gd hr_))]) rfl (fun M_158 ⟨h_159, fr_160⟩ => ?_)
        have h_161 : M_158 ce = some (.inr (0, [.ref va])) := (fr_160 _ (ne_k h_2 h_1 (i := 0) (j := 1) rfl rfl (by decide))).trans h_2
        have h_162 : M_158 va = some (.inl (cL, 16, .inr (.inl g))) := (fr_160 _ (ne_k h_3 h_1 (i := 100016) (j := 1) rfl rfl (by decide))).trans h_3
        have h_163 : M_158 pg = some (.inr (3, [.ref dg, .ref gg, .ref tg0, .int np, .int ns])) := (fr_160 _ (ne_k h_4 h_1 (i := 3) (j := 1) rfl rfl (by decide))).trans h_4
        have h_164 : M_158 gg = some (.inl (cI, 60, .inl gd)) := (fr_160 _ (ne_k h_5 h_1 (i := 1060) (j := 1) rfl rfl (by decide))).trans h_5
        have h_165 : M_158 pi = some (.inr (2, [.ref la, .ref pe, .ref tu, .int h2, .int hi])) := (fr_160 _ (ne_k h_6 h_1 (i := 2) (j := 1) rfl rfl (by decide))).trans h_6
        have h_166 : M_158 la = some (.inl (cQ, 100, .inr (.inr (.inr (.inr (lq lo sa)))))) := (fr_160 _ (ne_k h_7 h_1 (i := 10000100) (j := 1) rfl rfl (by decide))).trans h_7
        have h_167 : M_158 pe = some (.inl (cI, 100, .inl pd)) := (fr_160 _ (ne_k h_8 h_1 (i := 1100) (j := 1) rfl rfl (by decide))).trans h_8
        have h_168 : M_158 tu = some (.inl (cI, 100, .inl ud2)) := (fr_160 _ (ne_k h_9 h_1 (i := 1100) (j := 1) rfl rfl (by decide))).trans h_9
        have hp_169 := hp_16.keep (M' := M_158) (fun q e he ht => fr_160 q (ne_p he ht h_1 (j := 1) rfl (by decide)))
        rw [lp_behindDoing] at e_17
        simp only [if_neg c_22, if_neg c_37, if_neg c_53] at e_17
        rw [lp_behindDoing_co_5] at e_18
        simp only [if_neg c_22, if_neg c_37, if_neg c_53] at e_18
        rw [lp_behindDoing_tu] at e_19
        simp only [if_neg c_22, if_neg c_37, if_neg c_53] at e_19
        rw [lp_behindDoing_va] at e_20
        simp only [if_neg c_22, if_neg c_37, if_neg c_53] at e_20
        rw [lp_behindDoing_pi_3] at e_21
        simp only [if_neg c_22, if_neg c_37, if_neg c_53] at e_21
        exact V.iret X hr hlk ⟨(by exact congrArg (fun z => some (Value.int z)) (e_17.trans hze_17)), (by rw [← hze_18, ← e_18]; exact h_159), (by rw [← hze_19, ← e_19]; exact h_168), (by rw [← hze_20, ← e_20]; exact h_162), (by rw [← hze_21, ← e_21]; exact h_165), (fun q n0_ n1_ n2_ n3_ => (fr_160 q n0_).trans ((fr_15 q n2_ n3_ n1_)))⟩ d_Course_behindDoing_35
end
section
theorem wd_141 : (Jvm.Cond.fieldLink "PerformRanges$Course" (33 : Nat) "PerformRanges$Course" "ran" "[I") ∈ GW := gw_of (i := 125) (by decide +kernel) (by decide +kernel)
theorem wd_142 : (Jvm.Cond.methodLink "PerformRanges$Course" (37 : Nat) ({ cls := "PerformRanges$Pile", name := "clear", desc := "()V" } : Jvm.MethodName)) ∈ GW := gw_of (i := 280) (by decide +kernel) (by decide +kernel)
theorem wd_143 : (Jvm.Cond.instanceMethod ({ cls := "PerformRanges$Pile", name := "clear", desc := "()V" } : Jvm.MethodName)) ∈ GW := gw_of (i := 281) (by decide +kernel) (by decide +kernel)
theorem wd_144 : (Jvm.Cond.selects "PerformRanges$Pile" ({ cls := "PerformRanges$Pile", name := "clear", desc := "()V" } : Jvm.MethodName) ({ cls := "PerformRanges$Pile", name := "clear", desc := "()V" } : Jvm.MethodName)) ∈ GW := gw_of (i := 282) (by decide +kernel) (by decide +kernel)
theorem wd_145 : (Jvm.Cond.code ({ cls := "PerformRanges$Pile", name := "clear", desc := "()V" } : Jvm.MethodName) prog_4_method_2_code (1 : Nat) (Option.none : Option Jvm.ClassFile.FieldType)) ∈ GW := gw_of (i := 283) (by decide +kernel) (by decide +kernel)
theorem wd_146 : (Jvm.Cond.methodLink "PerformRanges$Course" (40 : Nat) ({ cls := "PerformRanges$Course", name := "performing", desc := "(II)I" } : Jvm.MethodName)) ∈ GW := gw_of (i := 284) (by decide +kernel) (by decide +kernel)
theorem wd_147 : (Jvm.Cond.instanceMethod ({ cls := "PerformRanges$Course", name := "performing", desc := "(II)I" } : Jvm.MethodName)) ∈ GW := gw_of (i := 286) (by decide +kernel) (by decide +kernel)
theorem wd_148 : (Jvm.Cond.selects "PerformRanges$Course" ({ cls := "PerformRanges$Course", name := "performing", desc := "(II)I" } : Jvm.MethodName) ({ cls := "PerformRanges$Course", name := "performing", desc := "(II)I" } : Jvm.MethodName)) ∈ GW := gw_of (i := 1) (by decide +kernel) (by decide +kernel)
theorem wd_149 : (Jvm.Cond.code ({ cls := "PerformRanges$Course", name := "performing", desc := "(II)I" } : Jvm.MethodName) prog_3_method_6_code (4 : Nat) (Option.some Jvm.ClassFile.FieldType.int)) ∈ GW := gw_of (i := 287) (by decide +kernel) (by decide +kernel)
theorem wd_150 : (Jvm.Cond.fieldLink "PerformRanges$Course" (63 : Nat) "PerformRanges$Course" "length" "I") ∈ GW := gw_of (i := 126) (by decide +kernel) (by decide +kernel)
theorem wd_151 : (Jvm.Cond.methodLink "PerformRanges$Course" (48 : Nat) ({ cls := "PerformRanges$Course", name := "note", desc := "(II)V" } : Jvm.MethodName)) ∈ GW := gw_of (i := 343) (by decide +kernel) (by decide +kernel)
theorem wd_152 : (Jvm.Cond.instanceMethod ({ cls := "PerformRanges$Course", name := "note", desc := "(II)V" } : Jvm.MethodName)) ∈ GW := gw_of (i := 345) (by decide +kernel) (by decide +kernel)
theorem wd_153 : (Jvm.Cond.selects "PerformRanges$Course" ({ cls := "PerformRanges$Course", name := "note", desc := "(II)V" } : Jvm.MethodName) ({ cls := "PerformRanges$Course", name := "note", desc := "(II)V" } : Jvm.MethodName)) ∈ GW := gw_of (i := 8) (by decide +kernel) (by decide +kernel)
theorem wd_154 : (Jvm.Cond.code ({ cls := "PerformRanges$Course", name := "note", desc := "(II)V" } : Jvm.MethodName) prog_3_method_4_code (3 : Nat) (Option.none : Option Jvm.ClassFile.FieldType)) ∈ GW := gw_of (i := 346) (by decide +kernel) (by decide +kernel)
theorem wd_155 : (Jvm.Cond.methodLink "PerformRanges$Course" (52 : Nat) ({ cls := "PerformRanges$Program", name := "performedBy", desc := "(I)I" } : Jvm.MethodName)) ∈ GW := gw_of (i := 347) (by decide +kernel) (by decide +kernel)
theorem wd_156 : (Jvm.Cond.instanceMethod ({ cls := "PerformRanges$Program", name := "performedBy", desc := "(I)I" } : Jvm.MethodName)) ∈ GW := gw_of (i := 348) (by decide +kernel) (by decide +kernel)
theorem wd_157 : (Jvm.Cond.selects "PerformRanges$Program" ({ cls := "PerformRanges$Program", name := "performedBy", desc := "(I)I" } : Jvm.MethodName) ({ cls := "PerformRanges$Program", name := "performedBy", desc := "(I)I" } : Jvm.MethodName)) ∈ GW := gw_of (i := 349) (by decide +kernel) (by decide +kernel)
theorem wd_158 : (Jvm.Cond.code ({ cls := "PerformRanges$Program", name := "performedBy", desc := "(I)I" } : Jvm.MethodName) prog_5_method_5_code (3 : Nat) (Option.some Jvm.ClassFile.FieldType.int)) ∈ GW := gw_of (i := 350) (by decide +kernel) (by decide +kernel)
theorem wd_159 : (Jvm.Cond.methodLink "PerformRanges$Course" (57 : Nat) ({ cls := "PerformRanges$Course", name := "doing", desc := "(I)I" } : Jvm.MethodName)) ∈ GW := gw_of (i := 355) (by decide +kernel) (by decide +kernel)
theorem wd_160 : (Jvm.Cond.instanceMethod ({ cls := "PerformRanges$Course", name := "doing", desc := "(I)I" } : Jvm.MethodName)) ∈ GW := gw_of (i := 357) (by decide +kernel) (by decide +kernel)
theorem wd_161 : (Jvm.Cond.selects "PerformRanges$Course" ({ cls := "PerformRanges$Course", name := "doing", desc := "(I)I" } : Jvm.MethodName) ({ cls := "PerformRanges$Course", name := "doing", desc := "(I)I" } : Jvm.MethodName)) ∈ GW := gw_of (i := 9) (by decide +kernel) (by decide +kernel)
theorem wd_162 : (Jvm.Cond.code ({ cls := "PerformRanges$Course", name := "doing", desc := "(I)I" } : Jvm.MethodName) prog_3_method_7_code (4 : Nat) (Option.some Jvm.ClassFile.FieldType.int)) ∈ GW := gw_of (i := 358) (by decide +kernel) (by decide +kernel)
theorem wd_163 : (Jvm.Cond.methodLink "PerformRanges$Course" (60 : Nat) ({ cls := "PerformRanges$Course", name := "behindDoing", desc := "(I)I" } : Jvm.MethodName)) ∈ GW := gw_of (i := 368) (by decide +kernel) (by decide +kernel)
theorem wd_164 : (Jvm.Cond.instanceMethod ({ cls := "PerformRanges$Course", name := "behindDoing", desc := "(I)I" } : Jvm.MethodName)) ∈ GW := gw_of (i := 370) (by decide +kernel) (by decide +kernel)
theorem wd_165 : (Jvm.Cond.selects "PerformRanges$Course" ({ cls := "PerformRanges$Course", name := "behindDoing", desc := "(I)I" } : Jvm.MethodName) ({ cls := "PerformRanges$Course", name := "behindDoing", desc := "(I)I" } : Jvm.MethodName)) ∈ GW := gw_of (i := 11) (by decide +kernel) (by decide +kernel)
theorem wd_166 : (Jvm.Cond.code ({ cls := "PerformRanges$Course", name := "behindDoing", desc := "(I)I" } : Jvm.MethodName) prog_3_method_9_code (6 : Nat) (Option.some Jvm.ClassFile.FieldType.int)) ∈ GW := gw_of (i := 371) (by decide +kernel) (by decide +kernel)
theorem lcmp_lt {k : Int32} {st : Int64} (h : ¬ 0 ≤ lg_cmp k.toInt64 st) : k.toInt < st.toInt := by
  have h1 := mt (lg_cmp_ge _ _).mpr h
  have h2 := mt Int64.le_iff_toInt_le.mpr h1
  rw [Int32.toInt_toInt64] at h2
  omega
theorem d_Course_note_0 : decode prog_3_method_4_code 0 = .ok (.iload_n 1, 1) := by decide +kernel
theorem d_Course_note_1 : decode prog_3_method_4_code 1 = .ok (.ifCond .lt 19, 3) := by decide +kernel
theorem d_Course_note_4 : decode prog_3_method_4_code 4 = .ok (.iload_n 1, 1) := by decide +kernel
theorem d_Course_note_5 : decode prog_3_method_4_code 5 = .ok (.aload_n 0, 1) := by decide +kernel
theorem d_Course_note_6 : decode prog_3_method_4_code 6 = .ok (.getfield 33, 3) := by decide +kernel
theorem d_Course_note_9 : decode prog_3_method_4_code 9 = .ok (.arraylength, 1) := by decide +kernel
theorem d_Course_note_10 : decode prog_3_method_4_code 10 = .ok (.if_icmp .ge 10, 3) := by decide +kernel
theorem d_Course_note_13 : decode prog_3_method_4_code 13 = .ok (.aload_n 0, 1) := by decide +kernel
theorem d_Course_note_14 : decode prog_3_method_4_code 14 = .ok (.getfield 33, 3) := by decide +kernel
theorem d_Course_note_17 : decode prog_3_method_4_code 17 = .ok (.iload_n 1, 1) := by decide +kernel
theorem d_Course_note_18 : decode prog_3_method_4_code 18 = .ok (.iload_n 2, 1) := by decide +kernel
theorem d_Course_note_19 : decode prog_3_method_4_code 19 = .ok (.iastore, 1) := by decide +kernel
theorem d_Course_note_20 : decode prog_3_method_4_code 20 = .ok (.return_, 1) := by decide +kernel

def sp_note_ra (rd : Nat → Int32) (x : Int32) (y : Int32) : Nat → Int32 := if x < 0 then rd else if 4096 ≤ x then rd else upd rd x.toNatClampNeg y
set_option maxHeartbeats 4000000 in
set_option maxRecDepth 100000 in
theorem c_note {l : Launch} {H0 : Heap} {D : va_G} {cI cL cQ cB : ClassId} {M : mp} {co pg ce pi ra : Nat} {ln : Int32} {en : Int32} {rd : Nat → Int32} {x : Int32} {y : Int32} (gh0 : M co = some (.inr (1, [.ref pg, .ref ce, .ref pi, .ref ra, .int ln, .int en]))) (gh1 : M ra = some (.inl (cI, 4096, .inl rd))) : MC l H0 D cls7 (tysOf cI cL cQ cB) NW ({ cls := "PerformRanges$Course", name := "note", desc := "(II)V" } : Jvm.MethodName) (Cond.code ({ cls := "PerformRanges$Course", name := "note", desc := "(II)V" } : Jvm.MethodName) prog_3_method_4_code 3 (Option.none : Option Jvm.ClassFile.FieldType) :: GW) ({ frames := 0, cells := 0, slots := 0, locals := 0 }) [.ref co, .int x, .int y] M (fun v M' => v = none ∧ M' ra = some (.inl (cI, 4096, .inl (sp_note_ra rd x y))) ∧ ∀ q, q ≠ ra → M' q = M q) := by
  refine MC.of (cc := prog_3_method_4_code) (nL := 3) (ret := (Option.none : Option Jvm.ClassFile.FieldType)) (lv := [(0, .ref co), (1, .int x), (2, .int y)]) (by decide) rfl (Nat.le_of_ble_eq_true rfl) rfl ?_
  intro p e s m below meth c X hr hlk hnm hK
  have k0 : (0 : Int32).toInt = 0 := rfl
  refine V.rd (pc' := 1) (fun hl => lv_iload_n X.1 X.2.1 d_Course_note_0 rfl (lv_at hl 1 rfl)) ?_
  refine V.br (pc' := 4) (tgt := 20) (P := x < 0) (lv_if_lt X.1 X.2.1 d_Course_note_1 (by decide)) (fun c_1 => ?_) (fun c_1 => ?_)
  · have i_2 := Int32.lt_iff_toInt_lt.mp c_1
    exact V.vret X hr hlk ⟨rfl, (by simp only [sp_note_ra, if_pos c_1]; exact gh1), (fun q n0_ => rfl)⟩ d_Course_note_20
  · have i_3 := mt Int32.lt_iff_toInt_lt.mpr c_1
    refine V.rd (pc' := 5) (fun hl => lv_iload_n X.1 X.2.1 d_Course_note_4 rfl (lv_at hl 1 rfl)) ?_
    refine V.rd (pc' := 6) (fun hl => lv_aload_n X.1 X.2.1 d_Course_note_5 rfl (lv_at hl 0 rfl)) ?_
    refine V.get (pc' := 9) X hK gh0 uw_Course rfl 3 (by decide) (mcs wd_141) rfl d_Course_note_6 rfl ?_
    have k_4 : (4096 : Int32).toInt = 4096 := rfl
    refine V.alen (pc' := 10) X hK 0 gh1 rfl (v := 4096) rfl d_Course_note_9 rfl ?_
    refine V.br (pc' := 13) (tgt := 20) (P := 4096 ≤ x) (lv_icmp_ge X.1 X.2.1 d_Course_note_10 (by decide)) (fun c_5 => ?_) (fun c_5 => ?_)
    · have i_6 := Int32.le_iff_toInt_le.mp c_5
      exact V.vret X hr hlk ⟨rfl, (by simp only [sp_note_ra, if_neg c_1, if_pos c_5]; exact gh1), (fun q n0_ => rfl)⟩ d_Course_note_20
    · have i_7 := mt Int32.le_iff_toInt_le.mpr c_5
      refine V.rd (pc' := 14) (fun hl => lv_aload_n X.1 X.2.1 d_Course_note_13 rfl (lv_at hl 0 rfl)) ?_
      refine V.get (pc' := 17) X hK gh0 uw_Course rfl 3 (by decide) (mcs wd_141) rfl d_Course_note_14 rfl ?_
      refine V.rd (pc' := 18) (fun hl => lv_iload_n X.1 X.2.1 d_Course_note_17 rfl (lv_at hl 1 rfl)) ?_
      refine V.rd (pc' := 19) (fun hl => lv_iload_n X.1 X.2.1 d_Course_note_18 rfl (lv_at hl 2 rfl)) ?_
      refine V.iast (pc' := 20) X hK 0 gh1 rfl (vin (by omega) (by omega)) d_Course_note_19 rfl (fun M_8 h_9 fr_10 => ?_)
      have h_11 : M_8 co = some (.inr (1, [.ref pg, .ref ce, .ref pi, .ref ra, .int ln, .int en])) := (fr_10 _ (ne_k gh0 gh1 (i := 1) (j := 5096) rfl rfl (by decide))).trans gh0
      exact V.vret X hr hlk ⟨rfl, (by simp only [sp_note_ra, if_neg c_1, if_neg c_5]; exact h_9), (fun q n0_ => (fr_10 q n0_))⟩ d_Course_note_20

theorem d_Course_travel_0 : decode prog_3_method_2_code 0 = .ok (.aload_n 0, 1) := by decide +kernel
theorem d_Course_travel_1 : decode prog_3_method_2_code 1 = .ok (.getfield 21, 3) := by decide +kernel
theorem d_Course_travel_4 : decode prog_3_method_2_code 4 = .ok (.invokevirtual 37, 3) := by decide +kernel
theorem d_Course_travel_7 : decode prog_3_method_2_code 7 = .ok (.aload_n 0, 1) := by decide +kernel
theorem d_Course_travel_8 : decode prog_3_method_2_code 8 = .ok (.iload_n 1, 1) := by decide +kernel
theorem d_Course_travel_9 : decode prog_3_method_2_code 9 = .ok (.iconst 0, 1) := by decide +kernel
theorem d_Course_travel_10 : decode prog_3_method_2_code 10 = .ok (.invokevirtual 40, 3) := by decide +kernel
theorem d_Course_travel_13 : decode prog_3_method_2_code 13 = .ok (.istore 4, 2) := by decide +kernel
theorem d_Course_travel_15 : decode prog_3_method_2_code 15 = .ok (.iload 4, 2) := by decide +kernel
theorem d_Course_travel_17 : decode prog_3_method_2_code 17 = .ok (.iconst (-1), 1) := by decide +kernel
theorem d_Course_travel_18 : decode prog_3_method_2_code 18 = .ok (.if_icmp .ne 10, 3) := by decide +kernel
theorem d_Course_travel_21 : decode prog_3_method_2_code 21 = .ok (.aload_n 0, 1) := by decide +kernel
theorem d_Course_travel_22 : decode prog_3_method_2_code 22 = .ok (.iconst 0, 1) := by decide +kernel
theorem d_Course_travel_23 : decode prog_3_method_2_code 23 = .ok (.invokevirtual 44, 3) := by decide +kernel
theorem d_Course_travel_26 : decode prog_3_method_2_code 26 = .ok (.istore 4, 2) := by decide +kernel
theorem d_Course_travel_28 : decode prog_3_method_2_code 28 = .ok (.iconst 0, 1) := by decide +kernel
theorem d_Course_travel_29 : decode prog_3_method_2_code 29 = .ok (.istore 5, 2) := by decide +kernel
theorem d_Course_travel_31 : decode prog_3_method_2_code 31 = .ok (.iload 4, 2) := by decide +kernel
theorem d_Course_travel_33 : decode prog_3_method_2_code 33 = .ok (.ifCond .eq 79, 3) := by decide +kernel
theorem d_Course_travel_36 : decode prog_3_method_2_code 36 = .ok (.iload 5, 2) := by decide +kernel
theorem d_Course_travel_38 : decode prog_3_method_2_code 38 = .ok (.i2l, 1) := by decide +kernel
theorem d_Course_travel_39 : decode prog_3_method_2_code 39 = .ok (.lload_n 2, 1) := by decide +kernel
theorem d_Course_travel_40 : decode prog_3_method_2_code 40 = .ok (.lcmp, 1) := by decide +kernel
theorem d_Course_travel_41 : decode prog_3_method_2_code 41 = .ok (.ifCond .ge 71, 3) := by decide +kernel
theorem d_Course_travel_44 : decode prog_3_method_2_code 44 = .ok (.iload 4, 2) := by decide +kernel
theorem d_Course_travel_46 : decode prog_3_method_2_code 46 = .ok (.istore 6, 2) := by decide +kernel
theorem d_Course_travel_48 : decode prog_3_method_2_code 48 = .ok (.aload_n 0, 1) := by decide +kernel
theorem d_Course_travel_49 : decode prog_3_method_2_code 49 = .ok (.iload 5, 2) := by decide +kernel
theorem d_Course_travel_51 : decode prog_3_method_2_code 51 = .ok (.iload 6, 2) := by decide +kernel
theorem d_Course_travel_53 : decode prog_3_method_2_code 53 = .ok (.invokevirtual 48, 3) := by decide +kernel
theorem d_Course_travel_56 : decode prog_3_method_2_code 56 = .ok (.aload_n 0, 1) := by decide +kernel
theorem d_Course_travel_57 : decode prog_3_method_2_code 57 = .ok (.getfield 29, 3) := by decide +kernel
theorem d_Course_travel_60 : decode prog_3_method_2_code 60 = .ok (.iload 6, 2) := by decide +kernel
theorem d_Course_travel_62 : decode prog_3_method_2_code 62 = .ok (.invokevirtual 52, 3) := by decide +kernel
theorem d_Course_travel_65 : decode prog_3_method_2_code 65 = .ok (.istore 7, 2) := by decide +kernel
theorem d_Course_travel_67 : decode prog_3_method_2_code 67 = .ok (.iload 7, 2) := by decide +kernel
theorem d_Course_travel_69 : decode prog_3_method_2_code 69 = .ok (.iconst (-1), 1) := by decide +kernel
theorem d_Course_travel_70 : decode prog_3_method_2_code 70 = .ok (.if_icmp .ne 12, 3) := by decide +kernel
theorem d_Course_travel_73 : decode prog_3_method_2_code 73 = .ok (.aload_n 0, 1) := by decide +kernel
theorem d_Course_travel_74 : decode prog_3_method_2_code 74 = .ok (.iload 6, 2) := by decide +kernel
theorem d_Course_travel_76 : decode prog_3_method_2_code 76 = .ok (.invokevirtual 57, 3) := by decide +kernel
theorem d_Course_travel_79 : decode prog_3_method_2_code 79 = .ok (.goto 11, 3) := by decide +kernel
theorem d_Course_travel_82 : decode prog_3_method_2_code 82 = .ok (.aload_n 0, 1) := by decide +kernel
theorem d_Course_travel_83 : decode prog_3_method_2_code 83 = .ok (.iload 7, 2) := by decide +kernel
theorem d_Course_travel_85 : decode prog_3_method_2_code 85 = .ok (.iload 6, 2) := by decide +kernel
theorem d_Course_travel_87 : decode prog_3_method_2_code 87 = .ok (.invokevirtual 40, 3) := by decide +kernel
theorem d_Course_travel_90 : decode prog_3_method_2_code 90 = .ok (.istore 4, 2) := by decide +kernel
theorem d_Course_travel_92 : decode prog_3_method_2_code 92 = .ok (.iload 4, 2) := by decide +kernel
theorem d_Course_travel_94 : decode prog_3_method_2_code 94 = .ok (.iconst (-1), 1) := by decide +kernel
theorem d_Course_travel_95 : decode prog_3_method_2_code 95 = .ok (.if_icmp .ne 11, 3) := by decide +kernel
theorem d_Course_travel_98 : decode prog_3_method_2_code 98 = .ok (.aload_n 0, 1) := by decide +kernel
theorem d_Course_travel_99 : decode prog_3_method_2_code 99 = .ok (.iload 6, 2) := by decide +kernel
theorem d_Course_travel_101 : decode prog_3_method_2_code 101 = .ok (.invokevirtual 60, 3) := by decide +kernel
theorem d_Course_travel_104 : decode prog_3_method_2_code 104 = .ok (.istore 4, 2) := by decide +kernel
theorem d_Course_travel_106 : decode prog_3_method_2_code 106 = .ok (.iinc 5 1, 3) := by decide +kernel
theorem d_Course_travel_109 : decode prog_3_method_2_code 109 = .ok (.goto (-78), 3) := by decide +kernel
theorem d_Course_travel_112 : decode prog_3_method_2_code 112 = .ok (.iload 4, 2) := by decide +kernel
theorem d_Course_travel_114 : decode prog_3_method_2_code 114 = .ok (.ifCond .eq 9, 3) := by decide +kernel
theorem d_Course_travel_117 : decode prog_3_method_2_code 117 = .ok (.aload_n 0, 1) := by decide +kernel
theorem d_Course_travel_118 : decode prog_3_method_2_code 118 = .ok (.iconst 1, 1) := by decide +kernel
theorem d_Course_travel_119 : decode prog_3_method_2_code 119 = .ok (.invokevirtual 44, 3) := by decide +kernel
theorem d_Course_travel_122 : decode prog_3_method_2_code 122 = .ok (.pop, 1) := by decide +kernel
theorem d_Course_travel_123 : decode prog_3_method_2_code 123 = .ok (.aload_n 0, 1) := by decide +kernel
theorem d_Course_travel_124 : decode prog_3_method_2_code 124 = .ok (.iload 5, 2) := by decide +kernel
theorem d_Course_travel_126 : decode prog_3_method_2_code 126 = .ok (.putfield 63, 3) := by decide +kernel
theorem d_Course_travel_129 : decode prog_3_method_2_code 129 = .ok (.iload 5, 2) := by decide +kernel
theorem d_Course_travel_131 : decode prog_3_method_2_code 131 = .ok (.ireturn, 1) := by decide +kernel

def lp_travel (np : Int32) (ns : Int32) (dd : Nat → Int32) (gd : Nat → Int32) (steps : Int64) (σ : Nat → Stm) : Nat → Int32 → Int32 → (Nat → Int64) → Int32 → Int32 → Int32 → (Nat → Int32) → (Nat → Int32) → (Nat → Option Nat) → (Nat → Int32) → Int32
  | 0, _, _, _, _, _, _, _, _, _, _ => 0
  | n_ + 1, nx, k, g, h2, hi2, en2, ud2, pd2, lo2, rd2 => if nx = 0 then k else if 0 ≤ (lg_cmp k.toInt64 steps) then k else if (sp_performedBy np dd nx) = (-1) then (if (sp_doing np dd g nx) = (-1) then lp_travel np ns dd gd steps σ n_ (lp_behindDoing np gd lo2 pd2 σ 101 nx 0 (sp_doing_va np dd g nx) h2 ud2) (k + 1) (lp_behindDoing_va np gd lo2 pd2 σ 101 nx 0 (sp_doing_va np dd g nx) h2 ud2) (lp_behindDoing_pi_3 np gd lo2 pd2 σ 101 nx 0 (sp_doing_va np dd g nx) h2 ud2) hi2 (lp_behindDoing_co_5 (sp_doing_co_5 en2 np dd g nx) np gd lo2 pd2 σ 101 nx 0 (sp_doing_va np dd g nx) h2 ud2) (lp_behindDoing_tu np gd lo2 pd2 σ 101 nx 0 (sp_doing_va np dd g nx) h2 ud2) pd2 lo2 (sp_note_ra rd2 k nx) else lp_travel np ns dd gd steps σ n_ (sp_doing np dd g nx) (k + 1) (sp_doing_va np dd g nx) h2 hi2 (sp_doing_co_5 en2 np dd g nx) ud2 pd2 lo2 (sp_note_ra rd2 k nx)) else if (sp_performing ns h2 g (sp_performedBy np dd nx) σ) = (-1) then lp_travel np ns dd gd steps σ n_ (lp_behindDoing np gd (sp_performing_la ns h2 lo2 (sp_performedBy np dd nx) σ) (sp_performing_pe ns h2 pd2 (sp_performedBy np dd nx) nx σ) σ 101 nx 0 (sp_performing_va ns h2 g (sp_performedBy np dd nx) σ) (sp_performing_pi_3 ns h2 g (sp_performedBy np dd nx) σ) (sp_performing_tu ns h2 ud2 (sp_performedBy np dd nx) σ)) (k + 1) (lp_behindDoing_va np gd (sp_performing_la ns h2 lo2 (sp_performedBy np dd nx) σ) (sp_performing_pe ns h2 pd2 (sp_performedBy np dd nx) nx σ) σ 101 nx 0 (sp_performing_va ns h2 g (sp_performedBy np dd nx) σ) (sp_performing_pi_3 ns h2 g (sp_performedBy np dd nx) σ) (sp_performing_tu ns h2 ud2 (sp_performedBy np dd nx) σ)) (lp_behindDoing_pi_3 np gd (sp_performing_la ns h2 lo2 (sp_performedBy np dd nx) σ) (sp_performing_pe ns h2 pd2 (sp_performedBy np dd nx) nx σ) σ 101 nx 0 (sp_performing_va ns h2 g (sp_performedBy np dd nx) σ) (sp_performing_pi_3 ns h2 g (sp_performedBy np dd nx) σ) (sp_performing_tu ns h2 ud2 (sp_performedBy np dd nx) σ)) (sp_performing_pi_4 ns h2 hi2 g (sp_performedBy np dd nx) σ) (lp_behindDoing_co_5 (sp_performing_co_5 en2 ns h2 (sp_performedBy np dd nx) σ) np gd (sp_performing_la ns h2 lo2 (sp_performedBy np dd nx) σ) (sp_performing_pe ns h2 pd2 (sp_performedBy np dd nx) nx σ) σ 101 nx 0 (sp_performing_va ns h2 g (sp_performedBy np dd nx) σ) (sp_performing_pi_3 ns h2 g (sp_performedBy np dd nx) σ) (sp_performing_tu ns h2 ud2 (sp_performedBy np dd nx) σ)) (lp_behindDoing_tu np gd (sp_performing_la ns h2 lo2 (sp_performedBy np dd nx) σ) (sp_performing_pe ns h2 pd2 (sp_performedBy np dd nx) nx σ) σ 101 nx 0 (sp_performing_va ns h2 g (sp_performedBy np dd nx) σ) (sp_performing_pi_3 ns h2 g (sp_performedBy np dd nx) σ) (sp_performing_tu ns h2 ud2 (sp_performedBy np dd nx) σ)) (sp_performing_pe ns h2 pd2 (sp_performedBy np dd nx) nx σ) (sp_performing_la ns h2 lo2 (sp_performedBy np dd nx) σ) (sp_note_ra rd2 k nx) else lp_travel np ns dd gd steps σ n_ (sp_performing ns h2 g (sp_performedBy np dd nx) σ) (k + 1) (sp_performing_va ns h2 g (sp_performedBy np dd nx) σ) (sp_performing_pi_3 ns h2 g (sp_performedBy np dd nx) σ) (sp_performing_pi_4 ns h2 hi2 g (sp_performedBy np dd nx) σ) (sp_performing_co_5 en2 ns h2 (sp_performedBy np dd nx) σ) (sp_performing_tu ns h2 ud2 (sp_performedBy np dd nx) σ) (sp_performing_pe ns h2 pd2 (sp_performedBy np dd nx) nx σ) (sp_performing_la ns h2 lo2 (sp_performedBy np dd nx) σ) (sp_note_ra rd2 k nx)
def sp_travel (en : Int32) (np : Int32) (ns : Int32) (hi : Int32) (dd : Nat → Int32) (gd : Nat → Int32) (f : Nat → Int64) (lo : Nat → Option Nat) (pd : Nat → Int32) (ud : Nat → Int32) (rd : Nat → Int32) (x : Int32) (steps : Int64) (σ : Nat → Stm) : Int32 := if (sp_performing ns 0 f x σ) = (-1) then lp_travel np ns dd gd steps σ 4097 0 0 (sp_performing_va ns 0 f x σ) (sp_performing_pi_3 ns 0 f x σ) (sp_performing_pi_4 ns 0 hi f x σ) 0 (sp_performing_tu ns 0 ud x σ) (sp_performing_pe ns 0 pd x 0 σ) (sp_performing_la ns 0 lo x σ) rd else lp_travel np ns dd gd steps σ 4097 (sp_performing ns 0 f x σ) 0 (sp_performing_va ns 0 f x σ) (sp_performing_pi_3 ns 0 f x σ) (sp_performing_pi_4 ns 0 hi f x σ) (sp_performing_co_5 en ns 0 x σ) (sp_performing_tu ns 0 ud x σ) (sp_performing_pe ns 0 pd x 0 σ) (sp_performing_la ns 0 lo x σ) rd
def lp_travel_pi_3 (np : Int32) (ns : Int32) (dd : Nat → Int32) (gd : Nat → Int32) (steps : Int64) (σ : Nat → Stm) : Nat → Int32 → Int32 → (Nat → Int64) → Int32 → Int32 → Int32 → (Nat → Int32) → (Nat → Int32) → (Nat → Option Nat) → (Nat → Int32) → Int32
  | 0, _, _, _, h2, _, _, _, _, _, _ => h2
  | n_ + 1, nx, k, g, h2, hi2, en2, ud2, pd2, lo2, rd2 => if nx = 0 then h2 else if 0 ≤ (lg_cmp k.toInt64 steps) then h2 else if (sp_performedBy np dd nx) = (-1) then (if (sp_doing np dd g nx) = (-1) then lp_travel_pi_3 np ns dd gd steps σ n_ (lp_behindDoing np gd lo2 pd2 σ 101 nx 0 (sp_doing_va np dd g nx) h2 ud2) (k + 1) (lp_behindDoing_va np gd lo2 pd2 σ 101 nx 0 (sp_doing_va np dd g nx) h2 ud2) (lp_behindDoing_pi_3 np gd lo2 pd2 σ 101 nx 0 (sp_doing_va np dd g nx) h2 ud2) hi2 (lp_behindDoing_co_5 (sp_doing_co_5 en2 np dd g nx) np gd lo2 pd2 σ 101 nx 0 (sp_doing_va np dd g nx) h2 ud2) (lp_behindDoing_tu np gd lo2 pd2 σ 101 nx 0 (sp_doing_va np dd g nx) h2 ud2) pd2 lo2 (sp_note_ra rd2 k nx) else lp_travel_pi_3 np ns dd gd steps σ n_ (sp_doing np dd g nx) (k + 1) (sp_doing_va np dd g nx) h2 hi2 (sp_doing_co_5 en2 np dd g nx) ud2 pd2 lo2 (sp_note_ra rd2 k nx)) else if (sp_performing ns h2 g (sp_performedBy np dd nx) σ) = (-1) then lp_travel_pi_3 np ns dd gd steps σ n_ (lp_behindDoing np gd (sp_performing_la ns h2 lo2 (sp_performedBy np dd nx) σ) (sp_performing_pe ns h2 pd2 (sp_performedBy np dd nx) nx σ) σ 101 nx 0 (sp_performing_va ns h2 g (sp_performedBy np dd nx) σ) (sp_performing_pi_3 ns h2 g (sp_performedBy np dd nx) σ) (sp_performing_tu ns h2 ud2 (sp_performedBy np dd nx) σ)) (k + 1) (lp_behindDoing_va np gd (sp_performing_la ns h2 lo2 (sp_performedBy np dd nx) σ) (sp_performing_pe ns h2 pd2 (sp_performedBy np dd nx) nx σ) σ 101 nx 0 (sp_performing_va ns h2 g (sp_performedBy np dd nx) σ) (sp_performing_pi_3 ns h2 g (sp_performedBy np dd nx) σ) (sp_performing_tu ns h2 ud2 (sp_performedBy np dd nx) σ)) (lp_behindDoing_pi_3 np gd (sp_performing_la ns h2 lo2 (sp_performedBy np dd nx) σ) (sp_performing_pe ns h2 pd2 (sp_performedBy np dd nx) nx σ) σ 101 nx 0 (sp_performing_va ns h2 g (sp_performedBy np dd nx) σ) (sp_performing_pi_3 ns h2 g (sp_performedBy np dd nx) σ) (sp_performing_tu ns h2 ud2 (sp_performedBy np dd nx) σ)) (sp_performing_pi_4 ns h2 hi2 g (sp_performedBy np dd nx) σ) (lp_behindDoing_co_5 (sp_performing_co_5 en2 ns h2 (sp_performedBy np dd nx) σ) np gd (sp_performing_la ns h2 lo2 (sp_performedBy np dd nx) σ) (sp_performing_pe ns h2 pd2 (sp_performedBy np dd nx) nx σ) σ 101 nx 0 (sp_performing_va ns h2 g (sp_performedBy np dd nx) σ) (sp_performing_pi_3 ns h2 g (sp_performedBy np dd nx) σ) (sp_performing_tu ns h2 ud2 (sp_performedBy np dd nx) σ)) (lp_behindDoing_tu np gd (sp_performing_la ns h2 lo2 (sp_performedBy np dd nx) σ) (sp_performing_pe ns h2 pd2 (sp_performedBy np dd nx) nx σ) σ 101 nx 0 (sp_performing_va ns h2 g (sp_performedBy np dd nx) σ) (sp_performing_pi_3 ns h2 g (sp_performedBy np dd nx) σ) (sp_performing_tu ns h2 ud2 (sp_performedBy np dd nx) σ)) (sp_performing_pe ns h2 pd2 (sp_performedBy np dd nx) nx σ) (sp_performing_la ns h2 lo2 (sp_performedBy np dd nx) σ) (sp_note_ra rd2 k nx) else lp_travel_pi_3 np ns dd gd steps σ n_ (sp_performing ns h2 g (sp_performedBy np dd nx) σ) (k + 1) (sp_performing_va ns h2 g (sp_performedBy np dd nx) σ) (sp_performing_pi_3 ns h2 g (sp_performedBy np dd nx) σ) (sp_performing_pi_4 ns h2 hi2 g (sp_performedBy np dd nx) σ) (sp_performing_co_5 en2 ns h2 (sp_performedBy np dd nx) σ) (sp_performing_tu ns h2 ud2 (sp_performedBy np dd nx) σ) (sp_performing_pe ns h2 pd2 (sp_performedBy np dd nx) nx σ) (sp_performing_la ns h2 lo2 (sp_performedBy np dd nx) σ) (sp_note_ra rd2 k nx)
def sp_travel_pi_3 (en : Int32) (np : Int32) (ns : Int32) (hi : Int32) (dd : Nat → Int32) (gd : Nat → Int32) (f : Nat → Int64) (lo : Nat → Option Nat) (pd : Nat → Int32) (ud : Nat → Int32) (rd : Nat → Int32) (x : Int32) (steps : Int64) (σ : Nat → Stm) : Int32 := if (sp_performing ns 0 f x σ) = (-1) then lp_travel_pi_3 np ns dd gd steps σ 4097 0 0 (sp_performing_va ns 0 f x σ) (sp_performing_pi_3 ns 0 f x σ) (sp_performing_pi_4 ns 0 hi f x σ) 0 (sp_performing_tu ns 0 ud x σ) (sp_performing_pe ns 0 pd x 0 σ) (sp_performing_la ns 0 lo x σ) rd else lp_travel_pi_3 np ns dd gd steps σ 4097 (sp_performing ns 0 f x σ) 0 (sp_performing_va ns 0 f x σ) (sp_performing_pi_3 ns 0 f x σ) (sp_performing_pi_4 ns 0 hi f x σ) (sp_performing_co_5 en ns 0 x σ) (sp_performing_tu ns 0 ud x σ) (sp_performing_pe ns 0 pd x 0 σ) (sp_performing_la ns 0 lo x σ) rd
def lp_travel_pi_4 (np : Int32) (ns : Int32) (dd : Nat → Int32) (gd : Nat → Int32) (steps : Int64) (σ : Nat → Stm) : Nat → Int32 → Int32 → (Nat → Int64) → Int32 → Int32 → Int32 → (Nat → Int32) → (Nat → Int32) → (Nat → Option Nat) → (Nat → Int32) → Int32
  | 0, _, _, _, _, hi2, _, _, _, _, _ => hi2
  | n_ + 1, nx, k, g, h2, hi2, en2, ud2, pd2, lo2, rd2 => if nx = 0 then hi2 else if 0 ≤ (lg_cmp k.toInt64 steps) then hi2 else if (sp_performedBy np dd nx) = (-1) then (if (sp_doing np dd g nx) = (-1) then lp_travel_pi_4 np ns dd gd steps σ n_ (lp_behindDoing np gd lo2 pd2 σ 101 nx 0 (sp_doing_va np dd g nx) h2 ud2) (k + 1) (lp_behindDoing_va np gd lo2 pd2 σ 101 nx 0 (sp_doing_va np dd g nx) h2 ud2) (lp_behindDoing_pi_3 np gd lo2 pd2 σ 101 nx 0 (sp_doing_va np dd g nx) h2 ud2) hi2 (lp_behindDoing_co_5 (sp_doing_co_5 en2 np dd g nx) np gd lo2 pd2 σ 101 nx 0 (sp_doing_va np dd g nx) h2 ud2) (lp_behindDoing_tu np gd lo2 pd2 σ 101 nx 0 (sp_doing_va np dd g nx) h2 ud2) pd2 lo2 (sp_note_ra rd2 k nx) else lp_travel_pi_4 np ns dd gd steps σ n_ (sp_doing np dd g nx) (k + 1) (sp_doing_va np dd g nx) h2 hi2 (sp_doing_co_5 en2 np dd g nx) ud2 pd2 lo2 (sp_note_ra rd2 k nx)) else if (sp_performing ns h2 g (sp_performedBy np dd nx) σ) = (-1) then lp_travel_pi_4 np ns dd gd steps σ n_ (lp_behindDoing np gd (sp_performing_la ns h2 lo2 (sp_performedBy np dd nx) σ) (sp_performing_pe ns h2 pd2 (sp_performedBy np dd nx) nx σ) σ 101 nx 0 (sp_performing_va ns h2 g (sp_performedBy np dd nx) σ) (sp_performing_pi_3 ns h2 g (sp_performedBy np dd nx) σ) (sp_performing_tu ns h2 ud2 (sp_performedBy np dd nx) σ)) (k + 1) (lp_behindDoing_va np gd (sp_performing_la ns h2 lo2 (sp_performedBy np dd nx) σ) (sp_performing_pe ns h2 pd2 (sp_performedBy np dd nx) nx σ) σ 101 nx 0 (sp_performing_va ns h2 g (sp_performedBy np dd nx) σ) (sp_performing_pi_3 ns h2 g (sp_performedBy np dd nx) σ) (sp_performing_tu ns h2 ud2 (sp_performedBy np dd nx) σ)) (lp_behindDoing_pi_3 np gd (sp_performing_la ns h2 lo2 (sp_performedBy np dd nx) σ) (sp_performing_pe ns h2 pd2 (sp_performedBy np dd nx) nx σ) σ 101 nx 0 (sp_performing_va ns h2 g (sp_performedBy np dd nx) σ) (sp_performing_pi_3 ns h2 g (sp_performedBy np dd nx) σ) (sp_performing_tu ns h2 ud2 (sp_performedBy np dd nx) σ)) (sp_performing_pi_4 ns h2 hi2 g (sp_performedBy np dd nx) σ) (lp_behindDoing_co_5 (sp_performing_co_5 en2 ns h2 (sp_performedBy np dd nx) σ) np gd (sp_performing_la ns h2 lo2 (sp_performedBy np dd nx) σ) (sp_performing_pe ns h2 pd2 (sp_performedBy np dd nx) nx σ) σ 101 nx 0 (sp_performing_va ns h2 g (sp_performedBy np dd nx) σ) (sp_performing_pi_3 ns h2 g (sp_performedBy np dd nx) σ) (sp_performing_tu ns h2 ud2 (sp_performedBy np dd nx) σ)) (lp_behindDoing_tu np gd (sp_performing_la ns h2 lo2 (sp_performedBy np dd nx) σ) (sp_performing_pe ns h2 pd2 (sp_performedBy np dd nx) nx σ) σ 101 nx 0 (sp_performing_va ns h2 g (sp_performedBy np dd nx) σ) (sp_performing_pi_3 ns h2 g (sp_performedBy np dd nx) σ) (sp_performing_tu ns h2 ud2 (sp_performedBy np dd nx) σ)) (sp_performing_pe ns h2 pd2 (sp_performedBy np dd nx) nx σ) (sp_performing_la ns h2 lo2 (sp_performedBy np dd nx) σ) (sp_note_ra rd2 k nx) else lp_travel_pi_4 np ns dd gd steps σ n_ (sp_performing ns h2 g (sp_performedBy np dd nx) σ) (k + 1) (sp_performing_va ns h2 g (sp_performedBy np dd nx) σ) (sp_performing_pi_3 ns h2 g (sp_performedBy np dd nx) σ) (sp_performing_pi_4 ns h2 hi2 g (sp_performedBy np dd nx) σ) (sp_performing_co_5 en2 ns h2 (sp_performedBy np dd nx) σ) (sp_performing_tu ns h2 ud2 (sp_performedBy np dd nx) σ) (sp_performing_pe ns h2 pd2 (sp_performedBy np dd nx) nx σ) (sp_performing_la ns h2 lo2 (sp_performedBy np dd nx) σ) (sp_note_ra rd2 k nx)
def sp_travel_pi_4 (en : Int32) (np : Int32) (ns : Int32) (hi : Int32) (dd : Nat → Int32) (gd : Nat → Int32) (f : Nat → Int64) (lo : Nat → Option Nat) (pd : Nat → Int32) (ud : Nat → Int32) (rd : Nat → Int32) (x : Int32) (steps : Int64) (σ : Nat → Stm) : Int32 := if (sp_performing ns 0 f x σ) = (-1) then lp_travel_pi_4 np ns dd gd steps σ 4097 0 0 (sp_performing_va ns 0 f x σ) (sp_performing_pi_3 ns 0 f x σ) (sp_performing_pi_4 ns 0 hi f x σ) 0 (sp_performing_tu ns 0 ud x σ) (sp_performing_pe ns 0 pd x 0 σ) (sp_performing_la ns 0 lo x σ) rd else lp_travel_pi_4 np ns dd gd steps σ 4097 (sp_performing ns 0 f x σ) 0 (sp_performing_va ns 0 f x σ) (sp_performing_pi_3 ns 0 f x σ) (sp_performing_pi_4 ns 0 hi f x σ) (sp_performing_co_5 en ns 0 x σ) (sp_performing_tu ns 0 ud x σ) (sp_performing_pe ns 0 pd x 0 σ) (sp_performing_la ns 0 lo x σ) rd
def lp_travel_co_4 (ln : Int32) (np : Int32) (ns : Int32) (dd : Nat → Int32) (gd : Nat → Int32) (steps : Int64) (σ : Nat → Stm) : Nat → Int32 → Int32 → (Nat → Int64) → Int32 → Int32 → Int32 → (Nat → Int32) → (Nat → Int32) → (Nat → Option Nat) → (Nat → Int32) → Int32
  | 0, _, _, _, _, _, _, _, _, _, _ => ln
  | n_ + 1, nx, k, g, h2, hi2, en2, ud2, pd2, lo2, rd2 => if nx = 0 then k else if 0 ≤ (lg_cmp k.toInt64 steps) then k else if (sp_performedBy np dd nx) = (-1) then (if (sp_doing np dd g nx) = (-1) then lp_travel_co_4 ln np ns dd gd steps σ n_ (lp_behindDoing np gd lo2 pd2 σ 101 nx 0 (sp_doing_va np dd g nx) h2 ud2) (k + 1) (lp_behindDoing_va np gd lo2 pd2 σ 101 nx 0 (sp_doing_va np dd g nx) h2 ud2) (lp_behindDoing_pi_3 np gd lo2 pd2 σ 101 nx 0 (sp_doing_va np dd g nx) h2 ud2) hi2 (lp_behindDoing_co_5 (sp_doing_co_5 en2 np dd g nx) np gd lo2 pd2 σ 101 nx 0 (sp_doing_va np dd g nx) h2 ud2) (lp_behindDoing_tu np gd lo2 pd2 σ 101 nx 0 (sp_doing_va np dd g nx) h2 ud2) pd2 lo2 (sp_note_ra rd2 k nx) else lp_travel_co_4 ln np ns dd gd steps σ n_ (sp_doing np dd g nx) (k + 1) (sp_doing_va np dd g nx) h2 hi2 (sp_doing_co_5 en2 np dd g nx) ud2 pd2 lo2 (sp_note_ra rd2 k nx)) else if (sp_performing ns h2 g (sp_performedBy np dd nx) σ) = (-1) then lp_travel_co_4 ln np ns dd gd steps σ n_ (lp_behindDoing np gd (sp_performing_la ns h2 lo2 (sp_performedBy np dd nx) σ) (sp_performing_pe ns h2 pd2 (sp_performedBy np dd nx) nx σ) σ 101 nx 0 (sp_performing_va ns h2 g (sp_performedBy np dd nx) σ) (sp_performing_pi_3 ns h2 g (sp_performedBy np dd nx) σ) (sp_performing_tu ns h2 ud2 (sp_performedBy np dd nx) σ)) (k + 1) (lp_behindDoing_va np gd (sp_performing_la ns h2 lo2 (sp_performedBy np dd nx) σ) (sp_performing_pe ns h2 pd2 (sp_performedBy np dd nx) nx σ) σ 101 nx 0 (sp_performing_va ns h2 g (sp_performedBy np dd nx) σ) (sp_performing_pi_3 ns h2 g (sp_performedBy np dd nx) σ) (sp_performing_tu ns h2 ud2 (sp_performedBy np dd nx) σ)) (lp_behindDoing_pi_3 np gd (sp_performing_la ns h2 lo2 (sp_performedBy np dd nx) σ) (sp_performing_pe ns h2 pd2 (sp_performedBy np dd nx) nx σ) σ 101 nx 0 (sp_performing_va ns h2 g (sp_performedBy np dd nx) σ) (sp_performing_pi_3 ns h2 g (sp_performedBy np dd nx) σ) (sp_performing_tu ns h2 ud2 (sp_performedBy np dd nx) σ)) (sp_performing_pi_4 ns h2 hi2 g (sp_performedBy np dd nx) σ) (lp_behindDoing_co_5 (sp_performing_co_5 en2 ns h2 (sp_performedBy np dd nx) σ) np gd (sp_performing_la ns h2 lo2 (sp_performedBy np dd nx) σ) (sp_performing_pe ns h2 pd2 (sp_performedBy np dd nx) nx σ) σ 101 nx 0 (sp_performing_va ns h2 g (sp_performedBy np dd nx) σ) (sp_performing_pi_3 ns h2 g (sp_performedBy np dd nx) σ) (sp_performing_tu ns h2 ud2 (sp_performedBy np dd nx) σ)) (lp_behindDoing_tu np gd (sp_performing_la ns h2 lo2 (sp_performedBy np dd nx) σ) (sp_performing_pe ns h2 pd2 (sp_performedBy np dd nx) nx σ) σ 101 nx 0 (sp_performing_va ns h2 g (sp_performedBy np dd nx) σ) (sp_performing_pi_3 ns h2 g (sp_performedBy np dd nx) σ) (sp_performing_tu ns h2 ud2 (sp_performedBy np dd nx) σ)) (sp_performing_pe ns h2 pd2 (sp_performedBy np dd nx) nx σ) (sp_performing_la ns h2 lo2 (sp_performedBy np dd nx) σ) (sp_note_ra rd2 k nx) else lp_travel_co_4 ln np ns dd gd steps σ n_ (sp_performing ns h2 g (sp_performedBy np dd nx) σ) (k + 1) (sp_performing_va ns h2 g (sp_performedBy np dd nx) σ) (sp_performing_pi_3 ns h2 g (sp_performedBy np dd nx) σ) (sp_performing_pi_4 ns h2 hi2 g (sp_performedBy np dd nx) σ) (sp_performing_co_5 en2 ns h2 (sp_performedBy np dd nx) σ) (sp_performing_tu ns h2 ud2 (sp_performedBy np dd nx) σ) (sp_performing_pe ns h2 pd2 (sp_performedBy np dd nx) nx σ) (sp_performing_la ns h2 lo2 (sp_performedBy np dd nx) σ) (sp_note_ra rd2 k nx)
def sp_travel_co_4 (ln : Int32) (en : Int32) (np : Int32) (ns : Int32) (hi : Int32) (dd : Nat → Int32) (gd : Nat → Int32) (f : Nat → Int64) (lo : Nat → Option Nat) (pd : Nat → Int32) (ud : Nat → Int32) (rd : Nat → Int32) (x : Int32) (steps : Int64) (σ : Nat → Stm) : Int32 := if (sp_performing ns 0 f x σ) = (-1) then lp_travel_co_4 ln np ns dd gd steps σ 4097 0 0 (sp_performing_va ns 0 f x σ) (sp_performing_pi_3 ns 0 f x σ) (sp_performing_pi_4 ns 0 hi f x σ) 0 (sp_performing_tu ns 0 ud x σ) (sp_performing_pe ns 0 pd x 0 σ) (sp_performing_la ns 0 lo x σ) rd else lp_travel_co_4 ln np ns dd gd steps σ 4097 (sp_performing ns 0 f x σ) 0 (sp_performing_va ns 0 f x σ) (sp_performing_pi_3 ns 0 f x σ) (sp_performing_pi_4 ns 0 hi f x σ) (sp_performing_co_5 en ns 0 x σ) (sp_performing_tu ns 0 ud x σ) (sp_performing_pe ns 0 pd x 0 σ) (sp_performing_la ns 0 lo x σ) rd
def lp_travel_co_5 (np : Int32) (ns : Int32) (dd : Nat → Int32) (gd : Nat → Int32) (steps : Int64) (σ : Nat → Stm) : Nat → Int32 → Int32 → (Nat → Int64) → Int32 → Int32 → Int32 → (Nat → Int32) → (Nat → Int32) → (Nat → Option Nat) → (Nat → Int32) → Int32
  | 0, _, _, _, _, _, en2, _, _, _, _ => en2
  | n_ + 1, nx, k, g, h2, hi2, en2, ud2, pd2, lo2, rd2 => if nx = 0 then en2 else if 0 ≤ (lg_cmp k.toInt64 steps) then 1 else if (sp_performedBy np dd nx) = (-1) then (if (sp_doing np dd g nx) = (-1) then lp_travel_co_5 np ns dd gd steps σ n_ (lp_behindDoing np gd lo2 pd2 σ 101 nx 0 (sp_doing_va np dd g nx) h2 ud2) (k + 1) (lp_behindDoing_va np gd lo2 pd2 σ 101 nx 0 (sp_doing_va np dd g nx) h2 ud2) (lp_behindDoing_pi_3 np gd lo2 pd2 σ 101 nx 0 (sp_doing_va np dd g nx) h2 ud2) hi2 (lp_behindDoing_co_5 (sp_doing_co_5 en2 np dd g nx) np gd lo2 pd2 σ 101 nx 0 (sp_doing_va np dd g nx) h2 ud2) (lp_behindDoing_tu np gd lo2 pd2 σ 101 nx 0 (sp_doing_va np dd g nx) h2 ud2) pd2 lo2 (sp_note_ra rd2 k nx) else lp_travel_co_5 np ns dd gd steps σ n_ (sp_doing np dd g nx) (k + 1) (sp_doing_va np dd g nx) h2 hi2 (sp_doing_co_5 en2 np dd g nx) ud2 pd2 lo2 (sp_note_ra rd2 k nx)) else if (sp_performing ns h2 g (sp_performedBy np dd nx) σ) = (-1) then lp_travel_co_5 np ns dd gd steps σ n_ (lp_behindDoing np gd (sp_performing_la ns h2 lo2 (sp_performedBy np dd nx) σ) (sp_performing_pe ns h2 pd2 (sp_performedBy np dd nx) nx σ) σ 101 nx 0 (sp_performing_va ns h2 g (sp_performedBy np dd nx) σ) (sp_performing_pi_3 ns h2 g (sp_performedBy np dd nx) σ) (sp_performing_tu ns h2 ud2 (sp_performedBy np dd nx) σ)) (k + 1) (lp_behindDoing_va np gd (sp_performing_la ns h2 lo2 (sp_performedBy np dd nx) σ) (sp_performing_pe ns h2 pd2 (sp_performedBy np dd nx) nx σ) σ 101 nx 0 (sp_performing_va ns h2 g (sp_performedBy np dd nx) σ) (sp_performing_pi_3 ns h2 g (sp_performedBy np dd nx) σ) (sp_performing_tu ns h2 ud2 (sp_performedBy np dd nx) σ)) (lp_behindDoing_pi_3 np gd (sp_performing_la ns h2 lo2 (sp_performedBy np dd nx) σ) (sp_performing_pe ns h2 pd2 (sp_performedBy np dd nx) nx σ) σ 101 nx 0 (sp_performing_va ns h2 g (sp_performedBy np dd nx) σ) (sp_performing_pi_3 ns h2 g (sp_performedBy np dd nx) σ) (sp_performing_tu ns h2 ud2 (sp_performedBy np dd nx) σ)) (sp_performing_pi_4 ns h2 hi2 g (sp_performedBy np dd nx) σ) (lp_behindDoing_co_5 (sp_performing_co_5 en2 ns h2 (sp_performedBy np dd nx) σ) np gd (sp_performing_la ns h2 lo2 (sp_performedBy np dd nx) σ) (sp_performing_pe ns h2 pd2 (sp_performedBy np dd nx) nx σ) σ 101 nx 0 (sp_performing_va ns h2 g (sp_performedBy np dd nx) σ) (sp_performing_pi_3 ns h2 g (sp_performedBy np dd nx) σ) (sp_performing_tu ns h2 ud2 (sp_performedBy np dd nx) σ)) (lp_behindDoing_tu np gd (sp_performing_la ns h2 lo2 (sp_performedBy np dd nx) σ) (sp_performing_pe ns h2 pd2 (sp_performedBy np dd nx) nx σ) σ 101 nx 0 (sp_performing_va ns h2 g (sp_performedBy np dd nx) σ) (sp_performing_pi_3 ns h2 g (sp_performedBy np dd nx) σ) (sp_performing_tu ns h2 ud2 (sp_performedBy np dd nx) σ)) (sp_performing_pe ns h2 pd2 (sp_performedBy np dd nx) nx σ) (sp_performing_la ns h2 lo2 (sp_performedBy np dd nx) σ) (sp_note_ra rd2 k nx) else lp_travel_co_5 np ns dd gd steps σ n_ (sp_performing ns h2 g (sp_performedBy np dd nx) σ) (k + 1) (sp_performing_va ns h2 g (sp_performedBy np dd nx) σ) (sp_performing_pi_3 ns h2 g (sp_performedBy np dd nx) σ) (sp_performing_pi_4 ns h2 hi2 g (sp_performedBy np dd nx) σ) (sp_performing_co_5 en2 ns h2 (sp_performedBy np dd nx) σ) (sp_performing_tu ns h2 ud2 (sp_performedBy np dd nx) σ) (sp_performing_pe ns h2 pd2 (sp_performedBy np dd nx) nx σ) (sp_performing_la ns h2 lo2 (sp_performedBy np dd nx) σ) (sp_note_ra rd2 k nx)
def sp_travel_co_5 (en : Int32) (np : Int32) (ns : Int32) (hi : Int32) (dd : Nat → Int32) (gd : Nat → Int32) (f : Nat → Int64) (lo : Nat → Option Nat) (pd : Nat → Int32) (ud : Nat → Int32) (rd : Nat → Int32) (x : Int32) (steps : Int64) (σ : Nat → Stm) : Int32 := if (sp_performing ns 0 f x σ) = (-1) then lp_travel_co_5 np ns dd gd steps σ 4097 0 0 (sp_performing_va ns 0 f x σ) (sp_performing_pi_3 ns 0 f x σ) (sp_performing_pi_4 ns 0 hi f x σ) 0 (sp_performing_tu ns 0 ud x σ) (sp_performing_pe ns 0 pd x 0 σ) (sp_performing_la ns 0 lo x σ) rd else lp_travel_co_5 np ns dd gd steps σ 4097 (sp_performing ns 0 f x σ) 0 (sp_performing_va ns 0 f x σ) (sp_performing_pi_3 ns 0 f x σ) (sp_performing_pi_4 ns 0 hi f x σ) (sp_performing_co_5 en ns 0 x σ) (sp_performing_tu ns 0 ud x σ) (sp_performing_pe ns 0 pd x 0 σ) (sp_performing_la ns 0 lo x σ) rd
def lp_travel_la (np : Int32) (ns : Int32) (dd : Nat → Int32) (gd : Nat → Int32) (steps : Int64) (σ : Nat → Stm) : Nat → Int32 → Int32 → (Nat → Int64) → Int32 → Int32 → Int32 → (Nat → Int32) → (Nat → Int32) → (Nat → Option Nat) → (Nat → Int32) → Nat → Option Nat
  | 0, _, _, _, _, _, _, _, _, lo2, _ => lo2
  | n_ + 1, nx, k, g, h2, hi2, en2, ud2, pd2, lo2, rd2 => if nx = 0 then lo2 else if 0 ≤ (lg_cmp k.toInt64 steps) then lo2 else if (sp_performedBy np dd nx) = (-1) then (if (sp_doing np dd g nx) = (-1) then lp_travel_la np ns dd gd steps σ n_ (lp_behindDoing np gd lo2 pd2 σ 101 nx 0 (sp_doing_va np dd g nx) h2 ud2) (k + 1) (lp_behindDoing_va np gd lo2 pd2 σ 101 nx 0 (sp_doing_va np dd g nx) h2 ud2) (lp_behindDoing_pi_3 np gd lo2 pd2 σ 101 nx 0 (sp_doing_va np dd g nx) h2 ud2) hi2 (lp_behindDoing_co_5 (sp_doing_co_5 en2 np dd g nx) np gd lo2 pd2 σ 101 nx 0 (sp_doing_va np dd g nx) h2 ud2) (lp_behindDoing_tu np gd lo2 pd2 σ 101 nx 0 (sp_doing_va np dd g nx) h2 ud2) pd2 lo2 (sp_note_ra rd2 k nx) else lp_travel_la np ns dd gd steps σ n_ (sp_doing np dd g nx) (k + 1) (sp_doing_va np dd g nx) h2 hi2 (sp_doing_co_5 en2 np dd g nx) ud2 pd2 lo2 (sp_note_ra rd2 k nx)) else if (sp_performing ns h2 g (sp_performedBy np dd nx) σ) = (-1) then lp_travel_la np ns dd gd steps σ n_ (lp_behindDoing np gd (sp_performing_la ns h2 lo2 (sp_performedBy np dd nx) σ) (sp_performing_pe ns h2 pd2 (sp_performedBy np dd nx) nx σ) σ 101 nx 0 (sp_performing_va ns h2 g (sp_performedBy np dd nx) σ) (sp_performing_pi_3 ns h2 g (sp_performedBy np dd nx) σ) (sp_performing_tu ns h2 ud2 (sp_performedBy np dd nx) σ)) (k + 1) (lp_behindDoing_va np gd (sp_performing_la ns h2 lo2 (sp_performedBy np dd nx) σ) (sp_performing_pe ns h2 pd2 (sp_performedBy np dd nx) nx σ) σ 101 nx 0 (sp_performing_va ns h2 g (sp_performedBy np dd nx) σ) (sp_performing_pi_3 ns h2 g (sp_performedBy np dd nx) σ) (sp_performing_tu ns h2 ud2 (sp_performedBy np dd nx) σ)) (lp_behindDoing_pi_3 np gd (sp_performing_la ns h2 lo2 (sp_performedBy np dd nx) σ) (sp_performing_pe ns h2 pd2 (sp_performedBy np dd nx) nx σ) σ 101 nx 0 (sp_performing_va ns h2 g (sp_performedBy np dd nx) σ) (sp_performing_pi_3 ns h2 g (sp_performedBy np dd nx) σ) (sp_performing_tu ns h2 ud2 (sp_performedBy np dd nx) σ)) (sp_performing_pi_4 ns h2 hi2 g (sp_performedBy np dd nx) σ) (lp_behindDoing_co_5 (sp_performing_co_5 en2 ns h2 (sp_performedBy np dd nx) σ) np gd (sp_performing_la ns h2 lo2 (sp_performedBy np dd nx) σ) (sp_performing_pe ns h2 pd2 (sp_performedBy np dd nx) nx σ) σ 101 nx 0 (sp_performing_va ns h2 g (sp_performedBy np dd nx) σ) (sp_performing_pi_3 ns h2 g (sp_performedBy np dd nx) σ) (sp_performing_tu ns h2 ud2 (sp_performedBy np dd nx) σ)) (lp_behindDoing_tu np gd (sp_performing_la ns h2 lo2 (sp_performedBy np dd nx) σ) (sp_performing_pe ns h2 pd2 (sp_performedBy np dd nx) nx σ) σ 101 nx 0 (sp_performing_va ns h2 g (sp_performedBy np dd nx) σ) (sp_performing_pi_3 ns h2 g (sp_performedBy np dd nx) σ) (sp_performing_tu ns h2 ud2 (sp_performedBy np dd nx) σ)) (sp_performing_pe ns h2 pd2 (sp_performedBy np dd nx) nx σ) (sp_performing_la ns h2 lo2 (sp_performedBy np dd nx) σ) (sp_note_ra rd2 k nx) else lp_travel_la np ns dd gd steps σ n_ (sp_performing ns h2 g (sp_performedBy np dd nx) σ) (k + 1) (sp_performing_va ns h2 g (sp_performedBy np dd nx) σ) (sp_performing_pi_3 ns h2 g (sp_performedBy np dd nx) σ) (sp_performing_pi_4 ns h2 hi2 g (sp_performedBy np dd nx) σ) (sp_performing_co_5 en2 ns h2 (sp_performedBy np dd nx) σ) (sp_performing_tu ns h2 ud2 (sp_performedBy np dd nx) σ) (sp_performing_pe ns h2 pd2 (sp_performedBy np dd nx) nx σ) (sp_performing_la ns h2 lo2 (sp_performedBy np dd nx) σ) (sp_note_ra rd2 k nx)
def sp_travel_la (en : Int32) (np : Int32) (ns : Int32) (hi : Int32) (dd : Nat → Int32) (gd : Nat → Int32) (f : Nat → Int64) (lo : Nat → Option Nat) (pd : Nat → Int32) (ud : Nat → Int32) (rd : Nat → Int32) (x : Int32) (steps : Int64) (σ : Nat → Stm) : Nat → Option Nat := if (sp_performing ns 0 f x σ) = (-1) then lp_travel_la np ns dd gd steps σ 4097 0 0 (sp_performing_va ns 0 f x σ) (sp_performing_pi_3 ns 0 f x σ) (sp_performing_pi_4 ns 0 hi f x σ) 0 (sp_performing_tu ns 0 ud x σ) (sp_performing_pe ns 0 pd x 0 σ) (sp_performing_la ns 0 lo x σ) rd else lp_travel_la np ns dd gd steps σ 4097 (sp_performing ns 0 f x σ) 0 (sp_performing_va ns 0 f x σ) (sp_performing_pi_3 ns 0 f x σ) (sp_performing_pi_4 ns 0 hi f x σ) (sp_performing_co_5 en ns 0 x σ) (sp_performing_tu ns 0 ud x σ) (sp_performing_pe ns 0 pd x 0 σ) (sp_performing_la ns 0 lo x σ) rd
def lp_travel_pe (np : Int32) (ns : Int32) (dd : Nat → Int32) (gd : Nat → Int32) (steps : Int64) (σ : Nat → Stm) : Nat → Int32 → Int32 → (Nat → Int64) → Int32 → Int32 → Int32 → (Nat → Int32) → (Nat → Int32) → (Nat → Option Nat) → (Nat → Int32) → Nat → Int32
  | 0, _, _, _, _, _, _, _, pd2, _, _ => pd2
  | n_ + 1, nx, k, g, h2, hi2, en2, ud2, pd2, lo2, rd2 => if nx = 0 then pd2 else if 0 ≤ (lg_cmp k.toInt64 steps) then pd2 else if (sp_performedBy np dd nx) = (-1) then (if (sp_doing np dd g nx) = (-1) then lp_travel_pe np ns dd gd steps σ n_ (lp_behindDoing np gd lo2 pd2 σ 101 nx 0 (sp_doing_va np dd g nx) h2 ud2) (k + 1) (lp_behindDoing_va np gd lo2 pd2 σ 101 nx 0 (sp_doing_va np dd g nx) h2 ud2) (lp_behindDoing_pi_3 np gd lo2 pd2 σ 101 nx 0 (sp_doing_va np dd g nx) h2 ud2) hi2 (lp_behindDoing_co_5 (sp_doing_co_5 en2 np dd g nx) np gd lo2 pd2 σ 101 nx 0 (sp_doing_va np dd g nx) h2 ud2) (lp_behindDoing_tu np gd lo2 pd2 σ 101 nx 0 (sp_doing_va np dd g nx) h2 ud2) pd2 lo2 (sp_note_ra rd2 k nx) else lp_travel_pe np ns dd gd steps σ n_ (sp_doing np dd g nx) (k + 1) (sp_doing_va np dd g nx) h2 hi2 (sp_doing_co_5 en2 np dd g nx) ud2 pd2 lo2 (sp_note_ra rd2 k nx)) else if (sp_performing ns h2 g (sp_performedBy np dd nx) σ) = (-1) then lp_travel_pe np ns dd gd steps σ n_ (lp_behindDoing np gd (sp_performing_la ns h2 lo2 (sp_performedBy np dd nx) σ) (sp_performing_pe ns h2 pd2 (sp_performedBy np dd nx) nx σ) σ 101 nx 0 (sp_performing_va ns h2 g (sp_performedBy np dd nx) σ) (sp_performing_pi_3 ns h2 g (sp_performedBy np dd nx) σ) (sp_performing_tu ns h2 ud2 (sp_performedBy np dd nx) σ)) (k + 1) (lp_behindDoing_va np gd (sp_performing_la ns h2 lo2 (sp_performedBy np dd nx) σ) (sp_performing_pe ns h2 pd2 (sp_performedBy np dd nx) nx σ) σ 101 nx 0 (sp_performing_va ns h2 g (sp_performedBy np dd nx) σ) (sp_performing_pi_3 ns h2 g (sp_performedBy np dd nx) σ) (sp_performing_tu ns h2 ud2 (sp_performedBy np dd nx) σ)) (lp_behindDoing_pi_3 np gd (sp_performing_la ns h2 lo2 (sp_performedBy np dd nx) σ) (sp_performing_pe ns h2 pd2 (sp_performedBy np dd nx) nx σ) σ 101 nx 0 (sp_performing_va ns h2 g (sp_performedBy np dd nx) σ) (sp_performing_pi_3 ns h2 g (sp_performedBy np dd nx) σ) (sp_performing_tu ns h2 ud2 (sp_performedBy np dd nx) σ)) (sp_performing_pi_4 ns h2 hi2 g (sp_performedBy np dd nx) σ) (lp_behindDoing_co_5 (sp_performing_co_5 en2 ns h2 (sp_performedBy np dd nx) σ) np gd (sp_performing_la ns h2 lo2 (sp_performedBy np dd nx) σ) (sp_performing_pe ns h2 pd2 (sp_performedBy np dd nx) nx σ) σ 101 nx 0 (sp_performing_va ns h2 g (sp_performedBy np dd nx) σ) (sp_performing_pi_3 ns h2 g (sp_performedBy np dd nx) σ) (sp_performing_tu ns h2 ud2 (sp_performedBy np dd nx) σ)) (lp_behindDoing_tu np gd (sp_performing_la ns h2 lo2 (sp_performedBy np dd nx) σ) (sp_performing_pe ns h2 pd2 (sp_performedBy np dd nx) nx σ) σ 101 nx 0 (sp_performing_va ns h2 g (sp_performedBy np dd nx) σ) (sp_performing_pi_3 ns h2 g (sp_performedBy np dd nx) σ) (sp_performing_tu ns h2 ud2 (sp_performedBy np dd nx) σ)) (sp_performing_pe ns h2 pd2 (sp_performedBy np dd nx) nx σ) (sp_performing_la ns h2 lo2 (sp_performedBy np dd nx) σ) (sp_note_ra rd2 k nx) else lp_travel_pe np ns dd gd steps σ n_ (sp_performing ns h2 g (sp_performedBy np dd nx) σ) (k + 1) (sp_performing_va ns h2 g (sp_performedBy np dd nx) σ) (sp_performing_pi_3 ns h2 g (sp_performedBy np dd nx) σ) (sp_performing_pi_4 ns h2 hi2 g (sp_performedBy np dd nx) σ) (sp_performing_co_5 en2 ns h2 (sp_performedBy np dd nx) σ) (sp_performing_tu ns h2 ud2 (sp_performedBy np dd nx) σ) (sp_performing_pe ns h2 pd2 (sp_performedBy np dd nx) nx σ) (sp_performing_la ns h2 lo2 (sp_performedBy np dd nx) σ) (sp_note_ra rd2 k nx)
def sp_travel_pe (en : Int32) (np : Int32) (ns : Int32) (hi : Int32) (dd : Nat → Int32) (gd : Nat → Int32) (f : Nat → Int64) (lo : Nat → Option Nat) (pd : Nat → Int32) (ud : Nat → Int32) (rd : Nat → Int32) (x : Int32) (steps : Int64) (σ : Nat → Stm) : Nat → Int32 := if (sp_performing ns 0 f x σ) = (-1) then lp_travel_pe np ns dd gd steps σ 4097 0 0 (sp_performing_va ns 0 f x σ) (sp_performing_pi_3 ns 0 f x σ) (sp_performing_pi_4 ns 0 hi f x σ) 0 (sp_performing_tu ns 0 ud x σ) (sp_performing_pe ns 0 pd x 0 σ) (sp_performing_la ns 0 lo x σ) rd else lp_travel_pe np ns dd gd steps σ 4097 (sp_performing ns 0 f x σ) 0 (sp_performing_va ns 0 f x σ) (sp_performing_pi_3 ns 0 f x σ) (sp_performing_pi_4 ns 0 hi f x σ) (sp_performing_co_5 en ns 0 x σ) (sp_performing_tu ns 0 ud x σ) (sp_performing_pe ns 0 pd x 0 σ) (sp_performing_la ns 0 lo x σ) rd
def lp_travel_tu (np : Int32) (ns : Int32) (dd : Nat → Int32) (gd : Nat → Int32) (steps : Int64) (σ : Nat → Stm) : Nat → Int32 → Int32 → (Nat → Int64) → Int32 → Int32 → Int32 → (Nat → Int32) → (Nat → Int32) → (Nat → Option Nat) → (Nat → Int32) → Nat → Int32
  | 0, _, _, _, _, _, _, ud2, _, _, _ => ud2
  | n_ + 1, nx, k, g, h2, hi2, en2, ud2, pd2, lo2, rd2 => if nx = 0 then ud2 else if 0 ≤ (lg_cmp k.toInt64 steps) then ud2 else if (sp_performedBy np dd nx) = (-1) then (if (sp_doing np dd g nx) = (-1) then lp_travel_tu np ns dd gd steps σ n_ (lp_behindDoing np gd lo2 pd2 σ 101 nx 0 (sp_doing_va np dd g nx) h2 ud2) (k + 1) (lp_behindDoing_va np gd lo2 pd2 σ 101 nx 0 (sp_doing_va np dd g nx) h2 ud2) (lp_behindDoing_pi_3 np gd lo2 pd2 σ 101 nx 0 (sp_doing_va np dd g nx) h2 ud2) hi2 (lp_behindDoing_co_5 (sp_doing_co_5 en2 np dd g nx) np gd lo2 pd2 σ 101 nx 0 (sp_doing_va np dd g nx) h2 ud2) (lp_behindDoing_tu np gd lo2 pd2 σ 101 nx 0 (sp_doing_va np dd g nx) h2 ud2) pd2 lo2 (sp_note_ra rd2 k nx) else lp_travel_tu np ns dd gd steps σ n_ (sp_doing np dd g nx) (k + 1) (sp_doing_va np dd g nx) h2 hi2 (sp_doing_co_5 en2 np dd g nx) ud2 pd2 lo2 (sp_note_ra rd2 k nx)) else if (sp_performing ns h2 g (sp_performedBy np dd nx) σ) = (-1) then lp_travel_tu np ns dd gd steps σ n_ (lp_behindDoing np gd (sp_performing_la ns h2 lo2 (sp_performedBy np dd nx) σ) (sp_performing_pe ns h2 pd2 (sp_performedBy np dd nx) nx σ) σ 101 nx 0 (sp_performing_va ns h2 g (sp_performedBy np dd nx) σ) (sp_performing_pi_3 ns h2 g (sp_performedBy np dd nx) σ) (sp_performing_tu ns h2 ud2 (sp_performedBy np dd nx) σ)) (k + 1) (lp_behindDoing_va np gd (sp_performing_la ns h2 lo2 (sp_performedBy np dd nx) σ) (sp_performing_pe ns h2 pd2 (sp_performedBy np dd nx) nx σ) σ 101 nx 0 (sp_performing_va ns h2 g (sp_performedBy np dd nx) σ) (sp_performing_pi_3 ns h2 g (sp_performedBy np dd nx) σ) (sp_performing_tu ns h2 ud2 (sp_performedBy np dd nx) σ)) (lp_behindDoing_pi_3 np gd (sp_performing_la ns h2 lo2 (sp_performedBy np dd nx) σ) (sp_performing_pe ns h2 pd2 (sp_performedBy np dd nx) nx σ) σ 101 nx 0 (sp_performing_va ns h2 g (sp_performedBy np dd nx) σ) (sp_performing_pi_3 ns h2 g (sp_performedBy np dd nx) σ) (sp_performing_tu ns h2 ud2 (sp_performedBy np dd nx) σ)) (sp_performing_pi_4 ns h2 hi2 g (sp_performedBy np dd nx) σ) (lp_behindDoing_co_5 (sp_performing_co_5 en2 ns h2 (sp_performedBy np dd nx) σ) np gd (sp_performing_la ns h2 lo2 (sp_performedBy np dd nx) σ) (sp_performing_pe ns h2 pd2 (sp_performedBy np dd nx) nx σ) σ 101 nx 0 (sp_performing_va ns h2 g (sp_performedBy np dd nx) σ) (sp_performing_pi_3 ns h2 g (sp_performedBy np dd nx) σ) (sp_performing_tu ns h2 ud2 (sp_performedBy np dd nx) σ)) (lp_behindDoing_tu np gd (sp_performing_la ns h2 lo2 (sp_performedBy np dd nx) σ) (sp_performing_pe ns h2 pd2 (sp_performedBy np dd nx) nx σ) σ 101 nx 0 (sp_performing_va ns h2 g (sp_performedBy np dd nx) σ) (sp_performing_pi_3 ns h2 g (sp_performedBy np dd nx) σ) (sp_performing_tu ns h2 ud2 (sp_performedBy np dd nx) σ)) (sp_performing_pe ns h2 pd2 (sp_performedBy np dd nx) nx σ) (sp_performing_la ns h2 lo2 (sp_performedBy np dd nx) σ) (sp_note_ra rd2 k nx) else lp_travel_tu np ns dd gd steps σ n_ (sp_performing ns h2 g (sp_performedBy np dd nx) σ) (k + 1) (sp_performing_va ns h2 g (sp_performedBy np dd nx) σ) (sp_performing_pi_3 ns h2 g (sp_performedBy np dd nx) σ) (sp_performing_pi_4 ns h2 hi2 g (sp_performedBy np dd nx) σ) (sp_performing_co_5 en2 ns h2 (sp_performedBy np dd nx) σ) (sp_performing_tu ns h2 ud2 (sp_performedBy np dd nx) σ) (sp_performing_pe ns h2 pd2 (sp_performedBy np dd nx) nx σ) (sp_performing_la ns h2 lo2 (sp_performedBy np dd nx) σ) (sp_note_ra rd2 k nx)
def sp_travel_tu (en : Int32) (np : Int32) (ns : Int32) (hi : Int32) (dd : Nat → Int32) (gd : Nat → Int32) (f : Nat → Int64) (lo : Nat → Option Nat) (pd : Nat → Int32) (ud : Nat → Int32) (rd : Nat → Int32) (x : Int32) (steps : Int64) (σ : Nat → Stm) : Nat → Int32 := if (sp_performing ns 0 f x σ) = (-1) then lp_travel_tu np ns dd gd steps σ 4097 0 0 (sp_performing_va ns 0 f x σ) (sp_performing_pi_3 ns 0 f x σ) (sp_performing_pi_4 ns 0 hi f x σ) 0 (sp_performing_tu ns 0 ud x σ) (sp_performing_pe ns 0 pd x 0 σ) (sp_performing_la ns 0 lo x σ) rd else lp_travel_tu np ns dd gd steps σ 4097 (sp_performing ns 0 f x σ) 0 (sp_performing_va ns 0 f x σ) (sp_performing_pi_3 ns 0 f x σ) (sp_performing_pi_4 ns 0 hi f x σ) (sp_performing_co_5 en ns 0 x σ) (sp_performing_tu ns 0 ud x σ) (sp_performing_pe ns 0 pd x 0 σ) (sp_performing_la ns 0 lo x σ) rd
def lp_travel_va (np : Int32) (ns : Int32) (dd : Nat → Int32) (gd : Nat → Int32) (steps : Int64) (σ : Nat → Stm) : Nat → Int32 → Int32 → (Nat → Int64) → Int32 → Int32 → Int32 → (Nat → Int32) → (Nat → Int32) → (Nat → Option Nat) → (Nat → Int32) → Nat → Int64
  | 0, _, _, g, _, _, _, _, _, _, _ => g
  | n_ + 1, nx, k, g, h2, hi2, en2, ud2, pd2, lo2, rd2 => if nx = 0 then g else if 0 ≤ (lg_cmp k.toInt64 steps) then g else if (sp_performedBy np dd nx) = (-1) then (if (sp_doing np dd g nx) = (-1) then lp_travel_va np ns dd gd steps σ n_ (lp_behindDoing np gd lo2 pd2 σ 101 nx 0 (sp_doing_va np dd g nx) h2 ud2) (k + 1) (lp_behindDoing_va np gd lo2 pd2 σ 101 nx 0 (sp_doing_va np dd g nx) h2 ud2) (lp_behindDoing_pi_3 np gd lo2 pd2 σ 101 nx 0 (sp_doing_va np dd g nx) h2 ud2) hi2 (lp_behindDoing_co_5 (sp_doing_co_5 en2 np dd g nx) np gd lo2 pd2 σ 101 nx 0 (sp_doing_va np dd g nx) h2 ud2) (lp_behindDoing_tu np gd lo2 pd2 σ 101 nx 0 (sp_doing_va np dd g nx) h2 ud2) pd2 lo2 (sp_note_ra rd2 k nx) else lp_travel_va np ns dd gd steps σ n_ (sp_doing np dd g nx) (k + 1) (sp_doing_va np dd g nx) h2 hi2 (sp_doing_co_5 en2 np dd g nx) ud2 pd2 lo2 (sp_note_ra rd2 k nx)) else if (sp_performing ns h2 g (sp_performedBy np dd nx) σ) = (-1) then lp_travel_va np ns dd gd steps σ n_ (lp_behindDoing np gd (sp_performing_la ns h2 lo2 (sp_performedBy np dd nx) σ) (sp_performing_pe ns h2 pd2 (sp_performedBy np dd nx) nx σ) σ 101 nx 0 (sp_performing_va ns h2 g (sp_performedBy np dd nx) σ) (sp_performing_pi_3 ns h2 g (sp_performedBy np dd nx) σ) (sp_performing_tu ns h2 ud2 (sp_performedBy np dd nx) σ)) (k + 1) (lp_behindDoing_va np gd (sp_performing_la ns h2 lo2 (sp_performedBy np dd nx) σ) (sp_performing_pe ns h2 pd2 (sp_performedBy np dd nx) nx σ) σ 101 nx 0 (sp_performing_va ns h2 g (sp_performedBy np dd nx) σ) (sp_performing_pi_3 ns h2 g (sp_performedBy np dd nx) σ) (sp_performing_tu ns h2 ud2 (sp_performedBy np dd nx) σ)) (lp_behindDoing_pi_3 np gd (sp_performing_la ns h2 lo2 (sp_performedBy np dd nx) σ) (sp_performing_pe ns h2 pd2 (sp_performedBy np dd nx) nx σ) σ 101 nx 0 (sp_performing_va ns h2 g (sp_performedBy np dd nx) σ) (sp_performing_pi_3 ns h2 g (sp_performedBy np dd nx) σ) (sp_performing_tu ns h2 ud2 (sp_performedBy np dd nx) σ)) (sp_performing_pi_4 ns h2 hi2 g (sp_performedBy np dd nx) σ) (lp_behindDoing_co_5 (sp_performing_co_5 en2 ns h2 (sp_performedBy np dd nx) σ) np gd (sp_performing_la ns h2 lo2 (sp_performedBy np dd nx) σ) (sp_performing_pe ns h2 pd2 (sp_performedBy np dd nx) nx σ) σ 101 nx 0 (sp_performing_va ns h2 g (sp_performedBy np dd nx) σ) (sp_performing_pi_3 ns h2 g (sp_performedBy np dd nx) σ) (sp_performing_tu ns h2 ud2 (sp_performedBy np dd nx) σ)) (lp_behindDoing_tu np gd (sp_performing_la ns h2 lo2 (sp_performedBy np dd nx) σ) (sp_performing_pe ns h2 pd2 (sp_performedBy np dd nx) nx σ) σ 101 nx 0 (sp_performing_va ns h2 g (sp_performedBy np dd nx) σ) (sp_performing_pi_3 ns h2 g (sp_performedBy np dd nx) σ) (sp_performing_tu ns h2 ud2 (sp_performedBy np dd nx) σ)) (sp_performing_pe ns h2 pd2 (sp_performedBy np dd nx) nx σ) (sp_performing_la ns h2 lo2 (sp_performedBy np dd nx) σ) (sp_note_ra rd2 k nx) else lp_travel_va np ns dd gd steps σ n_ (sp_performing ns h2 g (sp_performedBy np dd nx) σ) (k + 1) (sp_performing_va ns h2 g (sp_performedBy np dd nx) σ) (sp_performing_pi_3 ns h2 g (sp_performedBy np dd nx) σ) (sp_performing_pi_4 ns h2 hi2 g (sp_performedBy np dd nx) σ) (sp_performing_co_5 en2 ns h2 (sp_performedBy np dd nx) σ) (sp_performing_tu ns h2 ud2 (sp_performedBy np dd nx) σ) (sp_performing_pe ns h2 pd2 (sp_performedBy np dd nx) nx σ) (sp_performing_la ns h2 lo2 (sp_performedBy np dd nx) σ) (sp_note_ra rd2 k nx)
def sp_travel_va (en : Int32) (np : Int32) (ns : Int32) (hi : Int32) (dd : Nat → Int32) (gd : Nat → Int32) (f : Nat → Int64) (lo : Nat → Option Nat) (pd : Nat → Int32) (ud : Nat → Int32) (rd : Nat → Int32) (x : Int32) (steps : Int64) (σ : Nat → Stm) : Nat → Int64 := if (sp_performing ns 0 f x σ) = (-1) then lp_travel_va np ns dd gd steps σ 4097 0 0 (sp_performing_va ns 0 f x σ) (sp_performing_pi_3 ns 0 f x σ) (sp_performing_pi_4 ns 0 hi f x σ) 0 (sp_performing_tu ns 0 ud x σ) (sp_performing_pe ns 0 pd x 0 σ) (sp_performing_la ns 0 lo x σ) rd else lp_travel_va np ns dd gd steps σ 4097 (sp_performing ns 0 f x σ) 0 (sp_performing_va ns 0 f x σ) (sp_performing_pi_3 ns 0 f x σ) (sp_performing_pi_4 ns 0 hi f x σ) (sp_performing_co_5 en ns 0 x σ) (sp_performing_tu ns 0 ud x σ) (sp_performing_pe ns 0 pd x 0 σ) (sp_performing_la ns 0 lo x σ) rd
def lp_travel_ra (np : Int32) (ns : Int32) (dd : Nat → Int32) (gd : Nat → Int32) (steps : Int64) (σ : Nat → Stm) : Nat → Int32 → Int32 → (Nat → Int64) → Int32 → Int32 → Int32 → (Nat → Int32) → (Nat → Int32) → (Nat → Option Nat) → (Nat → Int32) → Nat → Int32
  | 0, _, _, _, _, _, _, _, _, _, rd2 => rd2
  | n_ + 1, nx, k, g, h2, hi2, en2, ud2, pd2, lo2, rd2 => if nx = 0 then rd2 else if 0 ≤ (lg_cmp k.toInt64 steps) then rd2 else if (sp_performedBy np dd nx) = (-1) then (if (sp_doing np dd g nx) = (-1) then lp_travel_ra np ns dd gd steps σ n_ (lp_behindDoing np gd lo2 pd2 σ 101 nx 0 (sp_doing_va np dd g nx) h2 ud2) (k + 1) (lp_behindDoing_va np gd lo2 pd2 σ 101 nx 0 (sp_doing_va np dd g nx) h2 ud2) (lp_behindDoing_pi_3 np gd lo2 pd2 σ 101 nx 0 (sp_doing_va np dd g nx) h2 ud2) hi2 (lp_behindDoing_co_5 (sp_doing_co_5 en2 np dd g nx) np gd lo2 pd2 σ 101 nx 0 (sp_doing_va np dd g nx) h2 ud2) (lp_behindDoing_tu np gd lo2 pd2 σ 101 nx 0 (sp_doing_va np dd g nx) h2 ud2) pd2 lo2 (sp_note_ra rd2 k nx) else lp_travel_ra np ns dd gd steps σ n_ (sp_doing np dd g nx) (k + 1) (sp_doing_va np dd g nx) h2 hi2 (sp_doing_co_5 en2 np dd g nx) ud2 pd2 lo2 (sp_note_ra rd2 k nx)) else if (sp_performing ns h2 g (sp_performedBy np dd nx) σ) = (-1) then lp_travel_ra np ns dd gd steps σ n_ (lp_behindDoing np gd (sp_performing_la ns h2 lo2 (sp_performedBy np dd nx) σ) (sp_performing_pe ns h2 pd2 (sp_performedBy np dd nx) nx σ) σ 101 nx 0 (sp_performing_va ns h2 g (sp_performedBy np dd nx) σ) (sp_performing_pi_3 ns h2 g (sp_performedBy np dd nx) σ) (sp_performing_tu ns h2 ud2 (sp_performedBy np dd nx) σ)) (k + 1) (lp_behindDoing_va np gd (sp_performing_la ns h2 lo2 (sp_performedBy np dd nx) σ) (sp_performing_pe ns h2 pd2 (sp_performedBy np dd nx) nx σ) σ 101 nx 0 (sp_performing_va ns h2 g (sp_performedBy np dd nx) σ) (sp_performing_pi_3 ns h2 g (sp_performedBy np dd nx) σ) (sp_performing_tu ns h2 ud2 (sp_performedBy np dd nx) σ)) (lp_behindDoing_pi_3 np gd (sp_performing_la ns h2 lo2 (sp_performedBy np dd nx) σ) (sp_performing_pe ns h2 pd2 (sp_performedBy np dd nx) nx σ) σ 101 nx 0 (sp_performing_va ns h2 g (sp_performedBy np dd nx) σ) (sp_performing_pi_3 ns h2 g (sp_performedBy np dd nx) σ) (sp_performing_tu ns h2 ud2 (sp_performedBy np dd nx) σ)) (sp_performing_pi_4 ns h2 hi2 g (sp_performedBy np dd nx) σ) (lp_behindDoing_co_5 (sp_performing_co_5 en2 ns h2 (sp_performedBy np dd nx) σ) np gd (sp_performing_la ns h2 lo2 (sp_performedBy np dd nx) σ) (sp_performing_pe ns h2 pd2 (sp_performedBy np dd nx) nx σ) σ 101 nx 0 (sp_performing_va ns h2 g (sp_performedBy np dd nx) σ) (sp_performing_pi_3 ns h2 g (sp_performedBy np dd nx) σ) (sp_performing_tu ns h2 ud2 (sp_performedBy np dd nx) σ)) (lp_behindDoing_tu np gd (sp_performing_la ns h2 lo2 (sp_performedBy np dd nx) σ) (sp_performing_pe ns h2 pd2 (sp_performedBy np dd nx) nx σ) σ 101 nx 0 (sp_performing_va ns h2 g (sp_performedBy np dd nx) σ) (sp_performing_pi_3 ns h2 g (sp_performedBy np dd nx) σ) (sp_performing_tu ns h2 ud2 (sp_performedBy np dd nx) σ)) (sp_performing_pe ns h2 pd2 (sp_performedBy np dd nx) nx σ) (sp_performing_la ns h2 lo2 (sp_performedBy np dd nx) σ) (sp_note_ra rd2 k nx) else lp_travel_ra np ns dd gd steps σ n_ (sp_performing ns h2 g (sp_performedBy np dd nx) σ) (k + 1) (sp_performing_va ns h2 g (sp_performedBy np dd nx) σ) (sp_performing_pi_3 ns h2 g (sp_performedBy np dd nx) σ) (sp_performing_pi_4 ns h2 hi2 g (sp_performedBy np dd nx) σ) (sp_performing_co_5 en2 ns h2 (sp_performedBy np dd nx) σ) (sp_performing_tu ns h2 ud2 (sp_performedBy np dd nx) σ) (sp_performing_pe ns h2 pd2 (sp_performedBy np dd nx) nx σ) (sp_performing_la ns h2 lo2 (sp_performedBy np dd nx) σ) (sp_note_ra rd2 k nx)
def sp_travel_ra (en : Int32) (np : Int32) (ns : Int32) (hi : Int32) (dd : Nat → Int32) (gd : Nat → Int32) (f : Nat → Int64) (lo : Nat → Option Nat) (pd : Nat → Int32) (ud : Nat → Int32) (rd : Nat → Int32) (x : Int32) (steps : Int64) (σ : Nat → Stm) : Nat → Int32 := if (sp_performing ns 0 f x σ) = (-1) then lp_travel_ra np ns dd gd steps σ 4097 0 0 (sp_performing_va ns 0 f x σ) (sp_performing_pi_3 ns 0 f x σ) (sp_performing_pi_4 ns 0 hi f x σ) 0 (sp_performing_tu ns 0 ud x σ) (sp_performing_pe ns 0 pd x 0 σ) (sp_performing_la ns 0 lo x σ) rd else lp_travel_ra np ns dd gd steps σ 4097 (sp_performing ns 0 f x σ) 0 (sp_performing_va ns 0 f x σ) (sp_performing_pi_3 ns 0 f x σ) (sp_performing_pi_4 ns 0 hi f x σ) (sp_performing_co_5 en ns 0 x σ) (sp_performing_tu ns 0 ud x σ) (sp_performing_pe ns 0 pd x 0 σ) (sp_performing_la ns 0 lo x σ) rd
set_option maxHeartbeats 4000000 in
set_option maxRecDepth 100000 in
theorem c_travel {l : Launch} {H0 : Heap} {D : va_G} {cI cL cQ cB : ClassId} {M : mp} {co pg ce pi ra va dg gg tg0 la pe tu : Nat} {sa u1 u2 u3 u4 u5 : Nat → Nat} {σ : Nat → Stm} {ln : Int32} {en : Int32} {np : Int32} {ns : Int32} {hh : Int32} {hi : Int32} {dd : Nat → Int32} {gd : Nat → Int32} {f : Nat → Int64} {lo : Nat → Option Nat} {pd : Nat → Int32} {ud : Nat → Int32} {rd : Nat → Int32} {x : Int32} {steps : Int64} (hst : steps.toInt ≤ 4096) (ne0 : pe ≠ tu) (ne1 : dg ≠ gg) (gh0 : M co = some (.inr (1, [.ref pg, .ref ce, .ref pi, .ref ra, .int ln, .int en]))) (gh1 : M ce = some (.inr (0, [.ref va]))) (gh2 : M va = some (.inl (cL, 16, .inr (.inl f)))) (gh3 : M pg = some (.inr (3, [.ref dg, .ref gg, .ref tg0, .int np, .int ns]))) (gh4 : M dg = some (.inl (cI, 60, .inl dd))) (gh5 : M gg = some (.inl (cI, 60, .inl gd))) (gh6 : M tg0 = some (.inl (cQ, 60, .inr (.inr (.inr (.inr (tdOf ns sa))))))) (gh7 : M pi = some (.inr (2, [.ref la, .ref pe, .ref tu, .int hh, .int hi]))) (gh8 : M la = some (.inl (cQ, 100, .inr (.inr (.inr (.inr (lq lo sa))))))) (gh9 : M pe = some (.inl (cI, 100, .inl pd))) (gh10 : M tu = some (.inl (cI, 100, .inl ud))) (gh11 : M ra = some (.inl (cI, 4096, .inl rd))) (hp : SP cI cL M ns sa u1 u2 u3 u4 u5 σ) (hσ : ∀ i : Nat, (i : Int) < ns.toInt → (st_l (σ i)).toInt ≤ 7) (hlo : ∀ k j : Nat, lo k = some j → (j : Int) < ns.toInt) : MC l H0 D cls7 (tysOf cI cL cQ cB) NW ({ cls := "PerformRanges$Course", name := "travel", desc := "(IJ)I" } : Jvm.MethodName) (Cond.code ({ cls := "PerformRanges$Course", name := "travel", desc := "(IJ)I" } : Jvm.MethodName) prog_3_method_2_code 8 (Option.some Jvm.ClassFile.FieldType.int) :: GW) ({ frames := 6, cells := 0, slots := 0, locals := 135 }) [.ref co, .int x, .long steps] M (fun v M' => v = some (.int (sp_travel en np ns hi dd gd f lo pd ud rd x steps σ)) ∧ M' pi = some (.inr (2, [.ref la, .ref pe, .ref tu, .int (sp_travel_pi_3 en np ns hi dd gd f lo pd ud rd x steps σ), .int (sp_travel_pi_4 en np ns hi dd gd f lo pd ud rd x steps σ)])) ∧ M' co = some (.inr (1, [.ref pg, .ref ce, .ref pi, .ref ra, .int (sp_travel_co_4 ln en np ns hi dd gd f lo pd ud rd x steps σ), .int (sp_travel_co_5 en np ns hi dd gd f lo pd ud rd x steps σ)])) ∧ M' la = some (.inl (cQ, 100, .inr (.inr (.inr (.inr (lq (sp_travel_la en np ns hi dd gd f lo pd ud rd x steps σ) sa)))))) ∧ M' pe = some (.inl (cI, 100, .inl (sp_travel_pe en np ns hi dd gd f lo pd ud rd x steps σ))) ∧ M' tu = some (.inl (cI, 100, .inl (sp_travel_tu en np ns hi dd gd f lo pd ud rd x steps σ))) ∧ M' va = some (.inl (cL, 16, .inr (.inl (sp_travel_va en np ns hi dd gd f lo pd ud rd x steps σ)))) ∧ M' ra = some (.inl (cI, 4096, .inl (sp_travel_ra en np ns hi dd gd f lo pd ud rd x steps σ))) ∧ ∀ q, q ≠ pi → q ≠ co → q ≠ la → q ≠ pe → q ≠ tu → q ≠ va → q ≠ ra → M' q = M q) := by
  refine MC.of (cc := prog_3_method_2_code) (nL := 8) (ret := (Option.some Jvm.ClassFile.FieldType.int)) (lv := [(0, .ref co), (1, .int x), (2, .long steps)]) (by decide) rfl (Nat.le_of_ble_eq_true rfl) rfl ?_
  intro p e s m below meth c X hr hlk hnm hK
  have km1 : ((-1) : Int32).toInt = -1 := rfl
  have k0 : (0 : Int32).toInt = 0 := rfl
  have k1 : (1 : Int32).toInt = 1 := rfl
  refine V.rd (pc' := 1) (fun hl => lv_aload_n X.1 X.2.1 d_Course_travel_0 rfl (lv_at hl 0 rfl)) ?_
  refine V.get (pc' := 4) X hK gh0 uw_Course rfl 2 (by decide) (mcs wd_107) rfl d_Course_travel_1 rfl ?_
  refine V.callV (pc' := 7) X hK (c_Pile_clear  (pi := pi) (la := la) (pe := pe) (tu := tu) (hh := hh) (hi := hi)   gh7  ) gh7 rfl (cwG (n := 0) X (mcs wd_142) (mcs wd_143) (mcs wd_144) (mcs wd_81) wd_145 (by decide +kernel) (by decide) (by decide)) rfl rfl (Nat.le_of_ble_eq_true rfl) d_Course_travel_4 ⟨by decide, by decide⟩ rfl (st1 := []) rfl (fun M_1 ⟨h_2, fr_3⟩ => ?_)
  have h_4 : M_1 co = some (.inr (1, [.ref pg, .ref ce, .ref pi, .ref ra, .int ln, .int en])) := (fr_3 _ (ne_k gh0 gh7 (i := 1) (j := 2) rfl rfl (by decide))).trans gh0
  have h_5 : M_1 ce = some (.inr (0, [.ref va])) := (fr_3 _ (ne_k gh1 gh7 (i := 0) (j := 2) rfl rfl (by decide))).trans gh1
  have h_6 : M_1 va = some (.inl (cL, 16, .inr (.inl f))) := (fr_3 _ (ne_k gh2 gh7 (i := 100016) (j := 2) rfl rfl (by decide))).trans gh2
  have h_7 : M_1 pg = some (.inr (3, [.ref dg, .ref gg, .ref tg0, .int np, .int ns])) := (fr_3 _ (ne_k gh3 gh7 (i := 3) (j := 2) rfl rfl (by decide))).trans gh3
  have h_8 : M_1 dg = some (.inl (cI, 60, .inl dd)) := (fr_3 _ (ne_k gh4 gh7 (i := 1060) (j := 2) rfl rfl (by decide))).trans gh4
  have h_9 : M_1 gg = some (.inl (cI, 60, .inl gd)) := (fr_3 _ (ne_k gh5 gh7 (i := 1060) (j := 2) rfl rfl (by decide))).trans gh5
  have h_10 : M_1 tg0 = some (.inl (cQ, 60, .inr (.inr (.inr (.inr (tdOf ns sa)))))) := (fr_3 _ (ne_k gh6 gh7 (i := 10000060) (j := 2) rfl rfl (by decide))).trans gh6
  have h_11 : M_1 la = some (.inl (cQ, 100, .inr (.inr (.inr (.inr (lq lo sa)))))) := (fr_3 _ (ne_k gh8 gh7 (i := 10000100) (j := 2) rfl rfl (by decide))).trans gh8
  have h_12 : M_1 pe = some (.inl (cI, 100, .inl pd)) := (fr_3 _ (ne_k gh9 gh7 (i := 1100) (j := 2) rfl rfl (by decide))).trans gh9
  have h_13 : M_1 tu = some (.inl (cI, 100, .inl ud)) := (fr_3 _ (ne_k gh10 gh7 (i := 1100) (j := 2) rfl rfl (by decide))).trans gh10
  have h_14 : M_1 ra = some (.inl (cI, 4096, .inl rd)) := (fr_3 _ (ne_k gh11 gh7 (i := 5096) (j := 2) rfl rfl (by decide))).trans gh11
  have hp_15 := hp.keep (M' := M_1) (fun q e he ht => fr_3 q (ne_p he ht gh7 (j := 2) rfl (by decide)))
  refine V.rd (pc' := 8) (fun hl => lv_aload_n X.1 X.2.1 d_Course_travel_7 rfl (lv_at hl 0 rfl)) ?_
  refine V.rd (pc' := 9) (fun hl => lv_iload_n X.1 X.2.1 d_Course_travel_8 rfl (lv_at hl 1 rfl)) ?_
  refine V.go (pc' := 10) (lv_iconst (v := 0) X.1 X.2.1 d_Course_travel_9 (by decide)) ?_
  refine V.callV (pc' := 13) X hK (c_performing  (co := co) (pg := pg) (ce := ce) (pi := pi) (ra := ra) (va := va) (dg := dg) (gg := gg) (tg0 := tg0) (la := la) (pe := pe) (tu := tu) (ln := ln) (en := en) (np := np) (ns := ns) (hh := 0) (hi := hi) (f := f) (lo := lo) (pd := pd) (ud := ud) (x := x) (y := 0)  ne0 h_4 h_5 h_6 h_7 h_10 h_2 h_11 h_12 h_13 hp_15 hσ) h_4 rfl (cwG (n := 2) X (mcs wd_146) (mcs wd_147) (mcs wd_148) (mcs wd_92) wd_149 (by decide +kernel) (by decide) (by decide)) rfl rfl (Nat.le_of_ble_eq_true rfl) d_Course_travel_10 ⟨by decide, by decide⟩ rfl (st1 := [.int (sp_performing ns 0 f x σ)]) rfl (fun M_16 ⟨h_17, h_18, h_19, h_20, h_21, h_22, fr_23⟩ => ?_)
  have h_24 : M_16 ce = some (.inr (0, [.ref va])) := (fr_23 _ (ne_k h_5 h_4 (i := 0) (j := 1) rfl rfl (by decide)) (ne_k h_5 h_11 (i := 0) (j := 10000100) rfl rfl (by decide)) (ne_k h_5 h_12 (i := 0) (j := 1100) rfl rfl (by decide)) (ne_k h_5 h_13 (i := 0) (j := 1100) rfl rfl (by decide)) (ne_k h_5 h_2 (i := 0) (j := 2) rfl rfl (by decide)) (ne_k h_5 h_6 (i := 0) (j := 100016) rfl rfl (by decide))).trans h_5
  have h_25 : M_16 pg = some (.inr (3, [.ref dg, .ref gg, .ref tg0, .int np, .int ns])) := (fr_23 _ (ne_k h_7 h_4 (i := 3) (j := 1) rfl rfl (by decide)) (ne_k h_7 h_11 (i := 3) (j := 10000100) rfl rfl (by decide)) (ne_k h_7 h_12 (i := 3) (j := 1100) rfl rfl (by decide)) (ne_k h_7 h_13 (i := 3) (j := 1100) rfl rfl (by decide)) (ne_k h_7 h_2 (i := 3) (j := 2) rfl rfl (by decide)) (ne_k h_7 h_6 (i := 3) (j := 100016) rfl rfl (by decide))).trans h_7
  have h_26 : M_16 dg = some (.inl (cI, 60, .inl dd)) := (fr_23 _ (ne_k h_8 h_4 (i := 1060) (j := 1) rfl rfl (by decide)) (ne_k h_8 h_11 (i := 1060) (j := 10000100) rfl rfl (by decide)) (ne_k h_8 h_12 (i := 1060) (j := 1100) rfl rfl (by decide)) (ne_k h_8 h_13 (i := 1060) (j := 1100) rfl rfl (by decide)) (ne_k h_8 h_2 (i := 1060) (j := 2) rfl rfl (by decide)) (ne_k h_8 h_6 (i := 1060) (j := 100016) rfl rfl (by decide))).trans h_8
  have h_27 : M_16 gg = some (.inl (cI, 60, .inl gd)) := (fr_23 _ (ne_k h_9 h_4 (i := 1060) (j := 1) rfl rfl (by decide)) (ne_k h_9 h_11 (i := 1060) (j := 10000100) rfl rfl (by decide)) (ne_k h_9 h_12 (i := 1060) (j := 1100) rfl rfl (by decide)) (ne_k h_9 h_13 (i := 1060) (j := 1100) rfl rfl (by decide)) (ne_k h_9 h_2 (i := 1060) (j := 2) rfl rfl (by decide)) (ne_k h_9 h_6 (i := 1060) (j := 100016) rfl rfl (by decide))).trans h_9
  have h_28 : M_16 tg0 = some (.inl (cQ, 60, .inr (.inr (.inr (.inr (tdOf ns sa)))))) := (fr_23 _ (ne_k h_10 h_4 (i := 10000060) (j := 1) rfl rfl (by decide)) (ne_k h_10 h_11 (i := 10000060) (j := 10000100) rfl rfl (by decide)) (ne_k h_10 h_12 (i := 10000060) (j := 1100) rfl rfl (by decide)) (ne_k h_10 h_13 (i := 10000060) (j := 1100) rfl rfl (by decide)) (ne_k h_10 h_2 (i := 10000060) (j := 2) rfl rfl (by decide)) (ne_k h_10 h_6 (i := 10000060) (j := 100016) rfl rfl (by decide))).trans h_10
  have h_29 : M_16 ra = some (.inl (cI, 4096, .inl rd)) := (fr_23 _ (ne_k h_14 h_4 (i := 5096) (j := 1) rfl rfl (by decide)) (ne_k h_14 h_11 (i := 5096) (j := 10000100) rfl rfl (by decide)) (ne_k h_14 h_12 (i := 5096) (j := 1100) rfl rfl (by decide)) (ne_k h_14 h_13 (i := 5096) (j := 1100) rfl rfl (by decide)) (ne_k h_14 h_2 (i := 5096) (j := 2) rfl rfl (by decide)) (ne_k h_14 h_6 (i := 5096) (j := 100016) rfl rfl (by decide))).trans h_14
  have hp_30 := hp_15.keep (M' := M_16) (fun q e he ht => fr_23 q (ne_p he ht h_4 (j := 1) rfl (by decide)) (ne_p he ht h_11 (j := 10000100) rfl (by decide)) (ne_p he ht h_12 (j := 1100) rfl (by decide)) (ne_p he ht h_13 (j := 1100) rfl (by decide)) (ne_p he ht h_2 (j := 2) rfl (by decide)) (ne_p he ht h_6 (j := 100016) rfl (by decide)))
  have hlo_31 : ∀ k j : Nat, (sp_performing_la ns 0 lo x σ) k = some j → (j : Int) < ns.toInt := perf_lo hlo
  refine V.wr (pc' := 15) (lv' := [(4, .int (sp_performing ns 0 f x σ)), (0, .ref co), (1, .int x), (2, .long steps)]) (fun hl => lv_istore X.1 X.2.1 d_Course_travel_13 hl (by decide) rfl) ?_
  refine V.rd (pc' := 17) (fun hl => lv_iload X.1 X.2.1 d_Course_travel_15 (lv_at hl 0 rfl)) ?_
  refine V.go (pc' := 18) (lv_iconst (v := (-1)) X.1 X.2.1 d_Course_travel_17 (by decide)) ?_
  refine V.bn (pc' := 21) (tgt := 28) (P := (sp_performing ns 0 f x σ) = (-1)) (lv_icmp_ne X.1 X.2.1 d_Course_travel_18 (by decide)) (fun c_32 => ?_) (fun c_32 => ?_)
  · have i_33 := congrArg Int32.toInt c_32
    refine V.rd (pc' := 22) (fun hl => lv_aload_n X.1 X.2.1 d_Course_travel_21 rfl (lv_at hl 1 rfl)) ?_
    refine V.go (pc' := 23) (lv_iconst (v := 0) X.1 X.2.1 d_Course_travel_22 (by decide)) ?_
    refine V.callV (pc' := 26) X hK (c_Course_end  (co := co) (pg := pg) (ce := ce) (pi := pi) (ra := ra) (ln := ln) (en := sp_performing_co_5 en ns 0 x σ) (x := 0)   h_17  ) h_17 rfl (cwG (n := 1) X (mcs wd_89) (mcs wd_90) (mcs wd_91) (mcs wd_92) wd_93 (by decide +kernel) (by decide) (by decide)) rfl rfl (Nat.le_of_ble_eq_true rfl) d_Course_travel_23 ⟨by decide, by decide⟩ rfl (st1 := [.int 0]) rfl (fun M_34 ⟨h_35, fr_36⟩ => ?_)
    have h_37 : M_34 ce = some (.inr (0, [.ref va])) := (fr_36 _ (ne_k h_24 h_17 (i := 0) (j := 1) rfl rfl (by decide))).trans h_24
    have h_38 : M_34 pg = some (.inr (3, [.ref dg, .ref gg, .ref tg0, .int np, .int ns])) := (fr_36 _ (ne_k h_25 h_17 (i := 3) (j := 1) rfl rfl (by decide))).trans h_25
    have h_39 : M_34 dg = some (.inl (cI, 60, .inl dd)) := (fr_36 _ (ne_k h_26 h_17 (i := 1060) (j := 1) rfl rfl (by decide))).trans h_26
    have h_40 : M_34 gg = some (.inl (cI, 60, .inl gd)) := (fr_36 _ (ne_k h_27 h_17 (i := 1060) (j := 1) rfl rfl (by decide))).trans h_27
    have h_41 : M_34 tg0 = some (.inl (cQ, 60, .inr (.inr (.inr (.inr (tdOf ns sa)))))) := (fr_36 _ (ne_k h_28 h_17 (i := 10000060) (j := 1) rfl rfl (by decide))).trans h_28
    have h_42 : M_34 ra = some (.inl (cI, 4096, .inl rd)) := (fr_36 _ (ne_k h_29 h_17 (i := 5096) (j := 1) rfl rfl (by decide))).trans h_29
    have h_43 : M_34 la = some (.inl (cQ, 100, .inr (.inr (.inr (.inr (lq (sp_performing_la ns 0 lo x σ) sa)))))) := (fr_36 _ (ne_k h_18 h_17 (i := 10000100) (j := 1) rfl rfl (by decide))).trans h_18
    have h_44 : M_34 pe = some (.inl (cI, 100, .inl (sp_performing_pe ns 0 pd x 0 σ))) := (fr_36 _ (ne_k h_19 h_17 (i := 1100) (j := 1) rfl rfl (by decide))).trans h_19
    have h_45 : M_34 tu = some (.inl (cI, 100, .inl (sp_performing_tu ns 0 ud x σ))) := (fr_36 _ (ne_k h_20 h_17 (i := 1100) (j := 1) rfl rfl (by decide))).trans h_20
    have h_46 : M_34 pi = some (.inr (2, [.ref la, .ref pe, .ref tu, .int (sp_performing_pi_3 ns 0 f x σ), .int (sp_performing_pi_4 ns 0 hi f x σ)])) := (fr_36 _ (ne_k h_21 h_17 (i := 2) (j := 1) rfl rfl (by decide))).trans h_21
    have h_47 : M_34 va = some (.inl (cL, 16, .inr (.inl (sp_performing_va ns 0 f x σ)))) := (fr_36 _ (ne_k h_22 h_17 (i := 100016) (j := 1) rfl rfl (by decide))).trans h_22
    have hp_48 := hp_30.keep (M' := M_34) (fun q e he ht => fr_36 q (ne_p he ht h_17 (j := 1) rfl (by decide)))
    refine V.wr (pc' := 28) (lv' := [(4, .int 0), (0, .ref co), (1, .int x), (2, .long steps)]) (fun hl => lv_istore X.1 X.2.1 d_Course_travel_26 hl (by decide) rfl) ?_
    refine V.go (pc' := 29) (lv_iconst (v := 0) X.1 X.2.1 d_Course_travel_28 (by decide)) ?_
    refine V.wr (pc' := 31) (lv' := [(5, .int 0), (4, .int 0), (0, .ref co), (1, .int x), (2, .long steps)]) (fun hl => lv_istore X.1 X.2.1 d_Course_travel_29 hl (by decide) rfl) ?_
    obtain ⟨ze_68, hze_68⟩ : ∃ z, z = lp_travel np ns dd gd steps σ 4097 0 0 (sp_performing_va ns 0 f x σ) (sp_performing_pi_3 ns 0 f x σ) (sp_performing_pi_4 ns 0 hi f x σ) 0 (sp_performing_tu ns 0 ud x σ) (sp_performing_pe ns 0 pd x 0 σ) (sp_performing_la ns 0 lo x σ) rd := ⟨_, rfl⟩
    obtain ⟨ze_69, hze_69⟩ : ∃ z, z = lp_travel_pi_3 np ns dd gd steps σ 4097 0 0 (sp_performing_va ns 0 f x σ) (sp_performing_pi_3 ns 0 f x σ) (sp_performing_pi_4 ns 0 hi f x σ) 0 (sp_performing_tu ns 0 ud x σ) (sp_performing_pe ns 0 pd x 0 σ) (sp_performing_la ns 0 lo x σ) rd := ⟨_, rfl⟩
    obtain ⟨ze_70, hze_70⟩ : ∃ z, z = lp_travel_pi_4 np ns dd gd steps σ 4097 0 0 (sp_performing_va ns 0 f x σ) (sp_performing_pi_3 ns 0 f x σ) (sp_performing_pi_4 ns 0 hi f x σ) 0 (sp_performing_tu ns 0 ud x σ) (sp_performing_pe ns 0 pd x 0 σ) (sp_performing_la ns 0 lo x σ) rd := ⟨_, rfl⟩
    obtain ⟨ze_71, hze_71⟩ : ∃ z, z = lp_travel_co_4 ln np ns dd gd steps σ 4097 0 0 (sp_performing_va ns 0 f x σ) (sp_performing_pi_3 ns 0 f x σ) (sp_performing_pi_4 ns 0 hi f x σ) 0 (sp_performing_tu ns 0 ud x σ) (sp_performing_pe ns 0 pd x 0 σ) (sp_performing_la ns 0 lo x σ) rd := ⟨_, rfl⟩
    obtain ⟨ze_72, hze_72⟩ : ∃ z, z = lp_travel_co_5 np ns dd gd steps σ 4097 0 0 (sp_performing_va ns 0 f x σ) (sp_performing_pi_3 ns 0 f x σ) (sp_performing_pi_4 ns 0 hi f x σ) 0 (sp_performing_tu ns 0 ud x σ) (sp_performing_pe ns 0 pd x 0 σ) (sp_performing_la ns 0 lo x σ) rd := ⟨_, rfl⟩
    obtain ⟨ze_73, hze_73⟩ : ∃ z, z = lp_travel_la np ns dd gd steps σ 4097 0 0 (sp_performing_va ns 0 f x σ) (sp_performing_pi_3 ns 0 f x σ) (sp_performing_pi_4 ns 0 hi f x σ) 0 (sp_performing_tu ns 0 ud x σ) (sp_performing_pe ns 0 pd x 0 σ) (sp_performing_la ns 0 lo x σ) rd := ⟨_, rfl⟩
    obtain ⟨ze_74, hze_74⟩ : ∃ z, z = lp_travel_pe np ns dd gd steps σ 4097 0 0 (sp_performing_va ns 0 f x σ) (sp_performing_pi_3 ns 0 f x σ) (sp_performing_pi_4 ns 0 hi f x σ) 0 (sp_performing_tu ns 0 ud x σ) (sp_performing_pe ns 0 pd x 0 σ) (sp_performing_la ns 0 lo x σ) rd := ⟨_, rfl⟩
    obtain ⟨ze_75, hze_75⟩ : ∃ z, z = lp_travel_tu np ns dd gd steps σ 4097 0 0 (sp_performing_va ns 0 f x σ) (sp_performing_pi_3 ns 0 f x σ) (sp_performing_pi_4 ns 0 hi f x σ) 0 (sp_performing_tu ns 0 ud x σ) (sp_performing_pe ns 0 pd x 0 σ) (sp_performing_la ns 0 lo x σ) rd := ⟨_, rfl⟩
    obtain ⟨ze_76, hze_76⟩ : ∃ z, z = lp_travel_va np ns dd gd steps σ 4097 0 0 (sp_performing_va ns 0 f x σ) (sp_performing_pi_3 ns 0 f x σ) (sp_performing_pi_4 ns 0 hi f x σ) 0 (sp_performing_tu ns 0 ud x σ) (sp_performing_pe ns 0 pd x 0 σ) (sp_performing_la ns 0 lo x σ) rd := ⟨_, rfl⟩
    obtain ⟨ze_77, hze_77⟩ : ∃ z, z = lp_travel_ra np ns dd gd steps σ 4097 0 0 (sp_performing_va ns 0 f x σ) (sp_performing_pi_3 ns 0 f x σ) (sp_performing_pi_4 ns 0 hi f x σ) 0 (sp_performing_tu ns 0 ud x σ) (sp_performing_pe ns 0 pd x 0 σ) (sp_performing_la ns 0 lo x σ) rd := ⟨_, rfl⟩
    refine V.pick [2, 3, 4, 1, 0] rfl ?_
    refine V.ind (α := Unit) (x0 := ()) (n0 := 4097) (I := fun nn_ _ M' lv' => ∃ (nx : Int32) (k : Int32) (g : Nat → Int64) (h2 : Int32) (hi2 : Int32) (en2 : Int32) (ud2 : Nat → Int32) (pd2 : Nat → Int32) (lo2 : Nat → Option Nat) (rd2 : Nat → Int32), lv' = [(0, .ref co), (1, .int x), (2, .long steps), (4, .int nx), (5, .int k)] ∧ M' ce = some (.inr (0, [.ref va])) ∧ M' pg = some (.inr (3, [.ref dg, .ref gg, .ref tg0, .int np, .int ns])) ∧ M' dg = some (.inl (cI, 60, .inl dd)) ∧ M' gg = some (.inl (cI, 60, .inl gd)) ∧ M' tg0 = some (.inl (cQ, 60, .inr (.inr (.inr (.inr (tdOf ns sa)))))) ∧ M' ra = some (.inl (cI, 4096, .inl rd2)) ∧ M' la = some (.inl (cQ, 100, .inr (.inr (.inr (.inr (lq lo2 sa)))))) ∧ M' pe = some (.inl (cI, 100, .inl pd2)) ∧ M' tu = some (.inl (cI, 100, .inl ud2)) ∧ M' pi = some (.inr (2, [.ref la, .ref pe, .ref tu, .int h2, .int hi2])) ∧ M' va = some (.inl (cL, 16, .inr (.inl g))) ∧ M' co = some (.inr (1, [.ref pg, .ref ce, .ref pi, .ref ra, .int ln, .int en2])) ∧ SP cI cL M' ns sa u1 u2 u3 u4 u5 σ ∧ (∀ q, q ≠ va → q ≠ pi → q ≠ co → q ≠ tu → q ≠ pe → q ≠ la → q ≠ ra → M' q = M_34 q) ∧ (0 ≤ k.toInt ∧ k.toInt ≤ 4096) ∧ (k.toInt + nn_ = 4097) ∧ (∀ k j : Nat, lo2 k = some j → (j : Int) < ns.toInt) ∧ lp_travel np ns dd gd steps σ nn_ nx k g h2 hi2 en2 ud2 pd2 lo2 rd2 = ze_68 ∧ lp_travel_pi_3 np ns dd gd steps σ nn_ nx k g h2 hi2 en2 ud2 pd2 lo2 rd2 = ze_69 ∧ lp_travel_pi_4 np ns dd gd steps σ nn_ nx k g h2 hi2 en2 ud2 pd2 lo2 rd2 = ze_70 ∧ lp_travel_co_4 ln np ns dd gd steps σ nn_ nx k g h2 hi2 en2 ud2 pd2 lo2 rd2 = ze_71 ∧ lp_travel_co_5 np ns dd gd steps σ nn_ nx k g h2 hi2 en2 ud2 pd2 lo2 rd2 = ze_72 ∧ lp_travel_la np ns dd gd steps σ nn_ nx k g h2 hi2 en2 ud2 pd2 lo2 rd2 = ze_73 ∧ lp_travel_pe np ns dd gd steps σ nn_ nx k g h2 hi2 en2 ud2 pd2 lo2 rd2 = ze_74 ∧ lp_travel_tu np ns dd gd steps σ nn_ nx k g h2 hi2 en2 ud2 pd2 lo2 rd2 = ze_75 ∧ lp_travel_va np ns dd gd steps σ nn_ nx k g h2 hi2 en2 ud2 pd2 lo2 rd2 = ze_76 ∧ lp_travel_ra np ns dd gd steps σ nn_ nx k g h2 hi2 en2 ud2 pd2 lo2 rd2 = ze_77) ⟨0, 0, (sp_performing_va ns 0 f x σ), (sp_performing_pi_3 ns 0 f x σ), (sp_performing_pi_4 ns 0 hi f x σ), 0, (sp_performing_tu ns 0 ud x σ), (sp_performing_pe ns 0 pd x 0 σ), (sp_performing_la ns 0 lo x σ), rd, rfl, h_37, h_38, h_39, h_40, h_41, h_42, h_43, h_44, h_45, h_46, h_47, h_35, hp_48, (fun q _ _ _ _ _ _ _ => rfl), (by omega), (by omega), hlo_31, hze_68.symm, hze_69.symm, hze_70.symm, hze_71.symm, hze_72.symm, hze_73.symm, hze_74.symm, hze_75.symm, hze_76.symm, hze_77.symm⟩ (fun n_62 ih_63 _ M_61 lv_64 hI_65 => ?_)
    obtain ⟨nx, k, g, h2, hi2, en2, ud2, pd2, lo2, rd2, rfl, h_49, h_50, h_51, h_52, h_53, h_54, h_55, h_56, h_57, h_58, h_59, h_60, hp_67, fr_66, j1, j2, hlo2, e_68, e_69, e_70, e_71, e_72, e_73, e_74, e_75, e_76, e_77⟩ := hI_65
    obtain ⟨n_62, rfl⟩ : ∃ j, n_62 = j + 1 := ⟨n_62 - 1, by omega⟩
    refine V.rd (pc' := 33) (fun hl => lv_iload X.1 X.2.1 d_Course_travel_31 (lv_at hl 3 rfl)) ?_
    refine V.br (pc' := 36) (tgt := 112) (P := nx = 0) (lv_if_eq X.1 X.2.1 d_Course_travel_33 (by decide)) (fun c_78 => ?_) (fun c_78 => ?_)
    · have i_79 := congrArg Int32.toInt c_78
      refine V.rd (pc' := 114) (fun hl => lv_iload X.1 X.2.1 d_Course_travel_112 (lv_at hl 3 rfl)) ?_
      refine V.brT (pc' := 117) (tgt := 123) (lv_if_eq X.1 X.2.1 d_Course_travel_114 (by decide)) c_78 ?_
      refine V.rd (pc' := 124) (fun hl => lv_aload_n X.1 X.2.1 d_Course_travel_123 rfl (lv_at hl 0 rfl)) ?_
      refine V.rd (pc' := 126) (fun hl => lv_iload X.1 X.2.1 d_Course_travel_124 (lv_at hl 4 rfl)) ?_
      refine V.put (pc' := 129) X hK h_60 uw_Course t_Course tok_Course nm_Course rfl 4 (by decide) (mcs wd_150) rfl rfl rfl (Nat.le_of_ble_eq_true rfl) (fs' := [.ref pg, .ref ce, .ref pi, .ref ra, .int k, .int en2]) rfl d_Course_travel_126 rfl (fun M_80 h_81 fr_82 => ?_)
      have h_83 : M_80 ce = some (.inr (0, [.ref va])) := (fr_82 _ (ne_k h_49 h_60 (i := 0) (j := 1) rfl rfl (by decide))).trans h_49
      have h_84 : M_80 pg = some (.inr (3, [.ref dg, .ref gg, .ref tg0, .int np, .int ns])) := (fr_82 _ (ne_k h_50 h_60 (i := 3) (j := 1) rfl rfl (by decide))).trans h_50
      have h_85 : M_80 dg = some (.inl (cI, 60, .inl dd)) := (fr_82 _ (ne_k h_51 h_60 (i := 1060) (j := 1) rfl rfl (by decide))).trans h_51
      have h_86 : M_80 gg = some (.inl (cI, 60, .inl gd)) := (fr_82 _ (ne_k h_52 h_60 (i := 1060) (j := 1) rfl rfl (by decide))).trans h_52
      have h_87 : M_80 tg0 = some (.inl (cQ, 60, .inr (.inr (.inr (.inr (tdOf ns sa)))))) := (fr_82 _ (ne_k h_53 h_60 (i := 10000060) (j := 1) rfl rfl (by decide))).trans h_53
      have h_88 : M_80 ra = some (.inl (cI, 4096, .inl rd2)) := (fr_82 _ (ne_k h_54 h_60 (i := 5096) (j := 1) rfl rfl (by decide))).trans h_54
      have h_89 : M_80 la = some (.inl (cQ, 100, .inr (.inr (.inr (.inr (lq lo2 sa)))))) := (fr_82 _ (ne_k h_55 h_60 (i := 10000100) (j := 1) rfl rfl (by decide))).trans h_55
      have h_90 : M_80 pe = some (.inl (cI, 100, .inl pd2)) := (fr_82 _ (ne_k h_56 h_60 (i := 1100) (j := 1) rfl rfl (by decide))).trans h_56
      have h_91 : M_80 tu = some (.inl (cI, 100, .inl ud2)) := (fr_82 _ (ne_k h_57 h_60 (i := 1100) (j := 1) rfl rfl (by decide))).trans h_57
      have h_92 : M_80 pi = some (.inr (2, [.ref la, .ref pe, .ref tu, .int h2, .int hi2])) := (fr_82 _ (ne_k h_58 h_60 (i := 2) (j := 1) rfl rfl (by decide))).trans h_58
      have h_93 : M_80 va = some (.inl (cL, 16, .inr (.inl g))) := (fr_82 _ (ne_k h_59 h_60 (i := 100016) (j := 1) rfl rfl (by decide))).trans h_59
      have hp_94 := hp_67.keep (M' := M_80) (fun q e he ht => fr_82 q (ne_p he ht h_60 (j := 1) rfl (by decide)))
      refine V.rd (pc' := 131) (fun hl => lv_iload X.1 X.2.1 d_Course_travel_129 (lv_at hl 4 rfl)) ?_
      rw [lp_travel] at e_68
      simp only [if_pos c_78] at e_68
      rw [lp_travel_pi_3] at e_69
      simp only [if_pos c_78] at e_69
      rw [lp_travel_pi_4] at e_70
      simp only [if_pos c_78] at e_70
      rw [lp_travel_co_4] at e_71
      simp only [if_pos c_78] at e_71
      rw [lp_travel_co_5] at e_72
      simp only [if_pos c_78] at e_72
      rw [lp_travel_la] at e_73
      simp only [if_pos c_78] at e_73
      rw [lp_travel_pe] at e_74
      simp only [if_pos c_78] at e_74
      rw [lp_travel_tu] at e_75
      simp only [if_pos c_78] at e_75
      rw [lp_travel_va] at e_76
      simp only [if_pos c_78] at e_76
      rw [lp_travel_ra] at e_77
      simp only [if_pos c_78] at e_77
      exact V.iret X hr hlk ⟨(by simp only [sp_travel, if_pos c_32]; exact congrArg (fun z => some (Value.int z)) (e_68.trans hze_68)), (by simp only [sp_travel_pi_3, sp_travel_pi_4, if_pos c_32]; rw [← hze_69, ← e_69]; rw [← hze_70, ← e_70]; exact h_92), (by simp only [sp_travel_co_4, sp_travel_co_5, if_pos c_32]; rw [← hze_71, ← e_71]; rw [← hze_72, ← e_72]; exact h_81), (by simp only [sp_travel_la, if_pos c_32]; rw [← hze_73, ← e_73]; exact h_89), (by simp only [sp_travel_pe, if_pos c_32]; rw [← hze_74, ← e_74]; exact h_90), (by simp only [sp_travel_tu, if_pos c_32]; rw [← hze_75, ← e_75]; exact h_91), (by simp only [sp_travel_va, if_pos c_32]; rw [← hze_76, ← e_76]; exact h_93), (by simp only [sp_travel_ra, if_pos c_32]; rw [← hze_77, ← e_77]; exact h_88), (fun q n0_ n1_ n2_ n3_ n4_ n5_ n6_ => (fr_82 q n1_).trans ((fr_66 q n5_ n0_ n1_ n4_ n3_ n2_ n6_).trans ((fr_36 q n1_).trans ((fr_23 q n1_ n2_ n3_ n4_ n0_ n5_).trans ((fr_3 q n0_))))))⟩ d_Course_travel_131
    · have i_95 := mt Int32.toInt_inj.mp c_78
      refine V.rd (pc' := 38) (fun hl => lv_iload X.1 X.2.1 d_Course_travel_36 (lv_at hl 4 rfl)) ?_
      refine V.go (pc' := 39) (lv_i2l X.1 X.2.1 d_Course_travel_38 rfl) ?_
      refine V.rd (pc' := 40) (fun hl => lv_lload_n X.1 X.2.1 d_Course_travel_39 rfl (lv_at hl 2 rfl)) ?_
      refine V.go (pc' := 41) (W.lcmp X.1 X.2.1 d_Course_travel_40) ?_
      refine V.br (pc' := 44) (tgt := 112) (P := 0 ≤ (lg_cmp k.toInt64 steps)) (lv_if_ge X.1 X.2.1 d_Course_travel_41 (by decide)) (fun c_96 => ?_) (fun c_96 => ?_)
      · refine V.rd (pc' := 114) (fun hl => lv_iload X.1 X.2.1 d_Course_travel_112 (lv_at hl 3 rfl)) ?_
        refine V.brF (pc' := 117) (tgt := 123) (lv_if_eq X.1 X.2.1 d_Course_travel_114 (by decide)) c_78 ?_
        refine V.rd (pc' := 118) (fun hl => lv_aload_n X.1 X.2.1 d_Course_travel_117 rfl (lv_at hl 0 rfl)) ?_
        refine V.go (pc' := 119) (lv_iconst (v := 1) X.1 X.2.1 d_Course_travel_118 (by decide)) ?_
        refine V.callV (pc' := 122) X hK (c_Course_end  (co := co) (pg := pg) (ce := ce) (pi := pi) (ra := ra) (ln := ln) (en := en2) (x := 1)   h_60  ) h_60 rfl (cwG (n := 1) X (mcs wd_89) (mcs wd_90) (mcs wd_91) (mcs wd_92) wd_93 (by decide +kernel) (by decide) (by decide)) rfl rfl (Nat.le_of_ble_eq_true rfl) d_Course_travel_119 ⟨by decide, by decide⟩ rfl (st1 := [.int 0]) rfl (fun M_97 ⟨h_98, fr_99⟩ => ?_)
        have h_100 : M_97 ce = some (.inr (0, [.ref va])) := (fr_99 _ (ne_k h_49 h_60 (i := 0) (j := 1) rfl rfl (by decide))).trans h_49
        have h_101 : M_97 pg = some (.inr (3, [.ref dg, .ref gg, .ref tg0, .int np, .int ns])) := (fr_99 _ (ne_k h_50 h_60 (i := 3) (j := 1) rfl rfl (by decide))).trans h_50
        have h_102 : M_97 dg = some (.inl (cI, 60, .inl dd)) := (fr_99 _ (ne_k h_51 h_60 (i := 1060) (j := 1) rfl rfl (by decide))).trans h_51
        have h_103 : M_97 gg = some (.inl (cI, 60, .inl gd)) := (fr_99 _ (ne_k h_52 h_60 (i := 1060) (j := 1) rfl rfl (by decide))).trans h_52
        have h_104 : M_97 tg0 = some (.inl (cQ, 60, .inr (.inr (.inr (.inr (tdOf ns sa)))))) := (fr_99 _ (ne_k h_53 h_60 (i := 10000060) (j := 1) rfl rfl (by decide))).trans h_53
        have h_105 : M_97 ra = some (.inl (cI, 4096, .inl rd2)) := (fr_99 _ (ne_k h_54 h_60 (i := 5096) (j := 1) rfl rfl (by decide))).trans h_54
        have h_106 : M_97 la = some (.inl (cQ, 100, .inr (.inr (.inr (.inr (lq lo2 sa)))))) := (fr_99 _ (ne_k h_55 h_60 (i := 10000100) (j := 1) rfl rfl (by decide))).trans h_55
        have h_107 : M_97 pe = some (.inl (cI, 100, .inl pd2)) := (fr_99 _ (ne_k h_56 h_60 (i := 1100) (j := 1) rfl rfl (by decide))).trans h_56
        have h_108 : M_97 tu = some (.inl (cI, 100, .inl ud2)) := (fr_99 _ (ne_k h_57 h_60 (i := 1100) (j := 1) rfl rfl (by decide))).trans h_57
        have h_109 : M_97 pi = some (.inr (2, [.ref la, .ref pe, .ref tu, .int h2, .int hi2])) := (fr_99 _ (ne_k h_58 h_60 (i := 2) (j := 1) rfl rfl (by decide))).trans h_58
        have h_110 : M_97 va = some (.inl (cL, 16, .inr (.inl g))) := (fr_99 _ (ne_k h_59 h_60 (i := 100016) (j := 1) rfl rfl (by decide))).trans h_59
        have hp_111 := hp_67.keep (M' := M_97) (fun q e he ht => fr_99 q (ne_p he ht h_60 (j := 1) rfl (by decide)))
        refine V.go (pc' := 123) (lv_pop X.1 X.2.1 d_Course_travel_122 rfl) ?_
        refine V.rd (pc' := 124) (fun hl => lv_aload_n X.1 X.2.1 d_Course_travel_123 rfl (lv_at hl 0 rfl)) ?_
        refine V.rd (pc' := 126) (fun hl => lv_iload X.1 X.2.1 d_Course_travel_124 (lv_at hl 4 rfl)) ?_
        refine V.put (pc' := 129) X hK h_98 uw_Course t_Course tok_Course nm_Course rfl 4 (by decide) (mcs wd_150) rfl rfl rfl (Nat.le_of_ble_eq_true rfl) (fs' := [.ref pg, .ref ce, .ref pi, .ref ra, .int k, .int 1]) rfl d_Course_travel_126 rfl (fun M_112 h_113 fr_114 => ?_)
        have h_115 : M_112 ce = some (.inr (0, [.ref va])) := (fr_114 _ (ne_k h_100 h_98 (i := 0) (j := 1) rfl rfl (by decide))).trans h_100
        have h_116 : M_112 pg = some (.inr (3, [.ref dg, .ref gg, .ref tg0, .int np, .int ns])) := (fr_114 _ (ne_k h_101 h_98 (i := 3) (j := 1) rfl rfl (by decide))).trans h_101
        have h_117 : M_112 dg = some (.inl (cI, 60, .inl dd)) := (fr_114 _ (ne_k h_102 h_98 (i := 1060) (j := 1) rfl rfl (by decide))).trans h_102
        have h_118 : M_112 gg = some (.inl (cI, 60, .inl gd)) := (fr_114 _ (ne_k h_103 h_98 (i := 1060) (j := 1) rfl rfl (by decide))).trans h_103
        have h_119 : M_112 tg0 = some (.inl (cQ, 60, .inr (.inr (.inr (.inr (tdOf ns sa)))))) := (fr_114 _ (ne_k h_104 h_98 (i := 10000060) (j := 1) rfl rfl (by decide))).trans h_104
        have h_120 : M_112 ra = some (.inl (cI, 4096, .inl rd2)) := (fr_114 _ (ne_k h_105 h_98 (i := 5096) (j := 1) rfl rfl (by decide))).trans h_105
        have h_121 : M_112 la = some (.inl (cQ, 100, .inr (.inr (.inr (.inr (lq lo2 sa)))))) := (fr_114 _ (ne_k h_106 h_98 (i := 10000100) (j := 1) rfl rfl (by decide))).trans h_106
        have h_122 : M_112 pe = some (.inl (cI, 100, .inl pd2)) := (fr_114 _ (ne_k h_107 h_98 (i := 1100) (j := 1) rfl rfl (by decide))).trans h_107
        have h_123 : M_112 tu = some (.inl (cI, 100, .inl ud2)) := (fr_114 _ (ne_k h_108 h_98 (i := 1100) (j := 1) rfl rfl (by decide))).trans h_108
        have h_124 : M_112 pi = some (.inr (2, [.ref la, .ref pe, .ref tu, .int h2, .int hi2])) := (fr_114 _ (ne_k h_109 h_98 (i := 2) (j := 1) rfl rfl (by decide))).trans h_109
        have h_125 : M_112 va = some (.inl (cL, 16, .inr (.inl g))) := (fr_114 _ (ne_k h_110 h_98 (i := 100016) (j := 1) rfl rfl (by decide))).trans h_110
        have hp_126 := hp_111.keep (M' := M_112) (fun q e he ht => fr_114 q (ne_p he ht h_98 (j := 1) rfl (by decide)))
        refine V.rd (pc' := 131) (fun hl => lv_iload X.1 X.2.1 d_Course_travel_129 (lv_at hl 4 rfl)) ?_
        rw [lp_travel] at e_68
        simp only [if_neg c_78, if_pos c_96] at e_68
        rw [lp_travel_pi_3] at e_69
        simp only [if_neg c_78, if_pos c_96] at e_69
        rw [lp_travel_pi_4] at e_70
        simp only [if_neg c_78, if_pos c_96] at e_70
        rw [lp_travel_co_4] at e_71
        simp only [if_neg c_78, if_pos c_96] at e_71
        rw [lp_travel_co_5] at e_72
        simp only [if_neg c_78, if_pos c_96] at e_72
        rw [lp_travel_la] at e_73
        simp only [if_neg c_78, if_pos c_96] at e_73
        rw [lp_travel_pe] at e_74
        simp only [if_neg c_78, if_pos c_96] at e_74
        rw [lp_travel_tu] at e_75
        simp only [if_neg c_78, if_pos c_96] at e_75
        rw [lp_travel_va] at e_76
        simp only [if_neg c_78, if_pos c_96] at e_76
        rw [lp_travel_ra] at e_77
        simp only [if_neg c_78, if_pos c_96] at e_77
        exact V.iret X hr hlk ⟨(by simp only [sp_travel, if_pos c_32]; exact congrArg (fun z => some (Value.int z)) (e_68.trans hze_68)), (by simp only [sp_travel_pi_3, sp_travel_pi_4, if_pos c_32]; rw [← hze_69, ← e_69]; rw [← hze_70, ← e_70]; exact h_124), (by simp only [sp_travel_co_4, sp_travel_co_5, if_pos c_32]; rw [← hze_71, ← e_71]; rw [← hze_72, ← e_72]; exact h_113), (by simp only [sp_travel_la, if_pos c_32]; rw [← hze_73, ← e_73]; exact h_121), (by simp only [sp_travel_pe, if_pos c_32]; rw [← hze_74, ← e_74]; exact h_122), (by simp only [sp_travel_tu, if_pos c_32]; rw [← hze_75, ← e_75]; exact h_123), (by simp only [sp_travel_va, if_pos c_32]; rw [← hze_76, ← e_76]; exact h_125), (by simp only [sp_travel_ra, if_pos c_32]; rw [← hze_77, ← e_77]; exact h_120), (fun q n0_ n1_ n2_ n3_ n4_ n5_ n6_ => (fr_114 q n1_).trans ((fr_99 q n1_).trans ((fr_66 q n5_ n0_ n1_ n4_ n3_ n2_ n6_).trans ((fr_36 q n1_).trans ((fr_23 q n1_ n2_ n3_ n4_ n0_ n5_).trans ((fr_3 q n0_)))))))⟩ d_Course_travel_131
      · have i_127 := lcmp_lt c_96
        refine V.rd (pc' := 46) (fun hl => lv_iload X.1 X.2.1 d_Course_travel_44 (lv_at hl 3 rfl)) ?_
        refine V.wr (pc' := 48) (lv' := [(6, .int nx), (0, .ref co), (1, .int x), (2, .long steps), (4, .int nx), (5, .int k)]) (fun hl => lv_istore X.1 X.2.1 d_Course_travel_46 hl (by decide) rfl) ?_
        refine V.rd (pc' := 49) (fun hl => lv_aload_n X.1 X.2.1 d_Course_travel_48 rfl (lv_at hl 1 rfl)) ?_
        refine V.rd (pc' := 51) (fun hl => lv_iload X.1 X.2.1 d_Course_travel_49 (lv_at hl 5 rfl)) ?_
        refine V.rd (pc' := 53) (fun hl => lv_iload X.1 X.2.1 d_Course_travel_51 (lv_at hl 0 rfl)) ?_
        refine V.callV (pc' := 56) X hK (c_note  (co := co) (pg := pg) (ce := ce) (pi := pi) (ra := ra) (ln := ln) (en := en2) (rd := rd2) (x := k) (y := nx)   h_60 h_54  ) h_60 rfl (cwG (n := 2) X (mcs wd_151) (mcs wd_152) (mcs wd_153) (mcs wd_92) wd_154 (by decide +kernel) (by decide) (by decide)) rfl rfl (Nat.le_of_ble_eq_true rfl) d_Course_travel_53 ⟨by decide, by decide⟩ rfl (st1 := []) rfl (fun M_128 ⟨h_129, fr_130⟩ => ?_)
        have h_131 : M_128 ce = some (.inr (0, [.ref va])) := (fr_130 _ (ne_k h_49 h_54 (i := 0) (j := 5096) rfl rfl (by decide))).trans h_49
        have h_132 : M_128 pg = some (.inr (3, [.ref dg, .ref gg, .ref tg0, .int np, .int ns])) := (fr_130 _ (ne_k h_50 h_54 (i := 3) (j := 5096) rfl rfl (by decide))).trans h_50
        have h_133 : M_128 dg = some (.inl (cI, 60, .inl dd)) := (fr_130 _ (ne_k h_51 h_54 (i := 1060) (j := 5096) rfl rfl (by decide))).trans h_51
        have h_134 : M_128 gg = some (.inl (cI, 60, .inl gd)) := (fr_130 _ (ne_k h_52 h_54 (i := 1060) (j := 5096) rfl rfl (by decide))).trans h_52
        have h_135 : M_128 tg0 = some (.inl (cQ, 60, .inr (.inr (.inr (.inr (tdOf ns sa)))))) := (fr_130 _ (ne_k h_53 h_54 (i := 10000060) (j := 5096) rfl rfl (by decide))).trans h_53
        have h_136 : M_128 la = some (.inl (cQ, 100, .inr (.inr (.inr (.inr (lq lo2 sa)))))) := (fr_130 _ (ne_k h_55 h_54 (i := 10000100) (j := 5096) rfl rfl (by decide))).trans h_55
        have h_137 : M_128 pe = some (.inl (cI, 100, .inl pd2)) := (fr_130 _ (ne_k h_56 h_54 (i := 1100) (j := 5096) rfl rfl (by decide))).trans h_56
        have h_138 : M_128 tu = some (.inl (cI, 100, .inl ud2)) := (fr_130 _ (ne_k h_57 h_54 (i := 1100) (j := 5096) rfl rfl (by decide))).trans h_57
        have h_139 : M_128 pi = some (.inr (2, [.ref la, .ref pe, .ref tu, .int h2, .int hi2])) := (fr_130 _ (ne_k h_58 h_54 (i := 2) (j := 5096) rfl rfl (by decide))).trans h_58
        have h_140 : M_128 va = some (.inl (cL, 16, .inr (.inl g))) := (fr_130 _ (ne_k h_59 h_54 (i := 100016) (j := 5096) rfl rfl (by decide))).trans h_59
        have h_141 : M_128 co = some (.inr (1, [.ref pg, .ref ce, .ref pi, .ref ra, .int ln, .int en2])) := (fr_130 _ (ne_k h_60 h_54 (i := 1) (j := 5096) rfl rfl (by decide))).trans h_60
        have hp_142 := hp_67.keep (M' := M_128) (fun q e he ht => fr_130 q (ne_p he ht h_54 (j := 5096) rfl (by decide)))
        refine V.rd (pc' := 57) (fun hl => lv_aload_n X.1 X.2.1 d_Course_travel_56 rfl (lv_at hl 1 rfl)) ?_
        refine V.get (pc' := 60) X hK h_141 uw_Course rfl 0 (by decide) (mcs wd_87) rfl d_Course_travel_57 rfl ?_
        refine V.rd (pc' := 62) (fun hl => lv_iload X.1 X.2.1 d_Course_travel_60 (lv_at hl 0 rfl)) ?_
        refine V.callV0 (pc' := 65) X hK (c_performedBy  (pg := pg) (dg := dg) (gg := gg) (tg0 := tg0) (np := np) (ns := ns) (dd := dd) (x := nx)   h_132 h_133  ) h_132 rfl (cwG (n := 1) X (mcs wd_155) (mcs wd_156) (mcs wd_157) (mcs wd_7) wd_158 (by decide +kernel) (by decide) (by decide)) rfl rfl (Nat.le_of_ble_eq_true rfl) d_Course_travel_62 ⟨by decide, by decide⟩ rfl (st1 := [.int (sp_performedBy np dd nx)]) rfl ?_
        refine V.wr (pc' := 67) (lv' := [(7, .int (sp_performedBy np dd nx)), (6, .int nx), (0, .ref co), (1, .int x), (2, .long steps), (4, .int nx), (5, .int k)]) (fun hl => lv_istore X.1 X.2.1 d_Course_travel_65 hl (by decide) rfl) ?_
        refine V.rd (pc' := 69) (fun hl => lv_iload X.1 X.2.1 d_Course_travel_67 (lv_at hl 0 rfl)) ?_
        refine V.go (pc' := 70) (lv_iconst (v := (-1)) X.1 X.2.1 d_Course_travel_69 (by decide)) ?_
        refine V.bn (pc' := 73) (tgt := 82) (P := (sp_performedBy np dd nx) = (-1)) (lv_icmp_ne X.1 X.2.1 d_Course_travel_70 (by decide)) (fun c_144 => ?_) (fun c_144 => ?_)
        · have i_145 := congrArg Int32.toInt c_144
          refine V.rd (pc' := 74) (fun hl => lv_aload_n X.1 X.2.1 d_Course_travel_73 rfl (lv_at hl 2 rfl)) ?_
          refine V.rd (pc' := 76) (fun hl => lv_iload X.1 X.2.1 d_Course_travel_74 (lv_at hl 1 rfl)) ?_
          refine V.callV (pc' := 79) X hK (c_doing  (co := co) (pg := pg) (ce := ce) (pi := pi) (ra := ra) (va := va) (dg := dg) (gg := gg) (tg0 := tg0) (ln := ln) (en := en2) (np := np) (ns := ns) (dd := dd) (f := g) (x := nx)   h_141 h_131 h_140 h_132 h_133  ) h_141 rfl (cwG (n := 1) X (mcs wd_159) (mcs wd_160) (mcs wd_161) (mcs wd_92) wd_162 (by decide +kernel) (by decide) (by decide)) rfl rfl (Nat.le_of_ble_eq_true rfl) d_Course_travel_76 ⟨by decide, by decide⟩ rfl (st1 := [.int (sp_doing np dd g nx)]) rfl (fun M_146 ⟨h_147, h_148, fr_149⟩ => ?_)
          have h_150 : M_146 ce = some (.inr (0, [.ref va])) := (fr_149 _ (ne_k h_131 h_140 (i := 0) (j := 100016) rfl rfl (by decide)) (ne_k h_131 h_141 (i := 0) (j := 1) rfl rfl (by decide))).trans h_131
          have h_151 : M_146 pg = some (.inr (3, [.ref dg, .ref gg, .ref tg0, .int np, .int ns])) := (fr_149 _ (ne_k h_132 h_140 (i := 3) (j := 100016) rfl rfl (by decide)) (ne_k h_132 h_141 (i := 3) (j := 1) rfl rfl (by decide))).trans h_132
          have h_152 : M_146 dg = some (.inl (cI, 60, .inl dd)) := (fr_149 _ (ne_k h_133 h_140 (i := 1060) (j := 100016) rfl rfl (by decide)) (ne_k h_133 h_141 (i := 1060) (j := 1) rfl rfl (by decide))).trans h_133
          have h_153 : M_146 gg = some (.inl (cI, 60, .inl gd)) := (fr_149 _ (ne_k h_134 h_140 (i := 1060) (j := 100016) rfl rfl (by decide)) (ne_k h_134 h_141 (i := 1060) (j := 1) rfl rfl (by decide))).trans h_134
          have h_154 : M_146 tg0 = some (.inl (cQ, 60, .inr (.inr (.inr (.inr (tdOf ns sa)))))) := (fr_149 _ (ne_k h_135 h_140 (i := 10000060) (j := 100016) rfl rfl (by decide)) (ne_k h_135 h_141 (i := 10000060) (j := 1) rfl rfl (by decide))).trans h_135
          have h_155 : M_146 la = some (.inl (cQ, 100, .inr (.inr (.inr (.inr (lq lo2 sa)))))) := (fr_149 _ (ne_k h_136 h_140 (i := 10000100) (j := 100016) rfl rfl (by decide)) (ne_k h_136 h_141 (i := 10000100) (j := 1) rfl rfl (by decide))).trans h_136
          have h_156 : M_146 pe = some (.inl (cI, 100, .inl pd2)) := (fr_149 _ (ne_k h_137 h_140 (i := 1100) (j := 100016) rfl rfl (by decide)) (ne_k h_137 h_141 (i := 1100) (j := 1) rfl rfl (by decide))).trans h_137
          have h_157 : M_146 tu = some (.inl (cI, 100, .inl ud2)) := (fr_149 _ (ne_k h_138 h_140 (i := 1100) (j := 100016) rfl rfl (by decide)) (ne_k h_138 h_141 (i := 1100) (j := 1) rfl rfl (by decide))).trans h_138
          have h_158 : M_146 pi = some (.inr (2, [.ref la, .ref pe, .ref tu, .int h2, .int hi2])) := (fr_149 _ (ne_k h_139 h_140 (i := 2) (j := 100016) rfl rfl (by decide)) (ne_k h_139 h_141 (i := 2) (j := 1) rfl rfl (by decide))).trans h_139
          have h_159 : M_146 ra = some (.inl (cI, 4096, .inl (sp_note_ra rd2 k nx))) := (fr_149 _ (ne_k h_129 h_140 (i := 5096) (j := 100016) rfl rfl (by decide)) (ne_k h_129 h_141 (i := 5096) (j := 1) rfl rfl (by decide))).trans h_129
          have hp_160 := hp_142.keep (M' := M_146) (fun q e he ht => fr_149 q (ne_p he ht h_140 (j := 100016) rfl (by decide)) (ne_p he ht h_141 (j := 1) rfl (by decide)))
          refine V.go (pc' := 90) (lv_goto X.1 X.2.1 d_Course_travel_79 (by decide)) ?_
          refine V.wr (pc' := 92) (lv' := [(4, .int (sp_doing np dd g nx)), (7, .int (sp_performedBy np dd nx)), (6, .int nx), (0, .ref co), (1, .int x), (2, .long steps), (5, .int k)]) (fun hl => lv_istore X.1 X.2.1 d_Course_travel_90 hl (by decide) rfl) ?_
          refine V.rd (pc' := 94) (fun hl => lv_iload X.1 X.2.1 d_Course_travel_92 (lv_at hl 0 rfl)) ?_
          refine V.go (pc' := 95) (lv_iconst (v := (-1)) X.1 X.2.1 d_Course_travel_94 (by decide)) ?_
          refine V.bn (pc' := 98) (tgt := 106) (P := (sp_doing np dd g nx) = (-1)) (lv_icmp_ne X.1 X.2.1 d_Course_travel_95 (by decide)) (fun c_161 => ?_) (fun c_161 => ?_)
          · have i_162 := congrArg Int32.toInt c_161
            refine V.rd (pc' := 99) (fun hl => lv_aload_n X.1 X.2.1 d_Course_travel_98 rfl (lv_at hl 3 rfl)) ?_
            refine V.rd (pc' := 101) (fun hl => lv_iload X.1 X.2.1 d_Course_travel_99 (lv_at hl 2 rfl)) ?_
            refine V.callV (pc' := 104) X hK (c_behindDoing  (co := co) (pg := pg) (ce := ce) (pi := pi) (ra := ra) (va := va) (dg := dg) (gg := gg) (tg0 := tg0) (la := la) (pe := pe) (tu := tu) (ln := ln) (en := sp_doing_co_5 en2 np dd g nx) (np := np) (ns := ns) (hh := h2) (hi := hi2) (gd := gd) (f := sp_doing_va np dd g nx) (lo := lo2) (pd := pd2) (ud := ud2) (x := nx)  ne0 h_148 h_150 h_147 h_151 h_153 h_158 h_155 h_156 h_157 hp_160 hσ hlo2) h_148 rfl (cwG (n := 1) X (mcs wd_163) (mcs wd_164) (mcs wd_165) (mcs wd_92) wd_166 (by decide +kernel) (by decide) (by decide)) rfl rfl (Nat.le_of_ble_eq_true rfl) d_Course_travel_101 ⟨by decide, by decide⟩ rfl (st1 := [.int (lp_behindDoing np gd lo2 pd2 σ 101 nx 0 (sp_doing_va np dd g nx) h2 ud2)]) rfl (fun M_163 ⟨h_164, h_165, h_166, h_167, fr_168⟩ => ?_)
            have h_169 : M_163 ce = some (.inr (0, [.ref va])) := (fr_168 _ (ne_k h_150 h_148 (i := 0) (j := 1) rfl rfl (by decide)) (ne_k h_150 h_157 (i := 0) (j := 1100) rfl rfl (by decide)) (ne_k h_150 h_147 (i := 0) (j := 100016) rfl rfl (by decide)) (ne_k h_150 h_158 (i := 0) (j := 2) rfl rfl (by decide))).trans h_150
            have h_170 : M_163 pg = some (.inr (3, [.ref dg, .ref gg, .ref tg0, .int np, .int ns])) := (fr_168 _ (ne_k h_151 h_148 (i := 3) (j := 1) rfl rfl (by decide)) (ne_k h_151 h_157 (i := 3) (j := 1100) rfl rfl (by decide)) (ne_k h_151 h_147 (i := 3) (j := 100016) rfl rfl (by decide)) (ne_k h_151 h_158 (i := 3) (j := 2) rfl rfl (by decide))).trans h_151
            have h_171 : M_163 dg = some (.inl (cI, 60, .inl dd)) := (fr_168 _ (ne_k h_152 h_148 (i := 1060) (j := 1) rfl rfl (by decide)) (ne_k h_152 h_157 (i := 1060) (j := 1100) rfl rfl (by decide)) (ne_k h_152 h_147 (i := 1060) (j := 100016) rfl rfl (by decide)) (ne_k h_152 h_158 (i := 1060) (j := 2) rfl rfl (by decide))).trans h_152
            have h_172 : M_163 gg = some (.inl (cI, 60, .inl gd)) := (fr_168 _ (ne_k h_153 h_148 (i := 1060) (j := 1) rfl rfl (by decide)) (ne_k h_153 h_157 (i := 1060) (j := 1100) rfl rfl (by decide)) (ne_k h_153 h_147 (i := 1060) (j := 100016) rfl rfl (by decide)) (ne_k h_153 h_158 (i := 1060) (j := 2) rfl rfl (by decide))).trans h_153
            have h_173 : M_163 tg0 = some (.inl (cQ, 60, .inr (.inr (.inr (.inr (tdOf ns sa)))))) := (fr_168 _ (ne_k h_154 h_148 (i := 10000060) (j := 1) rfl rfl (by decide)) (ne_k h_154 h_157 (i := 10000060) (j := 1100) rfl rfl (by decide)) (ne_k h_154 h_147 (i := 10000060) (j := 100016) rfl rfl (by decide)) (ne_k h_154 h_158 (i := 10000060) (j := 2) rfl rfl (by decide))).trans h_154
            have h_174 : M_163 la = some (.inl (cQ, 100, .inr (.inr (.inr (.inr (lq lo2 sa)))))) := (fr_168 _ (ne_k h_155 h_148 (i := 10000100) (j := 1) rfl rfl (by decide)) (ne_k h_155 h_157 (i := 10000100) (j := 1100) rfl rfl (by decide)) (ne_k h_155 h_147 (i := 10000100) (j := 100016) rfl rfl (by decide)) (ne_k h_155 h_158 (i := 10000100) (j := 2) rfl rfl (by decide))).trans h_155
            have h_175 : M_163 pe = some (.inl (cI, 100, .inl pd2)) := (fr_168 _ (ne_k h_156 h_148 (i := 1100) (j := 1) rfl rfl (by decide)) ne0 (ne_k h_156 h_147 (i := 1100) (j := 100016) rfl rfl (by decide)) (ne_k h_156 h_158 (i := 1100) (j := 2) rfl rfl (by decide))).trans h_156
            have h_176 : M_163 ra = some (.inl (cI, 4096, .inl (sp_note_ra rd2 k nx))) := (fr_168 _ (ne_k h_159 h_148 (i := 5096) (j := 1) rfl rfl (by decide)) (ne_k h_159 h_157 (i := 5096) (j := 1100) rfl rfl (by decide)) (ne_k h_159 h_147 (i := 5096) (j := 100016) rfl rfl (by decide)) (ne_k h_159 h_158 (i := 5096) (j := 2) rfl rfl (by decide))).trans h_159
            have hp_177 := hp_160.keep (M' := M_163) (fun q e he ht => fr_168 q (ne_p he ht h_148 (j := 1) rfl (by decide)) (ne_p he ht h_157 (j := 1100) rfl (by decide)) (ne_p he ht h_147 (j := 100016) rfl (by decide)) (ne_p he ht h_158 (j := 2) rfl (by decide)))
            refine V.wr (pc' := 106) (lv' := [(4, .int (lp_behindDoing np gd lo2 pd2 σ 101 nx 0 (sp_doing_va np dd g nx) h2 ud2)), (7, .int (sp_performedBy np dd nx)), (6, .int nx), (0, .ref co), (1, .int x), (2, .long steps), (5, .int k)]) (fun hl => lv_istore X.1 X.2.1 d_Course_travel_104 hl (by decide) rfl) ?_
            refine V.wr (pc' := 109) (lv' := [(5, .int (k + 1)), (4, .int (lp_behindDoing np gd lo2 pd2 σ 101 nx 0 (sp_doing_va np dd g nx) h2 ud2)), (7, .int (sp_performedBy np dd nx)), (6, .int nx), (0, .ref co), (1, .int x), (2, .long steps)]) (fun hl => lv_iinc (k := 6) (v := k + 1) X.1 X.2.1 d_Course_travel_106 hl rfl rfl (by decide) rfl) ?_
            have s_178 : (k + 1).toInt = k.toInt + (1) := i32_add1 (by omega)
            refine V.go (pc' := 31) (lv_goto X.1 X.2.1 d_Course_travel_109 (by decide)) ?_
            refine V.pick [4, 5, 6, 1, 0] rfl ?_
            exact ih_63 n_62 (by omega) () _ _ ⟨(lp_behindDoing np gd lo2 pd2 σ 101 nx 0 (sp_doing_va np dd g nx) h2 ud2), (k + 1), (lp_behindDoing_va np gd lo2 pd2 σ 101 nx 0 (sp_doing_va np dd g nx) h2 ud2), (lp_behindDoing_pi_3 np gd lo2 pd2 σ 101 nx 0 (sp_doing_va np dd g nx) h2 ud2), hi2, (lp_behindDoing_co_5 (sp_doing_co_5 en2 np dd g nx) np gd lo2 pd2 σ 101 nx 0 (sp_doing_va np dd g nx) h2 ud2), (lp_behindDoing_tu np gd lo2 pd2 σ 101 nx 0 (sp_doing_va np dd g nx) h2 ud2), pd2, lo2, (sp_note_ra rd2 k nx), rfl, h_169, h_170, h_171, h_172, h_173, h_176, h_174, h_175, h_165, h_167, h_166, h_164, hp_177, (fun q n0_ n1_ n2_ n3_ n4_ n5_ n6_ => (fr_168 q n2_ n3_ n0_ n1_).trans ((fr_149 q n0_ n2_).trans ((fr_130 q n6_).trans ((fr_66 q n0_ n1_ n2_ n3_ n4_ n5_ n6_))))), (by omega), (by omega), hlo2, (by rw [← e_68, lp_travel]; simp only [if_neg c_78, if_neg c_96, if_pos c_144, if_pos c_161]), (by rw [← e_69, lp_travel_pi_3]; simp only [if_neg c_78, if_neg c_96, if_pos c_144, if_pos c_161]), (by rw [← e_70, lp_travel_pi_4]; simp only [if_neg c_78, if_neg c_96, if_pos c_144, if_pos c_161]), (by rw [← e_71, lp_travel_co_4]; simp only [if_neg c_78, if_neg c_96, if_pos c_144, if_pos c_161]), (by rw [← e_72, lp_travel_co_5]; simp only [if_neg c_78, if_neg c_96, if_pos c_144, if_pos c_161]), (by rw [← e_73, lp_travel_la]; simp only [if_neg c_78, if_neg c_96, if_pos c_144, if_pos c_161]), (by rw [← e_74, lp_travel_pe]; simp only [if_neg c_78, if_neg c_96, if_pos c_144, if_pos c_161]), (by rw [← e_75, lp_travel_tu]; simp only [if_neg c_78, if_neg c_96, if_pos c_144, if_pos c_161]), (by rw [← e_76, lp_travel_va]; simp only [if_neg c_78, if_neg c_96, if_pos c_144, if_pos c_161]), (by rw [← e_77, lp_travel_ra]; simp only [if_neg c_78, if_neg c_96, if_pos c_144, if_pos c_161])⟩
          · have i_179 := mt Int32.toInt_inj.mp c_161
            refine V.wr (pc' := 109) (lv' := [(5, .int (k + 1)), (4, .int (sp_doing np dd g nx)), (7, .int (sp_performedBy np dd nx)), (6, .int nx), (0, .ref co), (1, .int x), (2, .long steps)]) (fun hl => lv_iinc (k := 6) (v := k + 1) X.1 X.2.1 d_Course_travel_106 hl rfl rfl (by decide) rfl) ?_
            have s_180 : (k + 1).toInt = k.toInt + (1) := i32_add1 (by omega)
            refine V.go (pc' := 31) (lv_goto X.1 X.2.1 d_Course_travel_109 (by decide)) ?_
            refine V.pick [4, 5, 6, 1, 0] rfl ?_
            exact ih_63 n_62 (by omega) () _ _ ⟨(sp_doing np dd g nx), (k + 1), (sp_doing_va np dd g nx), h2, hi2, (sp_doing_co_5 en2 np dd g nx), ud2, pd2, lo2, (sp_note_ra rd2 k nx), rfl, h_150, h_151, h_152, h_153, h_154, h_159, h_155, h_156, h_157, h_158, h_147, h_148, hp_160, (fun q n0_ n1_ n2_ n3_ n4_ n5_ n6_ => (fr_149 q n0_ n2_).trans ((fr_130 q n6_).trans ((fr_66 q n0_ n1_ n2_ n3_ n4_ n5_ n6_)))), (by omega), (by omega), hlo2, (by rw [← e_68, lp_travel]; simp only [if_neg c_78, if_neg c_96, if_pos c_144, if_neg c_161]), (by rw [← e_69, lp_travel_pi_3]; simp only [if_neg c_78, if_neg c_96, if_pos c_144, if_neg c_161]), (by rw [← e_70, lp_travel_pi_4]; simp only [if_neg c_78, if_neg c_96, if_pos c_144, if_neg c_161]), (by rw [← e_71, lp_travel_co_4]; simp only [if_neg c_78, if_neg c_96, if_pos c_144, if_neg c_161]), (by rw [← e_72, lp_travel_co_5]; simp only [if_neg c_78, if_neg c_96, if_pos c_144, if_neg c_161]), (by rw [← e_73, lp_travel_la]; simp only [if_neg c_78, if_neg c_96, if_pos c_144, if_neg c_161]), (by rw [← e_74, lp_travel_pe]; simp only [if_neg c_78, if_neg c_96, if_pos c_144, if_neg c_161]), (by rw [← e_75, lp_travel_tu]; simp only [if_neg c_78, if_neg c_96, if_pos c_144, if_neg c_161]), (by rw [← e_76, lp_travel_va]; simp only [if_neg c_78, if_neg c_96, if_pos c_144, if_neg c_161]), (by rw [← e_77, lp_travel_ra]; simp only [if_neg c_78, if_neg c_96, if_pos c_144, if_neg c_161])⟩
        · have i_181 := mt Int32.toInt_inj.mp c_144
          refine V.rd (pc' := 83) (fun hl => lv_aload_n X.1 X.2.1 d_Course_travel_82 rfl (lv_at hl 2 rfl)) ?_
          refine V.rd (pc' := 85) (fun hl => lv_iload X.1 X.2.1 d_Course_travel_83 (lv_at hl 0 rfl)) ?_
          refine V.rd (pc' := 87) (fun hl => lv_iload X.1 X.2.1 d_Course_travel_85 (lv_at hl 1 rfl)) ?_
          refine V.callV (pc' := 90) X hK (c_performing  (co := co) (pg := pg) (ce := ce) (pi := pi) (ra := ra) (va := va) (dg := dg) (gg := gg) (tg0 := tg0) (la := la) (pe := pe) (tu := tu) (ln := ln) (en := en2) (np := np) (ns := ns) (hh := h2) (hi := hi2) (f := g) (lo := lo2) (pd := pd2) (ud := ud2) (x := sp_performedBy np dd nx) (y := nx)  ne0 h_141 h_131 h_140 h_132 h_135 h_139 h_136 h_137 h_138 hp_142 hσ) h_141 rfl (cwG (n := 2) X (mcs wd_146) (mcs wd_147) (mcs wd_148) (mcs wd_92) wd_149 (by decide +kernel) (by decide) (by decide)) rfl rfl (Nat.le_of_ble_eq_true rfl) d_Course_travel_87 ⟨by decide, by decide⟩ rfl (st1 := [.int (sp_performing ns h2 g (sp_performedBy np dd nx) σ)]) rfl (fun M_182 ⟨h_183, h_184, h_185, h_186, h_187, h_188, fr_189⟩ => ?_)
          have h_190 : M_182 ce = some (.inr (0, [.ref va])) := (fr_189 _ (ne_k h_131 h_141 (i := 0) (j := 1) rfl rfl (by decide)) (ne_k h_131 h_136 (i := 0) (j := 10000100) rfl rfl (by decide)) (ne_k h_131 h_137 (i := 0) (j := 1100) rfl rfl (by decide)) (ne_k h_131 h_138 (i := 0) (j := 1100) rfl rfl (by decide)) (ne_k h_131 h_139 (i := 0) (j := 2) rfl rfl (by decide)) (ne_k h_131 h_140 (i := 0) (j := 100016) rfl rfl (by decide))).trans h_131
          have h_191 : M_182 pg = some (.inr (3, [.ref dg, .ref gg, .ref tg0, .int np, .int ns])) := (fr_189 _ (ne_k h_132 h_141 (i := 3) (j := 1) rfl rfl (by decide)) (ne_k h_132 h_136 (i := 3) (j := 10000100) rfl rfl (by decide)) (ne_k h_132 h_137 (i := 3) (j := 1100) rfl rfl (by decide)) (ne_k h_132 h_138 (i := 3) (j := 1100) rfl rfl (by decide)) (ne_k h_132 h_139 (i := 3) (j := 2) rfl rfl (by decide)) (ne_k h_132 h_140 (i := 3) (j := 100016) rfl rfl (by decide))).trans h_132
          have h_192 : M_182 dg = some (.inl (cI, 60, .inl dd)) := (fr_189 _ (ne_k h_133 h_141 (i := 1060) (j := 1) rfl rfl (by decide)) (ne_k h_133 h_136 (i := 1060) (j := 10000100) rfl rfl (by decide)) (ne_k h_133 h_137 (i := 1060) (j := 1100) rfl rfl (by decide)) (ne_k h_133 h_138 (i := 1060) (j := 1100) rfl rfl (by decide)) (ne_k h_133 h_139 (i := 1060) (j := 2) rfl rfl (by decide)) (ne_k h_133 h_140 (i := 1060) (j := 100016) rfl rfl (by decide))).trans h_133
          have h_193 : M_182 gg = some (.inl (cI, 60, .inl gd)) := (fr_189 _ (ne_k h_134 h_141 (i := 1060) (j := 1) rfl rfl (by decide)) (ne_k h_134 h_136 (i := 1060) (j := 10000100) rfl rfl (by decide)) (ne_k h_134 h_137 (i := 1060) (j := 1100) rfl rfl (by decide)) (ne_k h_134 h_138 (i := 1060) (j := 1100) rfl rfl (by decide)) (ne_k h_134 h_139 (i := 1060) (j := 2) rfl rfl (by decide)) (ne_k h_134 h_140 (i := 1060) (j := 100016) rfl rfl (by decide))).trans h_134
          have h_194 : M_182 tg0 = some (.inl (cQ, 60, .inr (.inr (.inr (.inr (tdOf ns sa)))))) := (fr_189 _ (ne_k h_135 h_141 (i := 10000060) (j := 1) rfl rfl (by decide)) (ne_k h_135 h_136 (i := 10000060) (j := 10000100) rfl rfl (by decide)) (ne_k h_135 h_137 (i := 10000060) (j := 1100) rfl rfl (by decide)) (ne_k h_135 h_138 (i := 10000060) (j := 1100) rfl rfl (by decide)) (ne_k h_135 h_139 (i := 10000060) (j := 2) rfl rfl (by decide)) (ne_k h_135 h_140 (i := 10000060) (j := 100016) rfl rfl (by decide))).trans h_135
          have h_195 : M_182 ra = some (.inl (cI, 4096, .inl (sp_note_ra rd2 k nx))) := (fr_189 _ (ne_k h_129 h_141 (i := 5096) (j := 1) rfl rfl (by decide)) (ne_k h_129 h_136 (i := 5096) (j := 10000100) rfl rfl (by decide)) (ne_k h_129 h_137 (i := 5096) (j := 1100) rfl rfl (by decide)) (ne_k h_129 h_138 (i := 5096) (j := 1100) rfl rfl (by decide)) (ne_k h_129 h_139 (i := 5096) (j := 2) rfl rfl (by decide)) (ne_k h_129 h_140 (i := 5096) (j := 100016) rfl rfl (by decide))).trans h_129
          have hp_196 := hp_142.keep (M' := M_182) (fun q e he ht => fr_189 q (ne_p he ht h_141 (j := 1) rfl (by decide)) (ne_p he ht h_136 (j := 10000100) rfl (by decide)) (ne_p he ht h_137 (j := 1100) rfl (by decide)) (ne_p he ht h_138 (j := 1100) rfl (by decide)) (ne_p he ht h_139 (j := 2) rfl (by decide)) (ne_p he ht h_140 (j := 100016) rfl (by decide)))
          have hlo_197 : ∀ k j : Nat, (sp_performing_la ns h2 lo2 (sp_performedBy np dd nx) σ) k = some j → (j : Int) < ns.toInt := perf_lo hlo2
          refine V.wr (pc' := 92) (lv' := [(4, .int (sp_performing ns h2 g (sp_performedBy np dd nx) σ)), (7, .int (sp_performedBy np dd nx)), (6, .int nx), (0, .ref co), (1, .int x), (2, .long steps), (5, .int k)]) (fun hl => lv_istore X.1 X.2.1 d_Course_travel_90 hl (by decide) rfl) ?_
          refine V.rd (pc' := 94) (fun hl => lv_iload X.1 X.2.1 d_Course_travel_92 (lv_at hl 0 rfl)) ?_
          refine V.go (pc' := 95) (lv_iconst (v := (-1)) X.1 X.2.1 d_Course_travel_94 (by decide)) ?_
          refine V.bn (pc' := 98) (tgt := 106) (P := (sp_performing ns h2 g (sp_performedBy np dd nx) σ) = (-1)) (lv_icmp_ne X.1 X.2.1 d_Course_travel_95 (by decide)) (fun c_198 => ?_) (fun c_198 => ?_)
          · have i_199 := congrArg Int32.toInt c_198
            refine V.rd (pc' := 99) (fun hl => lv_aload_n X.1 X.2.1 d_Course_travel_98 rfl (lv_at hl 3 rfl)) ?_
            refine V.rd (pc' := 101) (fun hl => lv_iload X.1 X.2.1 d_Course_travel_99 (lv_at hl 2 rfl)) ?_
            refine V.callV (pc' := 104) X hK (c_behindDoing  (co := co) (pg := pg) (ce := ce) (pi := pi) (ra := ra) (va := va) (dg := dg) (gg := gg) (tg0 := tg0) (la := la) (pe := pe) (tu := tu) (ln := ln) (en := sp_performing_co_5 en2 ns h2 (sp_performedBy np dd nx) σ) (np := np) (ns := ns) (hh := sp_performing_pi_3 ns h2 g (sp_performedBy np dd nx) σ) (hi := sp_performing_pi_4 ns h2 hi2 g (sp_performedBy np dd nx) σ) (gd := gd) (f := sp_performing_va ns h2 g (sp_performedBy np dd nx) σ) (lo := (sp_performing_la ns h2 lo2 (sp_performedBy np dd nx) σ)) (pd := sp_performing_pe ns h2 pd2 (sp_performedBy np dd nx) nx σ) (ud := sp_performing_tu ns h2 ud2 (sp_performedBy np dd nx) σ) (x := nx)  ne0 h_183 h_190 h_188 h_191 h_193 h_187 h_184 h_185 h_186 hp_196 hσ hlo_197) h_183 rfl (cwG (n := 1) X (mcs wd_163) (mcs wd_164) (mcs wd_165) (mcs wd_92) wd_166 (by decide +kernel) (by decide) (by decide)) rfl rfl (Nat.le_of_ble_eq_true rfl) d_Course_travel_101 ⟨by decide, by decide⟩ rfl (st1 := [.int (lp_behindDoing np gd (sp_performing_la ns h2 lo2 (sp_performedBy np dd nx) σ) (sp_performing_pe ns h2 pd2 (sp_performedBy np dd nx) nx σ) σ 101 nx 0 (sp_performing_va ns h2 g (sp_performedBy np dd nx) σ) (sp_performing_pi_3 ns h2 g (sp_performedBy np dd nx) σ) (sp_performing_tu ns h2 ud2 (sp_performedBy np dd nx) σ))]) rfl (fun M_200 ⟨h_201, h_202, h_203, h_204, fr_205⟩ => ?_)
            have h_206 : M_200 ce = some (.inr (0, [.ref va])) := (fr_205 _ (ne_k h_190 h_183 (i := 0) (j := 1) rfl rfl (by decide)) (ne_k h_190 h_186 (i := 0) (j := 1100) rfl rfl (by decide)) (ne_k h_190 h_188 (i := 0) (j := 100016) rfl rfl (by decide)) (ne_k h_190 h_187 (i := 0) (j := 2) rfl rfl (by decide))).trans h_190
            have h_207 : M_200 pg = some (.inr (3, [.ref dg, .ref gg, .ref tg0, .int np, .int ns])) := (fr_205 _ (ne_k h_191 h_183 (i := 3) (j := 1) rfl rfl (by decide)) (ne_k h_191 h_186 (i := 3) (j := 1100) rfl rfl (by decide)) (ne_k h_191 h_188 (i := 3) (j := 100016) rfl rfl (by decide)) (ne_k h_191 h_187 (i := 3) (j := 2) rfl rfl (by decide))).trans h_191
            have h_208 : M_200 dg = some (.inl (cI, 60, .inl dd)) := (fr_205 _ (ne_k h_192 h_183 (i := 1060) (j := 1) rfl rfl (by decide)) (ne_k h_192 h_186 (i := 1060) (j := 1100) rfl rfl (by decide)) (ne_k h_192 h_188 (i := 1060) (j := 100016) rfl rfl (by decide)) (ne_k h_192 h_187 (i := 1060) (j := 2) rfl rfl (by decide))).trans h_192
            have h_209 : M_200 gg = some (.inl (cI, 60, .inl gd)) := (fr_205 _ (ne_k h_193 h_183 (i := 1060) (j := 1) rfl rfl (by decide)) (ne_k h_193 h_186 (i := 1060) (j := 1100) rfl rfl (by decide)) (ne_k h_193 h_188 (i := 1060) (j := 100016) rfl rfl (by decide)) (ne_k h_193 h_187 (i := 1060) (j := 2) rfl rfl (by decide))).trans h_193
            have h_210 : M_200 tg0 = some (.inl (cQ, 60, .inr (.inr (.inr (.inr (tdOf ns sa)))))) := (fr_205 _ (ne_k h_194 h_183 (i := 10000060) (j := 1) rfl rfl (by decide)) (ne_k h_194 h_186 (i := 10000060) (j := 1100) rfl rfl (by decide)) (ne_k h_194 h_188 (i := 10000060) (j := 100016) rfl rfl (by decide)) (ne_k h_194 h_187 (i := 10000060) (j := 2) rfl rfl (by decide))).trans h_194
            have h_211 : M_200 ra = some (.inl (cI, 4096, .inl (sp_note_ra rd2 k nx))) := (fr_205 _ (ne_k h_195 h_183 (i := 5096) (j := 1) rfl rfl (by decide)) (ne_k h_195 h_186 (i := 5096) (j := 1100) rfl rfl (by decide)) (ne_k h_195 h_188 (i := 5096) (j := 100016) rfl rfl (by decide)) (ne_k h_195 h_187 (i := 5096) (j := 2) rfl rfl (by decide))).trans h_195
            have h_212 : M_200 la = some (.inl (cQ, 100, .inr (.inr (.inr (.inr (lq (sp_performing_la ns h2 lo2 (sp_performedBy np dd nx) σ) sa)))))) := (fr_205 _ (ne_k h_184 h_183 (i := 10000100) (j := 1) rfl rfl (by decide)) (ne_k h_184 h_186 (i := 10000100) (j := 1100) rfl rfl (by decide)) (ne_k h_184 h_188 (i := 10000100) (j := 100016) rfl rfl (by decide)) (ne_k h_184 h_187 (i := 10000100) (j := 2) rfl rfl (by decide))).trans h_184
            have h_213 : M_200 pe = some (.inl (cI, 100, .inl (sp_performing_pe ns h2 pd2 (sp_performedBy np dd nx) nx σ))) := (fr_205 _ (ne_k h_185 h_183 (i := 1100) (j := 1) rfl rfl (by decide)) ne0 (ne_k h_185 h_188 (i := 1100) (j := 100016) rfl rfl (by decide)) (ne_k h_185 h_187 (i := 1100) (j := 2) rfl rfl (by decide))).trans h_185
            have hp_214 := hp_196.keep (M' := M_200) (fun q e he ht => fr_205 q (ne_p he ht h_183 (j := 1) rfl (by decide)) (ne_p he ht h_186 (j := 1100) rfl (by decide)) (ne_p he ht h_188 (j := 100016) rfl (by decide)) (ne_p he ht h_187 (j := 2) rfl (by decide)))
            refine V.wr (pc' := 106) (lv' := [(4, .int (lp_behindDoing np gd (sp_performing_la ns h2 lo2 (sp_performedBy np dd nx) σ) (sp_performing_pe ns h2 pd2 (sp_performedBy np dd nx) nx σ) σ 101 nx 0 (sp_performing_va ns h2 g (sp_performedBy np dd nx) σ) (sp_performing_pi_3 ns h2 g (sp_performedBy np dd nx) σ) (sp_performing_tu ns h2 ud2 (sp_performedBy np dd nx) σ))), (7, .int (sp_performedBy np dd nx)), (6, .int nx), (0, .ref co), (1, .int x), (2, .long steps), (5, .int k)]) (fun hl => lv_istore X.1 X.2.1 d_Course_travel_104 hl (by decide) rfl) ?_
            refine V.wr (pc' := 109) (lv' := [(5, .int (k + 1)), (4, .int (lp_behindDoing np gd (sp_performing_la ns h2 lo2 (sp_performedBy np dd nx) σ) (sp_performing_pe ns h2 pd2 (sp_performedBy np dd nx) nx σ) σ 101 nx 0 (sp_performing_va ns h2 g (sp_performedBy np dd nx) σ) (sp_performing_pi_3 ns h2 g (sp_performedBy np dd nx) σ) (sp_performing_tu ns h2 ud2 (sp_performedBy np dd nx) σ))), (7, .int (sp_performedBy np dd nx)), (6, .int nx), (0, .ref co), (1, .int x), (2, .long steps)]) (fun hl => lv_iinc (k := 6) (v := k + 1) X.1 X.2.1 d_Course_travel_106 hl rfl rfl (by decide) rfl) ?_
            have s_215 : (k + 1).toInt = k.toInt + (1) := i32_add1 (by omega)
            refine V.go (pc' := 31) (lv_goto X.1 X.2.1 d_Course_travel_109 (by decide)) ?_
            refine V.pick [4, 5, 6, 1, 0] rfl ?_
            exact ih_63 n_62 (by omega) () _ _ ⟨(lp_behindDoing np gd (sp_performing_la ns h2 lo2 (sp_performedBy np dd nx) σ) (sp_performing_pe ns h2 pd2 (sp_performedBy np dd nx) nx σ) σ 101 nx 0 (sp_performing_va ns h2 g (sp_performedBy np dd nx) σ) (sp_performing_pi_3 ns h2 g (sp_performedBy np dd nx) σ) (sp_performing_tu ns h2 ud2 (sp_performedBy np dd nx) σ)), (k + 1), (lp_behindDoing_va np gd (sp_performing_la ns h2 lo2 (sp_performedBy np dd nx) σ) (sp_performing_pe ns h2 pd2 (sp_performedBy np dd nx) nx σ) σ 101 nx 0 (sp_performing_va ns h2 g (sp_performedBy np dd nx) σ) (sp_performing_pi_3 ns h2 g (sp_performedBy np dd nx) σ) (sp_performing_tu ns h2 ud2 (sp_performedBy np dd nx) σ)), (lp_behindDoing_pi_3 np gd (sp_performing_la ns h2 lo2 (sp_performedBy np dd nx) σ) (sp_performing_pe ns h2 pd2 (sp_performedBy np dd nx) nx σ) σ 101 nx 0 (sp_performing_va ns h2 g (sp_performedBy np dd nx) σ) (sp_performing_pi_3 ns h2 g (sp_performedBy np dd nx) σ) (sp_performing_tu ns h2 ud2 (sp_performedBy np dd nx) σ)), (sp_performing_pi_4 ns h2 hi2 g (sp_performedBy np dd nx) σ), (lp_behindDoing_co_5 (sp_performing_co_5 en2 ns h2 (sp_performedBy np dd nx) σ) np gd (sp_performing_la ns h2 lo2 (sp_performedBy np dd nx) σ) (sp_performing_pe ns h2 pd2 (sp_performedBy np dd nx) nx σ) σ 101 nx 0 (sp_performing_va ns h2 g (sp_performedBy np dd nx) σ) (sp_performing_pi_3 ns h2 g (sp_performedBy np dd nx) σ) (sp_performing_tu ns h2 ud2 (sp_performedBy np dd nx) σ)), (lp_behindDoing_tu np gd (sp_performing_la ns h2 lo2 (sp_performedBy np dd nx) σ) (sp_performing_pe ns h2 pd2 (sp_performedBy np dd nx) nx σ) σ 101 nx 0 (sp_performing_va ns h2 g (sp_performedBy np dd nx) σ) (sp_performing_pi_3 ns h2 g (sp_performedBy np dd nx) σ) (sp_performing_tu ns h2 ud2 (sp_performedBy np dd nx) σ)), (sp_performing_pe ns h2 pd2 (sp_performedBy np dd nx) nx σ), (sp_performing_la ns h2 lo2 (sp_performedBy np dd nx) σ), (sp_note_ra rd2 k nx), rfl, h_206, h_207, h_208, h_209, h_210, h_211, h_212, h_213, h_202, h_204, h_203, h_201, hp_214, (fun q n0_ n1_ n2_ n3_ n4_ n5_ n6_ => (fr_205 q n2_ n3_ n0_ n1_).trans ((fr_189 q n2_ n5_ n4_ n3_ n1_ n0_).trans ((fr_130 q n6_).trans ((fr_66 q n0_ n1_ n2_ n3_ n4_ n5_ n6_))))), (by omega), (by omega), hlo_197, (by rw [← e_68, lp_travel]; simp only [if_neg c_78, if_neg c_96, if_neg c_144, if_pos c_198]), (by rw [← e_69, lp_travel_pi_3]; simp only [if_neg c_78, if_neg c_96, if_neg c_144, if_pos c_198]), (by rw [← e_70, lp_travel_pi_4]; simp only [if_neg c_78, if_neg c_96, if_neg c_144, if_pos c_198]), (by rw [← e_71, lp_travel_co_4]; simp only [if_neg c_78, if_neg c_96, if_neg c_144, if_pos c_198]), (by rw [← e_72, lp_travel_co_5]; simp only [if_neg c_78, if_neg c_96, if_neg c_144, if_pos c_198]), (by rw [← e_73, lp_travel_la]; simp only [if_neg c_78, if_neg c_96, if_neg c_144, if_pos c_198]), (by rw [← e_74, lp_travel_pe]; simp only [if_neg c_78, if_neg c_96, if_neg c_144, if_pos c_198]), (by rw [← e_75, lp_travel_tu]; simp only [if_neg c_78, if_neg c_96, if_neg c_144, if_pos c_198]), (by rw [← e_76, lp_travel_va]; simp only [if_neg c_78, if_neg c_96, if_neg c_144, if_pos c_198]), (by rw [← e_77, lp_travel_ra]; simp only [if_neg c_78, if_neg c_96, if_neg c_144, if_pos c_198])⟩
          · have i_216 := mt Int32.toInt_inj.mp c_198
            refine V.wr (pc' := 109) (lv' := [(5, .int (k + 1)), (4, .int (sp_performing ns h2 g (sp_performedBy np dd nx) σ)), (7, .int (sp_performedBy np dd nx)), (6, .int nx), (0, .ref co), (1, .int x), (2, .long steps)]) (fun hl => lv_iinc (k := 6) (v := k + 1) X.1 X.2.1 d_Course_travel_106 hl rfl rfl (by decide) rfl) ?_
            have s_217 : (k + 1).toInt = k.toInt + (1) := i32_add1 (by omega)
            refine V.go (pc' := 31) (lv_goto X.1 X.2.1 d_Course_travel_109 (by decide)) ?_
            refine V.pick [4, 5, 6, 1, 0] rfl ?_
            exact ih_63 n_62 (by omega) () _ _ ⟨(sp_performing ns h2 g (sp_performedBy np dd nx) σ), (k + 1), (sp_performing_va ns h2 g (sp_performedBy np dd nx) σ), (sp_performing_pi_3 ns h2 g (sp_performedBy np dd nx) σ), (sp_performing_pi_4 ns h2 hi2 g (sp_performedBy np dd nx) σ), (sp_performing_co_5 en2 ns h2 (sp_performedBy np dd nx) σ), (sp_performing_tu ns h2 ud2 (sp_performedBy np dd nx) σ), (sp_performing_pe ns h2 pd2 (sp_performedBy np dd nx) nx σ), (sp_performing_la ns h2 lo2 (sp_performedBy np dd nx) σ), (sp_note_ra rd2 k nx), rfl, h_190, h_191, h_192, h_193, h_194, h_195, h_184, h_185, h_186, h_187, h_188, h_183, hp_196, (fun q n0_ n1_ n2_ n3_ n4_ n5_ n6_ => (fr_189 q n2_ n5_ n4_ n3_ n1_ n0_).trans ((fr_130 q n6_).trans ((fr_66 q n0_ n1_ n2_ n3_ n4_ n5_ n6_)))), (by omega), (by omega), hlo_197, (by rw [← e_68, lp_travel]; simp only [if_neg c_78, if_neg c_96, if_neg c_144, if_neg c_198]), (by rw [← e_69, lp_travel_pi_3]; simp only [if_neg c_78, if_neg c_96, if_neg c_144, if_neg c_198]), (by rw [← e_70, lp_travel_pi_4]; simp only [if_neg c_78, if_neg c_96, if_neg c_144, if_neg c_198]), (by rw [← e_71, lp_travel_co_4]; simp only [if_neg c_78, if_neg c_96, if_neg c_144, if_neg c_198]), (by rw [← e_72, lp_travel_co_5]; simp only [if_neg c_78, if_neg c_96, if_neg c_144, if_neg c_198]), (by rw [← e_73, lp_travel_la]; simp only [if_neg c_78, if_neg c_96, if_neg c_144, if_neg c_198]), (by rw [← e_74, lp_travel_pe]; simp only [if_neg c_78, if_neg c_96, if_neg c_144, if_neg c_198]), (by rw [← e_75, lp_travel_tu]; simp only [if_neg c_78, if_neg c_96, if_neg c_144, if_neg c_198]), (by rw [← e_76, lp_travel_va]; simp only [if_neg c_78, if_neg c_96, if_neg c_144, if_neg c_198]), (by rw [← e_77, lp_travel_ra]; simp only [if_neg c_78, if_neg c_96, if_neg c_144, if_neg c_198])⟩
  · have i_218 := mt Int32.toInt_inj.mp c_32
    refine V.go (pc' := 29) (lv_iconst (v := 0) X.1 X.2.1 d_Course_travel_28 (by decide)) ?_
    refine V.wr (pc' := 31) (lv' := [(5, .int 0), (4, .int (sp_performing ns 0 f x σ)), (0, .ref co), (1, .int x), (2, .long steps)]) (fun hl => lv_istore X.1 X.2.1 d_Course_travel_29 hl (by decide) rfl) ?_
    obtain ⟨ze_238, hze_238⟩ : ∃ z, z = lp_travel np ns dd gd steps σ 4097 (sp_performing ns 0 f x σ) 0 (sp_performing_va ns 0 f x σ) (sp_performing_pi_3 ns 0 f x σ) (sp_performing_pi_4 ns 0 hi f x σ) (sp_performing_co_5 en ns 0 x σ) (sp_performing_tu ns 0 ud x σ) (sp_performing_pe ns 0 pd x 0 σ) (sp_performing_la ns 0 lo x σ) rd := ⟨_, rfl⟩
    obtain ⟨ze_239, hze_239⟩ : ∃ z, z = lp_travel_pi_3 np ns dd gd steps σ 4097 (sp_performing ns 0 f x σ) 0 (sp_performing_va ns 0 f x σ) (sp_performing_pi_3 ns 0 f x σ) (sp_performing_pi_4 ns 0 hi f x σ) (sp_performing_co_5 en ns 0 x σ) (sp_performing_tu ns 0 ud x σ) (sp_performing_pe ns 0 pd x 0 σ) (sp_performing_la ns 0 lo x σ) rd := ⟨_, rfl⟩
    obtain ⟨ze_240, hze_240⟩ : ∃ z, z = lp_travel_pi_4 np ns dd gd steps σ 4097 (sp_performing ns 0 f x σ) 0 (sp_performing_va ns 0 f x σ) (sp_performing_pi_3 ns 0 f x σ) (sp_performing_pi_4 ns 0 hi f x σ) (sp_performing_co_5 en ns 0 x σ) (sp_performing_tu ns 0 ud x σ) (sp_performing_pe ns 0 pd x 0 σ) (sp_performing_la ns 0 lo x σ) rd := ⟨_, rfl⟩
    obtain ⟨ze_241, hze_241⟩ : ∃ z, z = lp_travel_co_4 ln np ns dd gd steps σ 4097 (sp_performing ns 0 f x σ) 0 (sp_performing_va ns 0 f x σ) (sp_performing_pi_3 ns 0 f x σ) (sp_performing_pi_4 ns 0 hi f x σ) (sp_performing_co_5 en ns 0 x σ) (sp_performing_tu ns 0 ud x σ) (sp_performing_pe ns 0 pd x 0 σ) (sp_performing_la ns 0 lo x σ) rd := ⟨_, rfl⟩
    obtain ⟨ze_242, hze_242⟩ : ∃ z, z = lp_travel_co_5 np ns dd gd steps σ 4097 (sp_performing ns 0 f x σ) 0 (sp_performing_va ns 0 f x σ) (sp_performing_pi_3 ns 0 f x σ) (sp_performing_pi_4 ns 0 hi f x σ) (sp_performing_co_5 en ns 0 x σ) (sp_performing_tu ns 0 ud x σ) (sp_performing_pe ns 0 pd x 0 σ) (sp_performing_la ns 0 lo x σ) rd := ⟨_, rfl⟩
    obtain ⟨ze_243, hze_243⟩ : ∃ z, z = lp_travel_la np ns dd gd steps σ 4097 (sp_performing ns 0 f x σ) 0 (sp_performing_va ns 0 f x σ) (sp_performing_pi_3 ns 0 f x σ) (sp_performing_pi_4 ns 0 hi f x σ) (sp_performing_co_5 en ns 0 x σ) (sp_performing_tu ns 0 ud x σ) (sp_performing_pe ns 0 pd x 0 σ) (sp_performing_la ns 0 lo x σ) rd := ⟨_, rfl⟩
    obtain ⟨ze_244, hze_244⟩ : ∃ z, z = lp_travel_pe np ns dd gd steps σ 4097 (sp_performing ns 0 f x σ) 0 (sp_performing_va ns 0 f x σ) (sp_performing_pi_3 ns 0 f x σ) (sp_performing_pi_4 ns 0 hi f x σ) (sp_performing_co_5 en ns 0 x σ) (sp_performing_tu ns 0 ud x σ) (sp_performing_pe ns 0 pd x 0 σ) (sp_performing_la ns 0 lo x σ) rd := ⟨_, rfl⟩
    obtain ⟨ze_245, hze_245⟩ : ∃ z, z = lp_travel_tu np ns dd gd steps σ 4097 (sp_performing ns 0 f x σ) 0 (sp_performing_va ns 0 f x σ) (sp_performing_pi_3 ns 0 f x σ) (sp_performing_pi_4 ns 0 hi f x σ) (sp_performing_co_5 en ns 0 x σ) (sp_performing_tu ns 0 ud x σ) (sp_performing_pe ns 0 pd x 0 σ) (sp_performing_la ns 0 lo x σ) rd := ⟨_, rfl⟩
    obtain ⟨ze_246, hze_246⟩ : ∃ z, z = lp_travel_va np ns dd gd steps σ 4097 (sp_performing ns 0 f x σ) 0 (sp_performing_va ns 0 f x σ) (sp_performing_pi_3 ns 0 f x σ) (sp_performing_pi_4 ns 0 hi f x σ) (sp_performing_co_5 en ns 0 x σ) (sp_performing_tu ns 0 ud x σ) (sp_performing_pe ns 0 pd x 0 σ) (sp_performing_la ns 0 lo x σ) rd := ⟨_, rfl⟩
    obtain ⟨ze_247, hze_247⟩ : ∃ z, z = lp_travel_ra np ns dd gd steps σ 4097 (sp_performing ns 0 f x σ) 0 (sp_performing_va ns 0 f x σ) (sp_performing_pi_3 ns 0 f x σ) (sp_performing_pi_4 ns 0 hi f x σ) (sp_performing_co_5 en ns 0 x σ) (sp_performing_tu ns 0 ud x σ) (sp_performing_pe ns 0 pd x 0 σ) (sp_performing_la ns 0 lo x σ) rd := ⟨_, rfl⟩
    refine V.pick [2, 3, 4, 1, 0] rfl ?_
    refine V.ind (α := Unit) (x0 := ()) (n0 := 4097) (I := fun nn_ _ M' lv' => ∃ (nx : Int32) (k : Int32) (g : Nat → Int64) (h2 : Int32) (hi2 : Int32) (en2 : Int32) (ud2 : Nat → Int32) (pd2 : Nat → Int32) (lo2 : Nat → Option Nat) (rd2 : Nat → Int32), lv' = [(0, .ref co), (1, .int x), (2, .long steps), (4, .int nx), (5, .int k)] ∧ M' ce = some (.inr (0, [.ref va])) ∧ M' pg = some (.inr (3, [.ref dg, .ref gg, .ref tg0, .int np, .int ns])) ∧ M' dg = some (.inl (cI, 60, .inl dd)) ∧ M' gg = some (.inl (cI, 60, .inl gd)) ∧ M' tg0 = some (.inl (cQ, 60, .inr (.inr (.inr (.inr (tdOf ns sa)))))) ∧ M' ra = some (.inl (cI, 4096, .inl rd2)) ∧ M' co = some (.inr (1, [.ref pg, .ref ce, .ref pi, .ref ra, .int ln, .int en2])) ∧ M' la = some (.inl (cQ, 100, .inr (.inr (.inr (.inr (lq lo2 sa)))))) ∧ M' pe = some (.inl (cI, 100, .inl pd2)) ∧ M' tu = some (.inl (cI, 100, .inl ud2)) ∧ M' pi = some (.inr (2, [.ref la, .ref pe, .ref tu, .int h2, .int hi2])) ∧ M' va = some (.inl (cL, 16, .inr (.inl g))) ∧ SP cI cL M' ns sa u1 u2 u3 u4 u5 σ ∧ (∀ q, q ≠ va → q ≠ pi → q ≠ co → q ≠ tu → q ≠ pe → q ≠ la → q ≠ ra → M' q = M_16 q) ∧ (0 ≤ k.toInt ∧ k.toInt ≤ 4096) ∧ (k.toInt + nn_ = 4097) ∧ (∀ k j : Nat, lo2 k = some j → (j : Int) < ns.toInt) ∧ lp_travel np ns dd gd steps σ nn_ nx k g h2 hi2 en2 ud2 pd2 lo2 rd2 = ze_238 ∧ lp_travel_pi_3 np ns dd gd steps σ nn_ nx k g h2 hi2 en2 ud2 pd2 lo2 rd2 = ze_239 ∧ lp_travel_pi_4 np ns dd gd steps σ nn_ nx k g h2 hi2 en2 ud2 pd2 lo2 rd2 = ze_240 ∧ lp_travel_co_4 ln np ns dd gd steps σ nn_ nx k g h2 hi2 en2 ud2 pd2 lo2 rd2 = ze_241 ∧ lp_travel_co_5 np ns dd gd steps σ nn_ nx k g h2 hi2 en2 ud2 pd2 lo2 rd2 = ze_242 ∧ lp_travel_la np ns dd gd steps σ nn_ nx k g h2 hi2 en2 ud2 pd2 lo2 rd2 = ze_243 ∧ lp_travel_pe np ns dd gd steps σ nn_ nx k g h2 hi2 en2 ud2 pd2 lo2 rd2 = ze_244 ∧ lp_travel_tu np ns dd gd steps σ nn_ nx k g h2 hi2 en2 ud2 pd2 lo2 rd2 = ze_245 ∧ lp_travel_va np ns dd gd steps σ nn_ nx k g h2 hi2 en2 ud2 pd2 lo2 rd2 = ze_246 ∧ lp_travel_ra np ns dd gd steps σ nn_ nx k g h2 hi2 en2 ud2 pd2 lo2 rd2 = ze_247) ⟨(sp_performing ns 0 f x σ), 0, (sp_performing_va ns 0 f x σ), (sp_performing_pi_3 ns 0 f x σ), (sp_performing_pi_4 ns 0 hi f x σ), (sp_performing_co_5 en ns 0 x σ), (sp_performing_tu ns 0 ud x σ), (sp_performing_pe ns 0 pd x 0 σ), (sp_performing_la ns 0 lo x σ), rd, rfl, h_24, h_25, h_26, h_27, h_28, h_29, h_17, h_18, h_19, h_20, h_21, h_22, hp_30, (fun q _ _ _ _ _ _ _ => rfl), (by omega), (by omega), hlo_31, hze_238.symm, hze_239.symm, hze_240.symm, hze_241.symm, hze_242.symm, hze_243.symm, hze_244.symm, hze_245.symm, hze_246.symm, hze_247.symm⟩ (fun n_232 ih_233 _ M_231 lv_234 hI_235 => ?_)
    obtain ⟨nx, k, g, h2, hi2, en2, ud2, pd2, lo2, rd2, rfl, h_219, h_220, h_221, h_222, h_223, h_224, h_225, h_226, h_227, h_228, h_229, h_230, hp_237, fr_236, j1, j2, hlo2, e_238, e_239, e_240, e_241, e_242, e_243, e_244, e_245, e_246, e_247⟩ := hI_235
    obtain ⟨n_232, rfl⟩ : ∃ j, n_232 = j + 1 := ⟨n_232 - 1, by omega⟩
    refine V.rd (pc' := 33) (fun hl => lv_iload X.1 X.2.1 d_Course_travel_31 (lv_at hl 3 rfl)) ?_
    refine V.br (pc' := 36) (tgt := 112) (P := nx = 0) (lv_if_eq X.1 X.2.1 d_Course_travel_33 (by decide)) (fun c_248 => ?_) (fun c_248 => ?_)
    · have i_249 := congrArg Int32.toInt c_248
      refine V.rd (pc' := 114) (fun hl => lv_iload X.1 X.2.1 d_Course_travel_112 (lv_at hl 3 rfl)) ?_
      refine V.brT (pc' := 117) (tgt := 123) (lv_if_eq X.1 X.2.1 d_Course_travel_114 (by decide)) c_248 ?_
      refine V.rd (pc' := 124) (fun hl => lv_aload_n X.1 X.2.1 d_Course_travel_123 rfl (lv_at hl 0 rfl)) ?_
      refine V.rd (pc' := 126) (fun hl => lv_iload X.1 X.2.1 d_Course_travel_124 (lv_at hl 4 rfl)) ?_
      refine V.put (pc' := 129) X hK h_225 uw_Course t_Course tok_Course nm_Course rfl 4 (by decide) (mcs wd_150) rfl rfl rfl (Nat.le_of_ble_eq_true rfl) (fs' := [.ref pg, .ref ce, .ref pi, .ref ra, .int k, .int en2]) rfl d_Course_travel_126 rfl (fun M_250 h_251 fr_252 => ?_)
      have h_253 : M_250 ce = some (.inr (0, [.ref va])) := (fr_252 _ (ne_k h_219 h_225 (i := 0) (j := 1) rfl rfl (by decide))).trans h_219
      have h_254 : M_250 pg = some (.inr (3, [.ref dg, .ref gg, .ref tg0, .int np, .int ns])) := (fr_252 _ (ne_k h_220 h_225 (i := 3) (j := 1) rfl rfl (by decide))).trans h_220
      have h_255 : M_250 dg = some (.inl (cI, 60, .inl dd)) := (fr_252 _ (ne_k h_221 h_225 (i := 1060) (j := 1) rfl rfl (by decide))).trans h_221
      have h_256 : M_250 gg = some (.inl (cI, 60, .inl gd)) := (fr_252 _ (ne_k h_222 h_225 (i := 1060) (j := 1) rfl rfl (by decide))).trans h_222
      have h_257 : M_250 tg0 = some (.inl (cQ, 60, .inr (.inr (.inr (.inr (tdOf ns sa)))))) := (fr_252 _ (ne_k h_223 h_225 (i := 10000060) (j := 1) rfl rfl (by decide))).trans h_223
      have h_258 : M_250 ra = some (.inl (cI, 4096, .inl rd2)) := (fr_252 _ (ne_k h_224 h_225 (i := 5096) (j := 1) rfl rfl (by decide))).trans h_224
      have h_259 : M_250 la = some (.inl (cQ, 100, .inr (.inr (.inr (.inr (lq lo2 sa)))))) := (fr_252 _ (ne_k h_226 h_225 (i := 10000100) (j := 1) rfl rfl (by decide))).trans h_226
      have h_260 : M_250 pe = some (.inl (cI, 100, .inl pd2)) := (fr_252 _ (ne_k h_227 h_225 (i := 1100) (j := 1) rfl rfl (by decide))).trans h_227
      have h_261 : M_250 tu = some (.inl (cI, 100, .inl ud2)) := (fr_252 _ (ne_k h_228 h_225 (i := 1100) (j := 1) rfl rfl (by decide))).trans h_228
      have h_262 : M_250 pi = some (.inr (2, [.ref la, .ref pe, .ref tu, .int h2, .int hi2])) := (fr_252 _ (ne_k h_229 h_225 (i := 2) (j := 1) rfl rfl (by decide))).trans h_229
      have h_263 : M_250 va = some (.inl (cL, 16, .inr (.inl g))) := (fr_252 _ (ne_k h_230 h_225 (i := 100016) (j := 1) rfl rfl (by decide))).trans h_230
      have hp_264 := hp_237.keep (M' := M_250) (fun q e he ht => fr_252 q (ne_p he ht h_225 (j := 1) rfl (by decide)))
      refine V.rd (pc' := 131) (fun hl => lv_iload X.1 X.2.1 d_Course_travel_129 (lv_at hl 4 rfl)) ?_
      rw [lp_travel] at e_238
      simp only [if_pos c_248] at e_238
      rw [lp_travel_pi_3] at e_239
      simp only [if_pos c_248] at e_239
      rw [lp_travel_pi_4] at e_240
      simp only [if_pos c_248] at e_240
      rw [lp_travel_co_4] at e_241
      simp only [if_pos c_248] at e_241
      rw [lp_travel_co_5] at e_242
      simp only [if_pos c_248] at e_242
      rw [lp_travel_la] at e_243
      simp only [if_pos c_248] at e_243
      rw [lp_travel_pe] at e_244
      simp only [if_pos c_248] at e_244
      rw [lp_travel_tu] at e_245
      simp only [if_pos c_248] at e_245
      rw [lp_travel_va] at e_246
      simp only [if_pos c_248] at e_246
      rw [lp_travel_ra] at e_247
      simp only [if_pos c_248] at e_247
      exact V.iret X hr hlk ⟨(by simp only [sp_travel, if_neg c_32]; exact congrArg (fun z => some (Value.int z)) (e_238.trans hze_238)), (by simp only [sp_travel_pi_3, sp_travel_pi_4, if_neg c_32]; rw [← hze_239, ← e_239]; rw [← hze_240, ← e_240]; exact h_262), (by simp only [sp_travel_co_4, sp_travel_co_5, if_neg c_32]; rw [← hze_241, ← e_241]; rw [← hze_242, ← e_242]; exact h_251), (by simp only [sp_travel_la, if_neg c_32]; rw [← hze_243, ← e_243]; exact h_259), (by simp only [sp_travel_pe, if_neg c_32]; rw [← hze_244, ← e_244]; exact h_260), (by simp only [sp_travel_tu, if_neg c_32]; rw [← hze_245, ← e_245]; exact h_261), (by simp only [sp_travel_va, if_neg c_32]; rw [← hze_246, ← e_246]; exact h_263), (by simp only [sp_travel_ra, if_neg c_32]; rw [← hze_247, ← e_247]; exact h_258), (fun q n0_ n1_ n2_ n3_ n4_ n5_ n6_ => (fr_252 q n1_).trans ((fr_236 q n5_ n0_ n1_ n4_ n3_ n2_ n6_).trans ((fr_23 q n1_ n2_ n3_ n4_ n0_ n5_).trans ((fr_3 q n0_)))))⟩ d_Course_travel_131
    · have i_265 := mt Int32.toInt_inj.mp c_248
      refine V.rd (pc' := 38) (fun hl => lv_iload X.1 X.2.1 d_Course_travel_36 (lv_at hl 4 rfl)) ?_
      refine V.go (pc' := 39) (lv_i2l X.1 X.2.1 d_Course_travel_38 rfl) ?_
      refine V.rd (pc' := 40) (fun hl => lv_lload_n X.1 X.2.1 d_Course_travel_39 rfl (lv_at hl 2 rfl)) ?_
      refine V.go (pc' := 41) (W.lcmp X.1 X.2.1 d_Course_travel_40) ?_
      refine V.br (pc' := 44) (tgt := 112) (P := 0 ≤ (lg_cmp k.toInt64 steps)) (lv_if_ge X.1 X.2.1 d_Course_travel_41 (by decide)) (fun c_266 => ?_) (fun c_266 => ?_)
      · refine V.rd (pc' := 114) (fun hl => lv_iload X.1 X.2.1 d_Course_travel_112 (lv_at hl 3 rfl)) ?_
        refine V.brF (pc' := 117) (tgt := 123) (lv_if_eq X.1 X.2.1 d_Course_travel_114 (by decide)) c_248 ?_
        refine V.rd (pc' := 118) (fun hl => lv_aload_n X.1 X.2.1 d_Course_travel_117 rfl (lv_at hl 0 rfl)) ?_
        refine V.go (pc' := 119) (lv_iconst (v := 1) X.1 X.2.1 d_Course_travel_118 (by decide)) ?_
        refine V.callV (pc' := 122) X hK (c_Course_end  (co := co) (pg := pg) (ce := ce) (pi := pi) (ra := ra) (ln := ln) (en := en2) (x := 1)   h_225  ) h_225 rfl (cwG (n := 1) X (mcs wd_89) (mcs wd_90) (mcs wd_91) (mcs wd_92) wd_93 (by decide +kernel) (by decide) (by decide)) rfl rfl (Nat.le_of_ble_eq_true rfl) d_Course_travel_119 ⟨by decide, by decide⟩ rfl (st1 := [.int 0]) rfl (fun M_267 ⟨h_268, fr_269⟩ => ?_)
        have h_270 : M_267 ce = some (.inr (0, [.ref va])) := (fr_269 _ (ne_k h_219 h_225 (i := 0) (j := 1) rfl rfl (by decide))).trans h_219
        have h_271 : M_267 pg = some (.inr (3, [.ref dg, .ref gg, .ref tg0, .int np, .int ns])) := (fr_269 _ (ne_k h_220 h_225 (i := 3) (j := 1) rfl rfl (by decide))).trans h_220
        have h_272 : M_267 dg = some (.inl (cI, 60, .inl dd)) := (fr_269 _ (ne_k h_221 h_225 (i := 1060) (j := 1) rfl rfl (by decide))).trans h_221
        have h_273 : M_267 gg = some (.inl (cI, 60, .inl gd)) := (fr_269 _ (ne_k h_222 h_225 (i := 1060) (j := 1) rfl rfl (by decide))).trans h_222
        have h_274 : M_267 tg0 = some (.inl (cQ, 60, .inr (.inr (.inr (.inr (tdOf ns sa)))))) := (fr_269 _ (ne_k h_223 h_225 (i := 10000060) (j := 1) rfl rfl (by decide))).trans h_223
        have h_275 : M_267 ra = some (.inl (cI, 4096, .inl rd2)) := (fr_269 _ (ne_k h_224 h_225 (i := 5096) (j := 1) rfl rfl (by decide))).trans h_224
        have h_276 : M_267 la = some (.inl (cQ, 100, .inr (.inr (.inr (.inr (lq lo2 sa)))))) := (fr_269 _ (ne_k h_226 h_225 (i := 10000100) (j := 1) rfl rfl (by decide))).trans h_226
        have h_277 : M_267 pe = some (.inl (cI, 100, .inl pd2)) := (fr_269 _ (ne_k h_227 h_225 (i := 1100) (j := 1) rfl rfl (by decide))).trans h_227
        have h_278 : M_267 tu = some (.inl (cI, 100, .inl ud2)) := (fr_269 _ (ne_k h_228 h_225 (i := 1100) (j := 1) rfl rfl (by decide))).trans h_228
        have h_279 : M_267 pi = some (.inr (2, [.ref la, .ref pe, .ref tu, .int h2, .int hi2])) := (fr_269 _ (ne_k h_229 h_225 (i := 2) (j := 1) rfl rfl (by decide))).trans h_229
        have h_280 : M_267 va = some (.inl (cL, 16, .inr (.inl g))) := (fr_269 _ (ne_k h_230 h_225 (i := 100016) (j := 1) rfl rfl (by decide))).trans h_230
        have hp_281 := hp_237.keep (M' := M_267) (fun q e he ht => fr_269 q (ne_p he ht h_225 (j := 1) rfl (by decide)))
        refine V.go (pc' := 123) (lv_pop X.1 X.2.1 d_Course_travel_122 rfl) ?_
        refine V.rd (pc' := 124) (fun hl => lv_aload_n X.1 X.2.1 d_Course_travel_123 rfl (lv_at hl 0 rfl)) ?_
        refine V.rd (pc' := 126) (fun hl => lv_iload X.1 X.2.1 d_Course_travel_124 (lv_at hl 4 rfl)) ?_
        refine V.put (pc' := 129) X hK h_268 uw_Course t_Course tok_Course nm_Course rfl 4 (by decide) (mcs wd_150) rfl rfl rfl (Nat.le_of_ble_eq_true rfl) (fs' := [.ref pg, .ref ce, .ref pi, .ref ra, .int k, .int 1]) rfl d_Course_travel_126 rfl (fun M_282 h_283 fr_284 => ?_)
        have h_285 : M_282 ce = some (.inr (0, [.ref va])) := (fr_284 _ (ne_k h_270 h_268 (i := 0) (j := 1) rfl rfl (by decide))).trans h_270
        have h_286 : M_282 pg = some (.inr (3, [.ref dg, .ref gg, .ref tg0, .int np, .int ns])) := (fr_284 _ (ne_k h_271 h_268 (i := 3) (j := 1) rfl rfl (by decide))).trans h_271
        have h_287 : M_282 dg = some (.inl (cI, 60, .inl dd)) := (fr_284 _ (ne_k h_272 h_268 (i := 1060) (j := 1) rfl rfl (by decide))).trans h_272
        have h_288 : M_282 gg = some (.inl (cI, 60, .inl gd)) := (fr_284 _ (ne_k h_273 h_268 (i := 1060) (j := 1) rfl rfl (by decide))).trans h_273
        have h_289 : M_282 tg0 = some (.inl (cQ, 60, .inr (.inr (.inr (.inr (tdOf ns sa)))))) := (fr_284 _ (ne_k h_274 h_268 (i := 10000060) (j := 1) rfl rfl (by decide))).trans h_274
        have h_290 : M_282 ra = some (.inl (cI, 4096, .inl rd2)) := (fr_284 _ (ne_k h_275 h_268 (i := 5096) (j := 1) rfl rfl (by decide))).trans h_275
        have h_291 : M_282 la = some (.inl (cQ, 100, .inr (.inr (.inr (.inr (lq lo2 sa)))))) := (fr_284 _ (ne_k h_276 h_268 (i := 10000100) (j := 1) rfl rfl (by decide))).trans h_276
        have h_292 : M_282 pe = some (.inl (cI, 100, .inl pd2)) := (fr_284 _ (ne_k h_277 h_268 (i := 1100) (j := 1) rfl rfl (by decide))).trans h_277
        have h_293 : M_282 tu = some (.inl (cI, 100, .inl ud2)) := (fr_284 _ (ne_k h_278 h_268 (i := 1100) (j := 1) rfl rfl (by decide))).trans h_278
        have h_294 : M_282 pi = some (.inr (2, [.ref la, .ref pe, .ref tu, .int h2, .int hi2])) := (fr_284 _ (ne_k h_279 h_268 (i := 2) (j := 1) rfl rfl (by decide))).trans h_279
        have h_295 : M_282 va = some (.inl (cL, 16, .inr (.inl g))) := (fr_284 _ (ne_k h_280 h_268 (i := 100016) (j := 1) rfl rfl (by decide))).trans h_280
        have hp_296 := hp_281.keep (M' := M_282) (fun q e he ht => fr_284 q (ne_p he ht h_268 (j := 1) rfl (by decide)))
        refine V.rd (pc' := 131) (fun hl => lv_iload X.1 X.2.1 d_Course_travel_129 (lv_at hl 4 rfl)) ?_
        rw [lp_travel] at e_238
        simp only [if_neg c_248, if_pos c_266] at e_238
        rw [lp_travel_pi_3] at e_239
        simp only [if_neg c_248, if_pos c_266] at e_239
        rw [lp_travel_pi_4] at e_240
        simp only [if_neg c_248, if_pos c_266] at e_240
        rw [lp_travel_co_4] at e_241
        simp only [if_neg c_248, if_pos c_266] at e_241
        rw [lp_travel_co_5] at e_242
        simp only [if_neg c_248, if_pos c_266] at e_242
        rw [lp_travel_la] at e_243
        simp only [if_neg c_248, if_pos c_266] at e_243
        rw [lp_travel_pe] at e_244
        simp only [if_neg c_248, if_pos c_266] at e_244
        rw [lp_travel_tu] at e_245
        simp only [if_neg c_248, if_pos c_266] at e_245
        rw [lp_travel_va] at e_246
        simp only [if_neg c_248, if_pos c_266] at e_246
        rw [lp_travel_ra] at e_247
        simp only [if_neg c_248, if_pos c_266] at e_247
        exact V.iret X hr hlk ⟨(by simp only [sp_travel, if_neg c_32]; exact congrArg (fun z => some (Value.int z)) (e_238.trans hze_238)), (by simp only [sp_travel_pi_3, sp_travel_pi_4, if_neg c_32]; rw [← hze_239, ← e_239]; rw [← hze_240, ← e_240]; exact h_294), (by simp only [sp_travel_co_4, sp_travel_co_5, if_neg c_32]; rw [← hze_241, ← e_241]; rw [← hze_242, ← e_242]; exact h_283), (by simp only [sp_travel_la, if_neg c_32]; rw [← hze_243, ← e_243]; exact h_291), (by simp only [sp_travel_pe, if_neg c_32]; rw [← hze_244, ← e_244]; exact h_292), (by simp only [sp_travel_tu, if_neg c_32]; rw [← hze_245, ← e_245]; exact h_293), (by simp only [sp_travel_va, if_neg c_32]; rw [← hze_246, ← e_246]; exact h_295), (by simp only [sp_travel_ra, if_neg c_32]; rw [← hze_247, ← e_247]; exact h_290), (fun q n0_ n1_ n2_ n3_ n4_ n5_ n6_ => (fr_284 q n1_).trans ((fr_269 q n1_).trans ((fr_236 q n5_ n0_ n1_ n4_ n3_ n2_ n6_).trans ((fr_23 q n1_ n2_ n3_ n4_ n0_ n5_).trans ((fr_3 q n0_))))))⟩ d_Course_travel_131
      · have i_297 := lcmp_lt c_266
        refine V.rd (pc' := 46) (fun hl => lv_iload X.1 X.2.1 d_Course_travel_44 (lv_at hl 3 rfl)) ?_
        refine V.wr (pc' := 48) (lv' := [(6, .int nx), (0, .ref co), (1, .int x), (2, .long steps), (4, .int nx), (5, .int k)]) (fun hl => lv_istore X.1 X.2.1 d_Course_travel_46 hl (by decide) rfl) ?_
        refine V.rd (pc' := 49) (fun hl => lv_aload_n X.1 X.2.1 d_Course_travel_48 rfl (lv_at hl 1 rfl)) ?_
        refine V.rd (pc' := 51) (fun hl => lv_iload X.1 X.2.1 d_Course_travel_49 (lv_at hl 5 rfl)) ?_
        refine V.rd (pc' := 53) (fun hl => lv_iload X.1 X.2.1 d_Course_travel_51 (lv_at hl 0 rfl)) ?_
        refine V.callV (pc' := 56) X hK (c_note  (co := co) (pg := pg) (ce := ce) (pi := pi) (ra := ra) (ln := ln) (en := en2) (rd := rd2) (x := k) (y := nx)   h_225 h_224  ) h_225 rfl (cwG (n := 2) X (mcs wd_151) (mcs wd_152) (mcs wd_153) (mcs wd_92) wd_154 (by decide +kernel) (by decide) (by decide)) rfl rfl (Nat.le_of_ble_eq_true rfl) d_Course_travel_53 ⟨by decide, by decide⟩ rfl (st1 := []) rfl (fun M_298 ⟨h_299, fr_300⟩ => ?_)
        have h_301 : M_298 ce = some (.inr (0, [.ref va])) := (fr_300 _ (ne_k h_219 h_224 (i := 0) (j := 5096) rfl rfl (by decide))).trans h_219
        have h_302 : M_298 pg = some (.inr (3, [.ref dg, .ref gg, .ref tg0, .int np, .int ns])) := (fr_300 _ (ne_k h_220 h_224 (i := 3) (j := 5096) rfl rfl (by decide))).trans h_220
        have h_303 : M_298 dg = some (.inl (cI, 60, .inl dd)) := (fr_300 _ (ne_k h_221 h_224 (i := 1060) (j := 5096) rfl rfl (by decide))).trans h_221
        have h_304 : M_298 gg = some (.inl (cI, 60, .inl gd)) := (fr_300 _ (ne_k h_222 h_224 (i := 1060) (j := 5096) rfl rfl (by decide))).trans h_222
        have h_305 : M_298 tg0 = some (.inl (cQ, 60, .inr (.inr (.inr (.inr (tdOf ns sa)))))) := (fr_300 _ (ne_k h_223 h_224 (i := 10000060) (j := 5096) rfl rfl (by decide))).trans h_223
        have h_306 : M_298 co = some (.inr (1, [.ref pg, .ref ce, .ref pi, .ref ra, .int ln, .int en2])) := (fr_300 _ (ne_k h_225 h_224 (i := 1) (j := 5096) rfl rfl (by decide))).trans h_225
        have h_307 : M_298 la = some (.inl (cQ, 100, .inr (.inr (.inr (.inr (lq lo2 sa)))))) := (fr_300 _ (ne_k h_226 h_224 (i := 10000100) (j := 5096) rfl rfl (by decide))).trans h_226
        have h_308 : M_298 pe = some (.inl (cI, 100, .inl pd2)) := (fr_300 _ (ne_k h_227 h_224 (i := 1100) (j := 5096) rfl rfl (by decide))).trans h_227
        have h_309 : M_298 tu = some (.inl (cI, 100, .inl ud2)) := (fr_300 _ (ne_k h_228 h_224 (i := 1100) (j := 5096) rfl rfl (by decide))).trans h_228
        have h_310 : M_298 pi = some (.inr (2, [.ref la, .ref pe, .ref tu, .int h2, .int hi2])) := (fr_300 _ (ne_k h_229 h_224 (i := 2) (j := 5096) rfl rfl (by decide))).trans h_229
        have h_311 : M_298 va = some (.inl (cL, 16, .inr (.inl g))) := (fr_300 _ (ne_k h_230 h_224 (i := 100016) (j := 5096) rfl rfl (by decide))).trans h_230
        have hp_312 := hp_237.keep (M' := M_298) (fun q e he ht => fr_300 q (ne_p he ht h_224 (j := 5096) rfl (by decide)))
        refine V.rd (pc' := 57) (fun hl => lv_aload_n X.1 X.2.1 d_Course_travel_56 rfl (lv_at hl 1 rfl)) ?_
        refine V.get (pc' := 60) X hK h_306 uw_Course rfl 0 (by decide) (mcs wd_87) rfl d_Course_travel_57 rfl ?_
        refine V.rd (pc' := 62) (fun hl => lv_iload X.1 X.2.1 d_Course_travel_60 (lv_at hl 0 rfl)) ?_
        refine V.callV0 (pc' := 65) X hK (c_performedBy  (pg := pg) (dg := dg) (gg := gg) (tg0 := tg0) (np := np) (ns := ns) (dd := dd) (x := nx)   h_302 h_303  ) h_302 rfl (cwG (n := 1) X (mcs wd_155) (mcs wd_156) (mcs wd_157) (mcs wd_7) wd_158 (by decide +kernel) (by decide) (by decide)) rfl rfl (Nat.le_of_ble_eq_true rfl) d_Course_travel_62 ⟨by decide, by decide⟩ rfl (st1 := [.int (sp_performedBy np dd nx)]) rfl ?_
        refine V.wr (pc' := 67) (lv' := [(7, .int (sp_performedBy np dd nx)), (6, .int nx), (0, .ref co), (1, .int x), (2, .long steps), (4, .int nx), (5, .int k)]) (fun hl => lv_istore X.1 X.2.1 d_Course_travel_65 hl (by decide) rfl) ?_
        refine V.rd (pc' := 69) (fun hl => lv_iload X.1 X.2.1 d_Course_travel_67 (lv_at hl 0 rfl)) ?_
        refine V.go (pc' := 70) (lv_iconst (v := (-1)) X.1 X.2.1 d_Course_travel_69 (by decide)) ?_
        refine V.bn (pc' := 73) (tgt := 82) (P := (sp_performedBy np dd nx) = (-1)) (lv_icmp_ne X.1 X.2.1 d_Course_travel_70 (by decide)) (fun c_314 => ?_) (fun c_314 => ?_)
        · have i_315 := congrArg Int32.toInt c_314
          refine V.rd (pc' := 74) (fun hl => lv_aload_n X.1 X.2.1 d_Course_travel_73 rfl (lv_at hl 2 rfl)) ?_
          refine V.rd (pc' := 76) (fun hl => lv_iload X.1 X.2.1 d_Course_travel_74 (lv_at hl 1 rfl)) ?_
          refine V.callV (pc' := 79) X hK (c_doing  (co := co) (pg := pg) (ce := ce) (pi := pi) (ra := ra) (va := va) (dg := dg) (gg := gg) (tg0 := tg0) (ln := ln) (en := en2) (np := np) (ns := ns) (dd := dd) (f := g) (x := nx)   h_306 h_301 h_311 h_302 h_303  ) h_306 rfl (cwG (n := 1) X (mcs wd_159) (mcs wd_160) (mcs wd_161) (mcs wd_92) wd_162 (by decide +kernel) (by decide) (by decide)) rfl rfl (Nat.le_of_ble_eq_true rfl) d_Course_travel_76 ⟨by decide, by decide⟩ rfl (st1 := [.int (sp_doing np dd g nx)]) rfl (fun M_316 ⟨h_317, h_318, fr_319⟩ => ?_)
          have h_320 : M_316 ce = some (.inr (0, [.ref va])) := (fr_319 _ (ne_k h_301 h_311 (i := 0) (j := 100016) rfl rfl (by decide)) (ne_k h_301 h_306 (i := 0) (j := 1) rfl rfl (by decide))).trans h_301
          have h_321 : M_316 pg = some (.inr (3, [.ref dg, .ref gg, .ref tg0, .int np, .int ns])) := (fr_319 _ (ne_k h_302 h_311 (i := 3) (j := 100016) rfl rfl (by decide)) (ne_k h_302 h_306 (i := 3) (j := 1) rfl rfl (by decide))).trans h_302
          have h_322 : M_316 dg = some (.inl (cI, 60, .inl dd)) := (fr_319 _ (ne_k h_303 h_311 (i := 1060) (j := 100016) rfl rfl (by decide)) (ne_k h_303 h_306 (i := 1060) (j := 1) rfl rfl (by decide))).trans h_303
          have h_323 : M_316 gg = some (.inl (cI, 60, .inl gd)) := (fr_319 _ (ne_k h_304 h_311 (i := 1060) (j := 100016) rfl rfl (by decide)) (ne_k h_304 h_306 (i := 1060) (j := 1) rfl rfl (by decide))).trans h_304
          have h_324 : M_316 tg0 = some (.inl (cQ, 60, .inr (.inr (.inr (.inr (tdOf ns sa)))))) := (fr_319 _ (ne_k h_305 h_311 (i := 10000060) (j := 100016) rfl rfl (by decide)) (ne_k h_305 h_306 (i := 10000060) (j := 1) rfl rfl (by decide))).trans h_305
          have h_325 : M_316 la = some (.inl (cQ, 100, .inr (.inr (.inr (.inr (lq lo2 sa)))))) := (fr_319 _ (ne_k h_307 h_311 (i := 10000100) (j := 100016) rfl rfl (by decide)) (ne_k h_307 h_306 (i := 10000100) (j := 1) rfl rfl (by decide))).trans h_307
          have h_326 : M_316 pe = some (.inl (cI, 100, .inl pd2)) := (fr_319 _ (ne_k h_308 h_311 (i := 1100) (j := 100016) rfl rfl (by decide)) (ne_k h_308 h_306 (i := 1100) (j := 1) rfl rfl (by decide))).trans h_308
          have h_327 : M_316 tu = some (.inl (cI, 100, .inl ud2)) := (fr_319 _ (ne_k h_309 h_311 (i := 1100) (j := 100016) rfl rfl (by decide)) (ne_k h_309 h_306 (i := 1100) (j := 1) rfl rfl (by decide))).trans h_309
          have h_328 : M_316 pi = some (.inr (2, [.ref la, .ref pe, .ref tu, .int h2, .int hi2])) := (fr_319 _ (ne_k h_310 h_311 (i := 2) (j := 100016) rfl rfl (by decide)) (ne_k h_310 h_306 (i := 2) (j := 1) rfl rfl (by decide))).trans h_310
          have h_329 : M_316 ra = some (.inl (cI, 4096, .inl (sp_note_ra rd2 k nx))) := (fr_319 _ (ne_k h_299 h_311 (i := 5096) (j := 100016) rfl rfl (by decide)) (ne_k h_299 h_306 (i := 5096) (j := 1) rfl rfl (by decide))).trans h_299
          have hp_330 := hp_312.keep (M' := M_316) (fun q e he ht => fr_319 q (ne_p he ht h_311 (j := 100016) rfl (by decide)) (ne_p he ht h_306 (j := 1) rfl (by decide)))
          refine V.go (pc' := 90) (lv_goto X.1 X.2.1 d_Course_travel_79 (by decide)) ?_
          refine V.wr (pc' := 92) (lv' := [(4, .int (sp_doing np dd g nx)), (7, .int (sp_performedBy np dd nx)), (6, .int nx), (0, .ref co), (1, .int x), (2, .long steps), (5, .int k)]) (fun hl => lv_istore X.1 X.2.1 d_Course_travel_90 hl (by decide) rfl) ?_
          refine V.rd (pc' := 94) (fun hl => lv_iload X.1 X.2.1 d_Course_travel_92 (lv_at hl 0 rfl)) ?_
          refine V.go (pc' := 95) (lv_iconst (v := (-1)) X.1 X.2.1 d_Course_travel_94 (by decide)) ?_
          refine V.bn (pc' := 98) (tgt := 106) (P := (sp_doing np dd g nx) = (-1)) (lv_icmp_ne X.1 X.2.1 d_Course_travel_95 (by decide)) (fun c_331 => ?_) (fun c_331 => ?_)
          · have i_332 := congrArg Int32.toInt c_331
            refine V.rd (pc' := 99) (fun hl => lv_aload_n X.1 X.2.1 d_Course_travel_98 rfl (lv_at hl 3 rfl)) ?_
            refine V.rd (pc' := 101) (fun hl => lv_iload X.1 X.2.1 d_Course_travel_99 (lv_at hl 2 rfl)) ?_
            refine V.callV (pc' := 104) X hK (c_behindDoing  (co := co) (pg := pg) (ce := ce) (pi := pi) (ra := ra) (va := va) (dg := dg) (gg := gg) (tg0 := tg0) (la := la) (pe := pe) (tu := tu) (ln := ln) (en := sp_doing_co_5 en2 np dd g nx) (np := np) (ns := ns) (hh := h2) (hi := hi2) (gd := gd) (f := sp_doing_va np dd g nx) (lo := lo2) (pd := pd2) (ud := ud2) (x := nx)  ne0 h_318 h_320 h_317 h_321 h_323 h_328 h_325 h_326 h_327 hp_330 hσ hlo2) h_318 rfl (cwG (n := 1) X (mcs wd_163) (mcs wd_164) (mcs wd_165) (mcs wd_92) wd_166 (by decide +kernel) (by decide) (by decide)) rfl rfl (Nat.le_of_ble_eq_true rfl) d_Course_travel_101 ⟨by decide, by decide⟩ rfl (st1 := [.int (lp_behindDoing np gd lo2 pd2 σ 101 nx 0 (sp_doing_va np dd g nx) h2 ud2)]) rfl (fun M_333 ⟨h_334, h_335, h_336, h_337, fr_338⟩ => ?_)
            have h_339 : M_333 ce = some (.inr (0, [.ref va])) := (fr_338 _ (ne_k h_320 h_318 (i := 0) (j := 1) rfl rfl (by decide)) (ne_k h_320 h_327 (i := 0) (j := 1100) rfl rfl (by decide)) (ne_k h_320 h_317 (i := 0) (j := 100016) rfl rfl (by decide)) (ne_k h_320 h_328 (i := 0) (j := 2) rfl rfl (by decide))).trans h_320
            have h_340 : M_333 pg = some (.inr (3, [.ref dg, .ref gg, .ref tg0, .int np, .int ns])) := (fr_338 _ (ne_k h_321 h_318 (i := 3) (j := 1) rfl rfl (by decide)) (ne_k h_321 h_327 (i := 3) (j := 1100) rfl rfl (by decide)) (ne_k h_321 h_317 (i := 3) (j := 100016) rfl rfl (by decide)) (ne_k h_321 h_328 (i := 3) (j := 2) rfl rfl (by decide))).trans h_321
            have h_341 : M_333 dg = some (.inl (cI, 60, .inl dd)) := (fr_338 _ (ne_k h_322 h_318 (i := 1060) (j := 1) rfl rfl (by decide)) (ne_k h_322 h_327 (i := 1060) (j := 1100) rfl rfl (by decide)) (ne_k h_322 h_317 (i := 1060) (j := 100016) rfl rfl (by decide)) (ne_k h_322 h_328 (i := 1060) (j := 2) rfl rfl (by decide))).trans h_322
            have h_342 : M_333 gg = some (.inl (cI, 60, .inl gd)) := (fr_338 _ (ne_k h_323 h_318 (i := 1060) (j := 1) rfl rfl (by decide)) (ne_k h_323 h_327 (i := 1060) (j := 1100) rfl rfl (by decide)) (ne_k h_323 h_317 (i := 1060) (j := 100016) rfl rfl (by decide)) (ne_k h_323 h_328 (i := 1060) (j := 2) rfl rfl (by decide))).trans h_323
            have h_343 : M_333 tg0 = some (.inl (cQ, 60, .inr (.inr (.inr (.inr (tdOf ns sa)))))) := (fr_338 _ (ne_k h_324 h_318 (i := 10000060) (j := 1) rfl rfl (by decide)) (ne_k h_324 h_327 (i := 10000060) (j := 1100) rfl rfl (by decide)) (ne_k h_324 h_317 (i := 10000060) (j := 100016) rfl rfl (by decide)) (ne_k h_324 h_328 (i := 10000060) (j := 2) rfl rfl (by decide))).trans h_324
            have h_344 : M_333 la = some (.inl (cQ, 100, .inr (.inr (.inr (.inr (lq lo2 sa)))))) := (fr_338 _ (ne_k h_325 h_318 (i := 10000100) (j := 1) rfl rfl (by decide)) (ne_k h_325 h_327 (i := 10000100) (j := 1100) rfl rfl (by decide)) (ne_k h_325 h_317 (i := 10000100) (j := 100016) rfl rfl (by decide)) (ne_k h_325 h_328 (i := 10000100) (j := 2) rfl rfl (by decide))).trans h_325
            have h_345 : M_333 pe = some (.inl (cI, 100, .inl pd2)) := (fr_338 _ (ne_k h_326 h_318 (i := 1100) (j := 1) rfl rfl (by decide)) ne0 (ne_k h_326 h_317 (i := 1100) (j := 100016) rfl rfl (by decide)) (ne_k h_326 h_328 (i := 1100) (j := 2) rfl rfl (by decide))).trans h_326
            have h_346 : M_333 ra = some (.inl (cI, 4096, .inl (sp_note_ra rd2 k nx))) := (fr_338 _ (ne_k h_329 h_318 (i := 5096) (j := 1) rfl rfl (by decide)) (ne_k h_329 h_327 (i := 5096) (j := 1100) rfl rfl (by decide)) (ne_k h_329 h_317 (i := 5096) (j := 100016) rfl rfl (by decide)) (ne_k h_329 h_328 (i := 5096) (j := 2) rfl rfl (by decide))).trans h_329
            have hp_347 := hp_330.keep (M' := M_333) (fun q e he ht => fr_338 q (ne_p he ht h_318 (j := 1) rfl (by decide)) (ne_p he ht h_327 (j := 1100) rfl (by decide)) (ne_p he ht h_317 (j := 100016) rfl (by decide)) (ne_p he ht h_328 (j := 2) rfl (by decide)))
            refine V.wr (pc' := 106) (lv' := [(4, .int (lp_behindDoing np gd lo2 pd2 σ 101 nx 0 (sp_doing_va np dd g nx) h2 ud2)), (7, .int (sp_performedBy np dd nx)), (6, .int nx), (0, .ref co), (1, .int x), (2, .long steps), (5, .int k)]) (fun hl => lv_istore X.1 X.2.1 d_Course_travel_104 hl (by decide) rfl) ?_
            refine V.wr (pc' := 109) (lv' := [(5, .int (k + 1)), (4, .int (lp_behindDoing np gd lo2 pd2 σ 101 nx 0 (sp_doing_va np dd g nx) h2 ud2)), (7, .int (sp_performedBy np dd nx)), (6, .int nx), (0, .ref co), (1, .int x), (2, .long steps)]) (fun hl => lv_iinc (k := 6) (v := k + 1) X.1 X.2.1 d_Course_travel_106 hl rfl rfl (by decide) rfl) ?_
            have s_348 : (k + 1).toInt = k.toInt + (1) := i32_add1 (by omega)
            refine V.go (pc' := 31) (lv_goto X.1 X.2.1 d_Course_travel_109 (by decide)) ?_
            refine V.pick [4, 5, 6, 1, 0] rfl ?_
            exact ih_233 n_232 (by omega) () _ _ ⟨(lp_behindDoing np gd lo2 pd2 σ 101 nx 0 (sp_doing_va np dd g nx) h2 ud2), (k + 1), (lp_behindDoing_va np gd lo2 pd2 σ 101 nx 0 (sp_doing_va np dd g nx) h2 ud2), (lp_behindDoing_pi_3 np gd lo2 pd2 σ 101 nx 0 (sp_doing_va np dd g nx) h2 ud2), hi2, (lp_behindDoing_co_5 (sp_doing_co_5 en2 np dd g nx) np gd lo2 pd2 σ 101 nx 0 (sp_doing_va np dd g nx) h2 ud2), (lp_behindDoing_tu np gd lo2 pd2 σ 101 nx 0 (sp_doing_va np dd g nx) h2 ud2), pd2, lo2, (sp_note_ra rd2 k nx), rfl, h_339, h_340, h_341, h_342, h_343, h_346, h_334, h_344, h_345, h_335, h_337, h_336, hp_347, (fun q n0_ n1_ n2_ n3_ n4_ n5_ n6_ => (fr_338 q n2_ n3_ n0_ n1_).trans ((fr_319 q n0_ n2_).trans ((fr_300 q n6_).trans ((fr_236 q n0_ n1_ n2_ n3_ n4_ n5_ n6_))))), (by omega), (by omega), hlo2, (by rw [← e_238, lp_travel]; simp only [if_neg c_248, if_neg c_266, if_pos c_314, if_pos c_331]), (by rw [← e_239, lp_travel_pi_3]; simp only [if_neg c_248, if_neg c_266, if_pos c_314, if_pos c_331]), (by rw [← e_240, lp_travel_pi_4]; simp only [if_neg c_248, if_neg c_266, if_pos c_314, if_pos c_331]), (by rw [← e_241, lp_travel_co_4]; simp only [if_neg c_248, if_neg c_266, if_pos c_314, if_pos c_331]), (by rw [← e_242, lp_travel_co_5]; simp only [if_neg c_248, if_neg c_266, if_pos c_314, if_pos c_331]), (by rw [← e_243, lp_travel_la]; simp only [if_neg c_248, if_neg c_266, if_pos c_314, if_pos c_331]), (by rw [← e_244, lp_travel_pe]; simp only [if_neg c_248, if_neg c_266, if_pos c_314, if_pos c_331]), (by rw [← e_245, lp_travel_tu]; simp only [if_neg c_248, if_neg c_266, if_pos c_314, if_pos c_331]), (by rw [← e_246, lp_travel_va]; simp only [if_neg c_248, if_neg c_266, if_pos c_314, if_pos c_331]), (by rw [← e_247, lp_travel_ra]; simp only [if_neg c_248, if_neg c_266, if_pos c_314, if_pos c_331])⟩
          · have i_349 := mt Int32.toInt_inj.mp c_331
            refine V.wr (pc' := 109) (lv' := [(5, .int (k + 1)), (4, .int (sp_doing np dd g nx)), (7, .int (sp_performedBy np dd nx)), (6, .int nx), (0, .ref co), (1, .int x), (2, .long steps)]) (fun hl => lv_iinc (k := 6) (v := k + 1) X.1 X.2.1 d_Course_travel_106 hl rfl rfl (by decide) rfl) ?_
            have s_350 : (k + 1).toInt = k.toInt + (1) := i32_add1 (by omega)
            refine V.go (pc' := 31) (lv_goto X.1 X.2.1 d_Course_travel_109 (by decide)) ?_
            refine V.pick [4, 5, 6, 1, 0] rfl ?_
            exact ih_233 n_232 (by omega) () _ _ ⟨(sp_doing np dd g nx), (k + 1), (sp_doing_va np dd g nx), h2, hi2, (sp_doing_co_5 en2 np dd g nx), ud2, pd2, lo2, (sp_note_ra rd2 k nx), rfl, h_320, h_321, h_322, h_323, h_324, h_329, h_318, h_325, h_326, h_327, h_328, h_317, hp_330, (fun q n0_ n1_ n2_ n3_ n4_ n5_ n6_ => (fr_319 q n0_ n2_).trans ((fr_300 q n6_).trans ((fr_236 q n0_ n1_ n2_ n3_ n4_ n5_ n6_)))), (by omega), (by omega), hlo2, (by rw [← e_238, lp_travel]; simp only [if_neg c_248, if_neg c_266, if_pos c_314, if_neg c_331]), (by rw [← e_239, lp_travel_pi_3]; simp only [if_neg c_248, if_neg c_266, if_pos c_314, if_neg c_331]), (by rw [← e_240, lp_travel_pi_4]; simp only [if_neg c_248, if_neg c_266, if_pos c_314, if_neg c_331]), (by rw [← e_241, lp_travel_co_4]; simp only [if_neg c_248, if_neg c_266, if_pos c_314, if_neg c_331]), (by rw [← e_242, lp_travel_co_5]; simp only [if_neg c_248, if_neg c_266, if_pos c_314, if_neg c_331]), (by rw [← e_243, lp_travel_la]; simp only [if_neg c_248, if_neg c_266, if_pos c_314, if_neg c_331]), (by rw [← e_244, lp_travel_pe]; simp only [if_neg c_248, if_neg c_266, if_pos c_314, if_neg c_331]), (by rw [← e_245, lp_travel_tu]; simp only [if_neg c_248, if_neg c_266, if_pos c_314, if_neg c_331]), (by rw [← e_246, lp_travel_va]; simp only [if_neg c_248, if_neg c_266, if_pos c_314, if_neg c_331]), (by rw [← e_247, lp_travel_ra]; simp only [if_neg c_248, if_neg c_266, if_pos c_314, if_neg c_331])⟩
        · have i_351 := mt Int32.toInt_inj.mp c_314
          refine V.rd (pc' := 83) (fun hl => lv_aload_n X.1 X.2.1 d_Course_travel_82 rfl (lv_at hl 2 rfl)) ?_
          refine V.rd (pc' := 85) (fun hl => lv_iload X.1 X.2.1 d_Course_travel_83 (lv_at hl 0 rfl)) ?_
          refine V.rd (pc' := 87) (fun hl => lv_iload X.1 X.2.1 d_Course_travel_85 (lv_at hl 1 rfl)) ?_
          refine V.callV (pc' := 90) X hK (c_performing  (co := co) (pg := pg) (ce := ce) (pi := pi) (ra := ra) (va := va) (dg := dg) (gg := gg) (tg0 := tg0) (la := la) (pe := pe) (tu := tu) (ln := ln) (en := en2) (np := np) (ns := ns) (hh := h2) (hi := hi2) (f := g) (lo := lo2) (pd := pd2) (ud := ud2) (x := sp_performedBy np dd nx) (y := nx)  ne0 h_306 h_301 h_311 h_302 h_305 h_310 h_307 h_308 h_309 hp_312 hσ) h_306 rfl (cwG (n := 2) X (mcs wd_146) (mcs wd_147) (mcs wd_148) (mcs wd_92) wd_149 (by decide +kernel) (by decide) (by decide)) rfl rfl (Nat.le_of_ble_eq_true rfl) d_Course_travel_87 ⟨by decide, by decide⟩ rfl (st1 := [.int (sp_performing ns h2 g (sp_performedBy np dd nx) σ)]) rfl (fun M_352 ⟨h_353, h_354, h_355, h_356, h_357, h_358, fr_359⟩ => ?_)
          have h_360 : M_352 ce = some (.inr (0, [.ref va])) := (fr_359 _ (ne_k h_301 h_306 (i := 0) (j := 1) rfl rfl (by decide)) (ne_k h_301 h_307 (i := 0) (j := 10000100) rfl rfl (by decide)) (ne_k h_301 h_308 (i := 0) (j := 1100) rfl rfl (by decide)) (ne_k h_301 h_309 (i := 0) (j := 1100) rfl rfl (by decide)) (ne_k h_301 h_310 (i := 0) (j := 2) rfl rfl (by decide)) (ne_k h_301 h_311 (i := 0) (j := 100016) rfl rfl (by decide))).trans h_301
          have h_361 : M_352 pg = some (.inr (3, [.ref dg, .ref gg, .ref tg0, .int np, .int ns])) := (fr_359 _ (ne_k h_302 h_306 (i := 3) (j := 1) rfl rfl (by decide)) (ne_k h_302 h_307 (i := 3) (j := 10000100) rfl rfl (by decide)) (ne_k h_302 h_308 (i := 3) (j := 1100) rfl rfl (by decide)) (ne_k h_302 h_309 (i := 3) (j := 1100) rfl rfl (by decide)) (ne_k h_302 h_310 (i := 3) (j := 2) rfl rfl (by decide)) (ne_k h_302 h_311 (i := 3) (j := 100016) rfl rfl (by decide))).trans h_302
          have h_362 : M_352 dg = some (.inl (cI, 60, .inl dd)) := (fr_359 _ (ne_k h_303 h_306 (i := 1060) (j := 1) rfl rfl (by decide)) (ne_k h_303 h_307 (i := 1060) (j := 10000100) rfl rfl (by decide)) (ne_k h_303 h_308 (i := 1060) (j := 1100) rfl rfl (by decide)) (ne_k h_303 h_309 (i := 1060) (j := 1100) rfl rfl (by decide)) (ne_k h_303 h_310 (i := 1060) (j := 2) rfl rfl (by decide)) (ne_k h_303 h_311 (i := 1060) (j := 100016) rfl rfl (by decide))).trans h_303
          have h_363 : M_352 gg = some (.inl (cI, 60, .inl gd)) := (fr_359 _ (ne_k h_304 h_306 (i := 1060) (j := 1) rfl rfl (by decide)) (ne_k h_304 h_307 (i := 1060) (j := 10000100) rfl rfl (by decide)) (ne_k h_304 h_308 (i := 1060) (j := 1100) rfl rfl (by decide)) (ne_k h_304 h_309 (i := 1060) (j := 1100) rfl rfl (by decide)) (ne_k h_304 h_310 (i := 1060) (j := 2) rfl rfl (by decide)) (ne_k h_304 h_311 (i := 1060) (j := 100016) rfl rfl (by decide))).trans h_304
          have h_364 : M_352 tg0 = some (.inl (cQ, 60, .inr (.inr (.inr (.inr (tdOf ns sa)))))) := (fr_359 _ (ne_k h_305 h_306 (i := 10000060) (j := 1) rfl rfl (by decide)) (ne_k h_305 h_307 (i := 10000060) (j := 10000100) rfl rfl (by decide)) (ne_k h_305 h_308 (i := 10000060) (j := 1100) rfl rfl (by decide)) (ne_k h_305 h_309 (i := 10000060) (j := 1100) rfl rfl (by decide)) (ne_k h_305 h_310 (i := 10000060) (j := 2) rfl rfl (by decide)) (ne_k h_305 h_311 (i := 10000060) (j := 100016) rfl rfl (by decide))).trans h_305
          have h_365 : M_352 ra = some (.inl (cI, 4096, .inl (sp_note_ra rd2 k nx))) := (fr_359 _ (ne_k h_299 h_306 (i := 5096) (j := 1) rfl rfl (by decide)) (ne_k h_299 h_307 (i := 5096) (j := 10000100) rfl rfl (by decide)) (ne_k h_299 h_308 (i := 5096) (j := 1100) rfl rfl (by decide)) (ne_k h_299 h_309 (i := 5096) (j := 1100) rfl rfl (by decide)) (ne_k h_299 h_310 (i := 5096) (j := 2) rfl rfl (by decide)) (ne_k h_299 h_311 (i := 5096) (j := 100016) rfl rfl (by decide))).trans h_299
          have hp_366 := hp_312.keep (M' := M_352) (fun q e he ht => fr_359 q (ne_p he ht h_306 (j := 1) rfl (by decide)) (ne_p he ht h_307 (j := 10000100) rfl (by decide)) (ne_p he ht h_308 (j := 1100) rfl (by decide)) (ne_p he ht h_309 (j := 1100) rfl (by decide)) (ne_p he ht h_310 (j := 2) rfl (by decide)) (ne_p he ht h_311 (j := 100016) rfl (by decide)))
          have hlo_367 : ∀ k j : Nat, (sp_performing_la ns h2 lo2 (sp_performedBy np dd nx) σ) k = some j → (j : Int) < ns.toInt := perf_lo hlo2
          refine V.wr (pc' := 92) (lv' := [(4, .int (sp_performing ns h2 g (sp_performedBy np dd nx) σ)), (7, .int (sp_performedBy np dd nx)), (6, .int nx), (0, .ref co), (1, .int x), (2, .long steps), (5, .int k)]) (fun hl => lv_istore X.1 X.2.1 d_Course_travel_90 hl (by decide) rfl) ?_
          refine V.rd (pc' := 94) (fun hl => lv_iload X.1 X.2.1 d_Course_travel_92 (lv_at hl 0 rfl)) ?_
          refine V.go (pc' := 95) (lv_iconst (v := (-1)) X.1 X.2.1 d_Course_travel_94 (by decide)) ?_
          refine V.bn (pc' := 98) (tgt := 106) (P := (sp_performing ns h2 g (sp_performedBy np dd nx) σ) = (-1)) (lv_icmp_ne X.1 X.2.1 d_Course_travel_95 (by decide)) (fun c_368 => ?_) (fun c_368 => ?_)
          · have i_369 := congrArg Int32.toInt c_368
            refine V.rd (pc' := 99) (fun hl => lv_aload_n X.1 X.2.1 d_Course_travel_98 rfl (lv_at hl 3 rfl)) ?_
            refine V.rd (pc' := 101) (fun hl => lv_iload X.1 X.2.1 d_Course_travel_99 (lv_at hl 2 rfl)) ?_
            refine V.callV (pc' := 104) X hK (c_behindDoing  (co := co) (pg := pg) (ce := ce) (pi := pi) (ra := ra) (va := va) (dg := dg) (gg := gg) (tg0 := tg0) (la := la) (pe := pe) (tu := tu) (ln := ln) (en := sp_performing_co_5 en2 ns h2 (sp_performedBy np dd nx) σ) (np := np) (ns := ns) (hh := sp_performing_pi_3 ns h2 g (sp_performedBy np dd nx) σ) (hi := sp_performing_pi_4 ns h2 hi2 g (sp_performedBy np dd nx) σ) (gd := gd) (f := sp_performing_va ns h2 g (sp_performedBy np dd nx) σ) (lo := (sp_performing_la ns h2 lo2 (sp_performedBy np dd nx) σ)) (pd := sp_performing_pe ns h2 pd2 (sp_performedBy np dd nx) nx σ) (ud := sp_performing_tu ns h2 ud2 (sp_performedBy np dd nx) σ) (x := nx)  ne0 h_353 h_360 h_358 h_361 h_363 h_357 h_354 h_355 h_356 hp_366 hσ hlo_367) h_353 rfl (cwG (n := 1) X (mcs wd_163) (mcs wd_164) (mcs wd_165) (mcs wd_92) wd_166 (by decide +kernel) (by decide) (by decide)) rfl rfl (Nat.le_of_ble_eq_true rfl) d_Course_travel_101 ⟨by decide, by decide⟩ rfl (st1 := [.int (lp_behindDoing np gd (sp_performing_la ns h2 lo2 (sp_performedBy np dd nx) σ) (sp_performing_pe ns h2 pd2 (sp_performedBy np dd nx) nx σ) σ 101 nx 0 (sp_performing_va ns h2 g (sp_performedBy np dd nx) σ) (sp_performing_pi_3 ns h2 g (sp_performedBy np dd nx) σ) (sp_performing_tu ns h2 ud2 (sp_performedBy np dd nx) σ))]) rfl (fun M_370 ⟨h_371, h_372, h_373, h_374, fr_375⟩ => ?_)
            have h_376 : M_370 ce = some (.inr (0, [.ref va])) := (fr_375 _ (ne_k h_360 h_353 (i := 0) (j := 1) rfl rfl (by decide)) (ne_k h_360 h_356 (i := 0) (j := 1100) rfl rfl (by decide)) (ne_k h_360 h_358 (i := 0) (j := 100016) rfl rfl (by decide)) (ne_k h_360 h_357 (i := 0) (j := 2) rfl rfl (by decide))).trans h_360
            have h_377 : M_370 pg = some (.inr (3, [.ref dg, .ref gg, .ref tg0, .int np, .int ns])) := (fr_375 _ (ne_k h_361 h_353 (i := 3) (j := 1) rfl rfl (by decide)) (ne_k h_361 h_356 (i := 3) (j := 1100) rfl rfl (by decide)) (ne_k h_361 h_358 (i := 3) (j := 100016) rfl rfl (by decide)) (ne_k h_361 h_357 (i := 3) (j := 2) rfl rfl (by decide))).trans h_361
            have h_378 : M_370 dg = some (.inl (cI, 60, .inl dd)) := (fr_375 _ (ne_k h_362 h_353 (i := 1060) (j := 1) rfl rfl (by decide)) (ne_k h_362 h_356 (i := 1060) (j := 1100) rfl rfl (by decide)) (ne_k h_362 h_358 (i := 1060) (j := 100016) rfl rfl (by decide)) (ne_k h_362 h_357 (i := 1060) (j := 2) rfl rfl (by decide))).trans h_362
            have h_379 : M_370 gg = some (.inl (cI, 60, .inl gd)) := (fr_375 _ (ne_k h_363 h_353 (i := 1060) (j := 1) rfl rfl (by decide)) (ne_k h_363 h_356 (i := 1060) (j := 1100) rfl rfl (by decide)) (ne_k h_363 h_358 (i := 1060) (j := 100016) rfl rfl (by decide)) (ne_k h_363 h_357 (i := 1060) (j := 2) rfl rfl (by decide))).trans h_363
            have h_380 : M_370 tg0 = some (.inl (cQ, 60, .inr (.inr (.inr (.inr (tdOf ns sa)))))) := (fr_375 _ (ne_k h_364 h_353 (i := 10000060) (j := 1) rfl rfl (by decide)) (ne_k h_364 h_356 (i := 10000060) (j := 1100) rfl rfl (by decide)) (ne_k h_364 h_358 (i := 10000060) (j := 100016) rfl rfl (by decide)) (ne_k h_364 h_357 (i := 10000060) (j := 2) rfl rfl (by decide))).trans h_364
            have h_381 : M_370 ra = some (.inl (cI, 4096, .inl (sp_note_ra rd2 k nx))) := (fr_375 _ (ne_k h_365 h_353 (i := 5096) (j := 1) rfl rfl (by decide)) (ne_k h_365 h_356 (i := 5096) (j := 1100) rfl rfl (by decide)) (ne_k h_365 h_358 (i := 5096) (j := 100016) rfl rfl (by decide)) (ne_k h_365 h_357 (i := 5096) (j := 2) rfl rfl (by decide))).trans h_365
            have h_382 : M_370 la = some (.inl (cQ, 100, .inr (.inr (.inr (.inr (lq (sp_performing_la ns h2 lo2 (sp_performedBy np dd nx) σ) sa)))))) := (fr_375 _ (ne_k h_354 h_353 (i := 10000100) (j := 1) rfl rfl (by decide)) (ne_k h_354 h_356 (i := 10000100) (j := 1100) rfl rfl (by decide)) (ne_k h_354 h_358 (i := 10000100) (j := 100016) rfl rfl (by decide)) (ne_k h_354 h_357 (i := 10000100) (j := 2) rfl rfl (by decide))).trans h_354
            have h_383 : M_370 pe = some (.inl (cI, 100, .inl (sp_performing_pe ns h2 pd2 (sp_performedBy np dd nx) nx σ))) := (fr_375 _ (ne_k h_355 h_353 (i := 1100) (j := 1) rfl rfl (by decide)) ne0 (ne_k h_355 h_358 (i := 1100) (j := 100016) rfl rfl (by decide)) (ne_k h_355 h_357 (i := 1100) (j := 2) rfl rfl (by decide))).trans h_355
            have hp_384 := hp_366.keep (M' := M_370) (fun q e he ht => fr_375 q (ne_p he ht h_353 (j := 1) rfl (by decide)) (ne_p he ht h_356 (j := 1100) rfl (by decide)) (ne_p he ht h_358 (j := 100016) rfl (by decide)) (ne_p he ht h_357 (j := 2) rfl (by decide)))
            refine V.wr (pc' := 106) (lv' := [(4, .int (lp_behindDoing np gd (sp_performing_la ns h2 lo2 (sp_performedBy np dd nx) σ) (sp_performing_pe ns h2 pd2 (sp_performedBy np dd nx) nx σ) σ 101 nx 0 (sp_performing_va ns h2 g (sp_performedBy np dd nx) σ) (sp_performing_pi_3 ns h2 g (sp_performedBy np dd nx) σ) (sp_performing_tu ns h2 ud2 (sp_performedBy np dd nx) σ))), (7, .int (sp_performedBy np dd nx)), (6, .int nx), (0, .ref co), (1, .int x), (2, .long steps), (5, .int k)]) (fun hl => lv_istore X.1 X.2.1 d_Course_travel_104 hl (by decide) rfl) ?_
            refine V.wr (pc' := 109) (lv' := [(5, .int (k + 1)), (4, .int (lp_behindDoing np gd (sp_performing_la ns h2 lo2 (sp_performedBy np dd nx) σ) (sp_performing_pe ns h2 pd2 (sp_performedBy np dd nx) nx σ) σ 101 nx 0 (sp_performing_va ns h2 g (sp_performedBy np dd nx) σ) (sp_performing_pi_3 ns h2 g (sp_performedBy np dd nx) σ) (sp_performing_tu ns h2 ud2 (sp_performedBy np dd nx) σ))), (7, .int (sp_performedBy np dd nx)), (6, .int nx), (0, .ref co), (1, .int x), (2, .long steps)]) (fun hl => lv_iinc (k := 6) (v := k + 1) X.1 X.2.1 d_Course_travel_106 hl rfl rfl (by decide) rfl) ?_
            have s_385 : (k + 1).toInt = k.toInt + (1) := i32_add1 (by omega)
            refine V.go (pc' := 31) (lv_goto X.1 X.2.1 d_Course_travel_109 (by decide)) ?_
            refine V.pick [4, 5, 6, 1, 0] rfl ?_
            exact ih_233 n_232 (by omega) () _ _ ⟨(lp_behindDoing np gd (sp_performing_la ns h2 lo2 (sp_performedBy np dd nx) σ) (sp_performing_pe ns h2 pd2 (sp_performedBy np dd nx) nx σ) σ 101 nx 0 (sp_performing_va ns h2 g (sp_performedBy np dd nx) σ) (sp_performing_pi_3 ns h2 g (sp_performedBy np dd nx) σ) (sp_performing_tu ns h2 ud2 (sp_performedBy np dd nx) σ)), (k + 1), (lp_behindDoing_va np gd (sp_performing_la ns h2 lo2 (sp_performedBy np dd nx) σ) (sp_performing_pe ns h2 pd2 (sp_performedBy np dd nx) nx σ) σ 101 nx 0 (sp_performing_va ns h2 g (sp_performedBy np dd nx) σ) (sp_performing_pi_3 ns h2 g (sp_performedBy np dd nx) σ) (sp_performing_tu ns h2 ud2 (sp_performedBy np dd nx) σ)), (lp_behindDoing_pi_3 np gd (sp_performing_la ns h2 lo2 (sp_performedBy np dd nx) σ) (sp_performing_pe ns h2 pd2 (sp_performedBy np dd nx) nx σ) σ 101 nx 0 (sp_performing_va ns h2 g (sp_performedBy np dd nx) σ) (sp_performing_pi_3 ns h2 g (sp_performedBy np dd nx) σ) (sp_performing_tu ns h2 ud2 (sp_performedBy np dd nx) σ)), (sp_performing_pi_4 ns h2 hi2 g (sp_performedBy np dd nx) σ), (lp_behindDoing_co_5 (sp_performing_co_5 en2 ns h2 (sp_performedBy np dd nx) σ) np gd (sp_performing_la ns h2 lo2 (sp_performedBy np dd nx) σ) (sp_performing_pe ns h2 pd2 (sp_performedBy np dd nx) nx σ) σ 101 nx 0 (sp_performing_va ns h2 g (sp_performedBy np dd nx) σ) (sp_performing_pi_3 ns h2 g (sp_performedBy np dd nx) σ) (sp_performing_tu ns h2 ud2 (sp_performedBy np dd nx) σ)), (lp_behindDoing_tu np gd (sp_performing_la ns h2 lo2 (sp_performedBy np dd nx) σ) (sp_performing_pe ns h2 pd2 (sp_performedBy np dd nx) nx σ) σ 101 nx 0 (sp_performing_va ns h2 g (sp_performedBy np dd nx) σ) (sp_performing_pi_3 ns h2 g (sp_performedBy np dd nx) σ) (sp_performing_tu ns h2 ud2 (sp_performedBy np dd nx) σ)), (sp_performing_pe ns h2 pd2 (sp_performedBy np dd nx) nx σ), (sp_performing_la ns h2 lo2 (sp_performedBy np dd nx) σ), (sp_note_ra rd2 k nx), rfl, h_376, h_377, h_378, h_379, h_380, h_381, h_371, h_382, h_383, h_372, h_374, h_373, hp_384, (fun q n0_ n1_ n2_ n3_ n4_ n5_ n6_ => (fr_375 q n2_ n3_ n0_ n1_).trans ((fr_359 q n2_ n5_ n4_ n3_ n1_ n0_).trans ((fr_300 q n6_).trans ((fr_236 q n0_ n1_ n2_ n3_ n4_ n5_ n6_))))), (by omega), (by omega), hlo_367, (by rw [← e_238, lp_travel]; simp only [if_neg c_248, if_neg c_266, if_neg c_314, if_pos c_368]), (by rw [← e_239, lp_travel_pi_3]; simp only [if_neg c_248, if_neg c_266, if_neg c_314, if_pos c_368]), (by rw [← e_240, lp_travel_pi_4]; simp only [if_neg c_248, if_neg c_266, if_neg c_314, if_pos c_368]), (by rw [← e_241, lp_travel_co_4]; simp only [if_neg c_248, if_neg c_266, if_neg c_314, if_pos c_368]), (by rw [← e_242, lp_travel_co_5]; simp only [if_neg c_248, if_neg c_266, if_neg c_314, if_pos c_368]), (by rw [← e_243, lp_travel_la]; simp only [if_neg c_248, if_neg c_266, if_neg c_314, if_pos c_368]), (by rw [← e_244, lp_travel_pe]; simp only [if_neg c_248, if_neg c_266, if_neg c_314, if_pos c_368]), (by rw [← e_245, lp_travel_tu]; simp only [if_neg c_248, if_neg c_266, if_neg c_314, if_pos c_368]), (by rw [← e_246, lp_travel_va]; simp only [if_neg c_248, if_neg c_266, if_neg c_314, if_pos c_368]), (by rw [← e_247, lp_travel_ra]; simp only [if_neg c_248, if_neg c_266, if_neg c_314, if_pos c_368])⟩
          · have i_386 := mt Int32.toInt_inj.mp c_368
            refine V.wr (pc' := 109) (lv' := [(5, .int (k + 1)), (4, .int (sp_performing ns h2 g (sp_performedBy np dd nx) σ)), (7, .int (sp_performedBy np dd nx)), (6, .int nx), (0, .ref co), (1, .int x), (2, .long steps)]) (fun hl => lv_iinc (k := 6) (v := k + 1) X.1 X.2.1 d_Course_travel_106 hl rfl rfl (by decide) rfl) ?_
            have s_387 : (k + 1).toInt = k.toInt + (1) := i32_add1 (by omega)
            refine V.go (pc' := 31) (lv_goto X.1 X.2.1 d_Course_travel_109 (by decide)) ?_
            refine V.pick [4, 5, 6, 1, 0] rfl ?_
            exact ih_233 n_232 (by omega) () _ _ ⟨(sp_performing ns h2 g (sp_performedBy np dd nx) σ), (k + 1), (sp_performing_va ns h2 g (sp_performedBy np dd nx) σ), (sp_performing_pi_3 ns h2 g (sp_performedBy np dd nx) σ), (sp_performing_pi_4 ns h2 hi2 g (sp_performedBy np dd nx) σ), (sp_performing_co_5 en2 ns h2 (sp_performedBy np dd nx) σ), (sp_performing_tu ns h2 ud2 (sp_performedBy np dd nx) σ), (sp_performing_pe ns h2 pd2 (sp_performedBy np dd nx) nx σ), (sp_performing_la ns h2 lo2 (sp_performedBy np dd nx) σ), (sp_note_ra rd2 k nx), rfl, h_360, h_361, h_362, h_363, h_364, h_365, h_353, h_354, h_355, h_356, h_357, h_358, hp_366, (fun q n0_ n1_ n2_ n3_ n4_ n5_ n6_ => (fr_359 q n2_ n5_ n4_ n3_ n1_ n0_).trans ((fr_300 q n6_).trans ((fr_236 q n0_ n1_ n2_ n3_ n4_ n5_ n6_)))), (by omega), (by omega), hlo_367, (by rw [← e_238, lp_travel]; simp only [if_neg c_248, if_neg c_266, if_neg c_314, if_neg c_368]), (by rw [← e_239, lp_travel_pi_3]; simp only [if_neg c_248, if_neg c_266, if_neg c_314, if_neg c_368]), (by rw [← e_240, lp_travel_pi_4]; simp only [if_neg c_248, if_neg c_266, if_neg c_314, if_neg c_368]), (by rw [← e_241, lp_travel_co_4]; simp only [if_neg c_248, if_neg c_266, if_neg c_314, if_neg c_368]), (by rw [← e_242, lp_travel_co_5]; simp only [if_neg c_248, if_neg c_266, if_neg c_314, if_neg c_368]), (by rw [← e_243, lp_travel_la]; simp only [if_neg c_248, if_neg c_266, if_neg c_314, if_neg c_368]), (by rw [← e_244, lp_travel_pe]; simp only [if_neg c_248, if_neg c_266, if_neg c_314, if_neg c_368]), (by rw [← e_245, lp_travel_tu]; simp only [if_neg c_248, if_neg c_266, if_neg c_314, if_neg c_368]), (by rw [← e_246, lp_travel_va]; simp only [if_neg c_248, if_neg c_266, if_neg c_314, if_neg c_368]), (by rw [← e_247, lp_travel_ra]; simp only [if_neg c_248, if_neg c_266, if_neg c_314, if_neg c_368])⟩

def sp_note0_ra (rd : Nat → Int32) (x : Int32) (y : Int32) : Nat → Int32 := if x < 0 then rd else if 0 ≤ x then rd else upd rd x.toNatClampNeg y
set_option maxHeartbeats 4000000 in
set_option maxRecDepth 100000 in
theorem c_note0 {l : Launch} {H0 : Heap} {D : va_G} {cI cL cQ cB : ClassId} {M : mp} {co pg ce pi ra : Nat} {ln : Int32} {en : Int32} {rd : Nat → Int32} {x : Int32} {y : Int32} (gh0 : M co = some (.inr (1, [.ref pg, .ref ce, .ref pi, .ref ra, .int ln, .int en]))) (gh1 : M ra = some (.inl (cI, 0, .inl rd))) : MC l H0 D cls7 (tysOf cI cL cQ cB) NW ({ cls := "PerformRanges$Course", name := "note", desc := "(II)V" } : Jvm.MethodName) (Cond.code ({ cls := "PerformRanges$Course", name := "note", desc := "(II)V" } : Jvm.MethodName) prog_3_method_4_code 3 (Option.none : Option Jvm.ClassFile.FieldType) :: GW) ({ frames := 0, cells := 0, slots := 0, locals := 0 }) [.ref co, .int x, .int y] M (fun v M' => v = none ∧ M' ra = some (.inl (cI, 0, .inl (sp_note0_ra rd x y))) ∧ ∀ q, q ≠ ra → M' q = M q) := by
  refine MC.of (cc := prog_3_method_4_code) (nL := 3) (ret := (Option.none : Option Jvm.ClassFile.FieldType)) (lv := [(0, .ref co), (1, .int x), (2, .int y)]) (by decide) rfl (Nat.le_of_ble_eq_true rfl) rfl ?_
  intro p e s m below meth c X hr hlk hnm hK
  have k0 : (0 : Int32).toInt = 0 := rfl
  refine V.rd (pc' := 1) (fun hl => lv_iload_n X.1 X.2.1 d_Course_note_0 rfl (lv_at hl 1 rfl)) ?_
  refine V.br (pc' := 4) (tgt := 20) (P := x < 0) (lv_if_lt X.1 X.2.1 d_Course_note_1 (by decide)) (fun c_1 => ?_) (fun c_1 => ?_)
  · have i_2 := Int32.lt_iff_toInt_lt.mp c_1
    exact V.vret X hr hlk ⟨rfl, (by simp only [sp_note0_ra, if_pos c_1]; exact gh1), (fun q n0_ => rfl)⟩ d_Course_note_20
  · have i_3 := mt Int32.lt_iff_toInt_lt.mpr c_1
    refine V.rd (pc' := 5) (fun hl => lv_iload_n X.1 X.2.1 d_Course_note_4 rfl (lv_at hl 1 rfl)) ?_
    refine V.rd (pc' := 6) (fun hl => lv_aload_n X.1 X.2.1 d_Course_note_5 rfl (lv_at hl 0 rfl)) ?_
    refine V.get (pc' := 9) X hK gh0 uw_Course rfl 3 (by decide) (mcs wd_141) rfl d_Course_note_6 rfl ?_
    have k_4 : (0 : Int32).toInt = 0 := rfl
    refine V.alen (pc' := 10) X hK 0 gh1 rfl (v := 0) rfl d_Course_note_9 rfl ?_
    refine V.br (pc' := 13) (tgt := 20) (P := 0 ≤ x) (lv_icmp_ge X.1 X.2.1 d_Course_note_10 (by decide)) (fun c_5 => ?_) (fun c_5 => ?_)
    · have i_6 := Int32.le_iff_toInt_le.mp c_5
      exact V.vret X hr hlk ⟨rfl, (by simp only [sp_note0_ra, if_neg c_1, if_pos c_5]; exact gh1), (fun q n0_ => rfl)⟩ d_Course_note_20
    · have i_7 := mt Int32.le_iff_toInt_le.mpr c_5
      refine V.rd (pc' := 14) (fun hl => lv_aload_n X.1 X.2.1 d_Course_note_13 rfl (lv_at hl 0 rfl)) ?_
      refine V.get (pc' := 17) X hK gh0 uw_Course rfl 3 (by decide) (mcs wd_141) rfl d_Course_note_14 rfl ?_
      refine V.rd (pc' := 18) (fun hl => lv_iload_n X.1 X.2.1 d_Course_note_17 rfl (lv_at hl 1 rfl)) ?_
      refine V.rd (pc' := 19) (fun hl => lv_iload_n X.1 X.2.1 d_Course_note_18 rfl (lv_at hl 2 rfl)) ?_
      refine V.iast (pc' := 20) X hK 0 gh1 rfl (vin (by omega) (by omega)) d_Course_note_19 rfl (fun M_8 h_9 fr_10 => ?_)
      have h_11 : M_8 co = some (.inr (1, [.ref pg, .ref ce, .ref pi, .ref ra, .int ln, .int en])) := (fr_10 _ (ne_k gh0 gh1 (i := 1) (j := 1000) rfl rfl (by decide))).trans gh0
      exact V.vret X hr hlk ⟨rfl, (by simp only [sp_note0_ra, if_neg c_1, if_neg c_5]; exact h_9), (fun q n0_ => (fr_10 q n0_))⟩ d_Course_note_20

def lp_travel0 (np : Int32) (ns : Int32) (dd : Nat → Int32) (gd : Nat → Int32) (steps : Int64) (σ : Nat → Stm) : Nat → Int32 → Int32 → (Nat → Int64) → Int32 → Int32 → Int32 → (Nat → Int32) → (Nat → Int32) → (Nat → Option Nat) → (Nat → Int32) → Int32
  | 0, _, _, _, _, _, _, _, _, _, _ => 0
  | n_ + 1, nx, k, g, h2, hi2, en2, ud2, pd2, lo2, rd2 => if nx = 0 then k else if 0 ≤ (lg_cmp k.toInt64 steps) then k else if (sp_performedBy np dd nx) = (-1) then (if (sp_doing np dd g nx) = (-1) then lp_travel0 np ns dd gd steps σ n_ (lp_behindDoing np gd lo2 pd2 σ 101 nx 0 (sp_doing_va np dd g nx) h2 ud2) (k + 1) (lp_behindDoing_va np gd lo2 pd2 σ 101 nx 0 (sp_doing_va np dd g nx) h2 ud2) (lp_behindDoing_pi_3 np gd lo2 pd2 σ 101 nx 0 (sp_doing_va np dd g nx) h2 ud2) hi2 (lp_behindDoing_co_5 (sp_doing_co_5 en2 np dd g nx) np gd lo2 pd2 σ 101 nx 0 (sp_doing_va np dd g nx) h2 ud2) (lp_behindDoing_tu np gd lo2 pd2 σ 101 nx 0 (sp_doing_va np dd g nx) h2 ud2) pd2 lo2 (sp_note0_ra rd2 k nx) else lp_travel0 np ns dd gd steps σ n_ (sp_doing np dd g nx) (k + 1) (sp_doing_va np dd g nx) h2 hi2 (sp_doing_co_5 en2 np dd g nx) ud2 pd2 lo2 (sp_note0_ra rd2 k nx)) else if (sp_performing ns h2 g (sp_performedBy np dd nx) σ) = (-1) then lp_travel0 np ns dd gd steps σ n_ (lp_behindDoing np gd (sp_performing_la ns h2 lo2 (sp_performedBy np dd nx) σ) (sp_performing_pe ns h2 pd2 (sp_performedBy np dd nx) nx σ) σ 101 nx 0 (sp_performing_va ns h2 g (sp_performedBy np dd nx) σ) (sp_performing_pi_3 ns h2 g (sp_performedBy np dd nx) σ) (sp_performing_tu ns h2 ud2 (sp_performedBy np dd nx) σ)) (k + 1) (lp_behindDoing_va np gd (sp_performing_la ns h2 lo2 (sp_performedBy np dd nx) σ) (sp_performing_pe ns h2 pd2 (sp_performedBy np dd nx) nx σ) σ 101 nx 0 (sp_performing_va ns h2 g (sp_performedBy np dd nx) σ) (sp_performing_pi_3 ns h2 g (sp_performedBy np dd nx) σ) (sp_performing_tu ns h2 ud2 (sp_performedBy np dd nx) σ)) (lp_behindDoing_pi_3 np gd (sp_performing_la ns h2 lo2 (sp_performedBy np dd nx) σ) (sp_performing_pe ns h2 pd2 (sp_performedBy np dd nx) nx σ) σ 101 nx 0 (sp_performing_va ns h2 g (sp_performedBy np dd nx) σ) (sp_performing_pi_3 ns h2 g (sp_performedBy np dd nx) σ) (sp_performing_tu ns h2 ud2 (sp_performedBy np dd nx) σ)) (sp_performing_pi_4 ns h2 hi2 g (sp_performedBy np dd nx) σ) (lp_behindDoing_co_5 (sp_performing_co_5 en2 ns h2 (sp_performedBy np dd nx) σ) np gd (sp_performing_la ns h2 lo2 (sp_performedBy np dd nx) σ) (sp_performing_pe ns h2 pd2 (sp_performedBy np dd nx) nx σ) σ 101 nx 0 (sp_performing_va ns h2 g (sp_performedBy np dd nx) σ) (sp_performing_pi_3 ns h2 g (sp_performedBy np dd nx) σ) (sp_performing_tu ns h2 ud2 (sp_performedBy np dd nx) σ)) (lp_behindDoing_tu np gd (sp_performing_la ns h2 lo2 (sp_performedBy np dd nx) σ) (sp_performing_pe ns h2 pd2 (sp_performedBy np dd nx) nx σ) σ 101 nx 0 (sp_performing_va ns h2 g (sp_performedBy np dd nx) σ) (sp_performing_pi_3 ns h2 g (sp_performedBy np dd nx) σ) (sp_performing_tu ns h2 ud2 (sp_performedBy np dd nx) σ)) (sp_performing_pe ns h2 pd2 (sp_performedBy np dd nx) nx σ) (sp_performing_la ns h2 lo2 (sp_performedBy np dd nx) σ) (sp_note0_ra rd2 k nx) else lp_travel0 np ns dd gd steps σ n_ (sp_performing ns h2 g (sp_performedBy np dd nx) σ) (k + 1) (sp_performing_va ns h2 g (sp_performedBy np dd nx) σ) (sp_performing_pi_3 ns h2 g (sp_performedBy np dd nx) σ) (sp_performing_pi_4 ns h2 hi2 g (sp_performedBy np dd nx) σ) (sp_performing_co_5 en2 ns h2 (sp_performedBy np dd nx) σ) (sp_performing_tu ns h2 ud2 (sp_performedBy np dd nx) σ) (sp_performing_pe ns h2 pd2 (sp_performedBy np dd nx) nx σ) (sp_performing_la ns h2 lo2 (sp_performedBy np dd nx) σ) (sp_note0_ra rd2 k nx)
def sp_travel0 (en : Int32) (np : Int32) (ns : Int32) (hi : Int32) (dd : Nat → Int32) (gd : Nat → Int32) (f : Nat → Int64) (lo : Nat → Option Nat) (pd : Nat → Int32) (ud : Nat → Int32) (rd : Nat → Int32) (x : Int32) (steps : Int64) (σ : Nat → Stm) : Int32 := if (sp_performing ns 0 f x σ) = (-1) then lp_travel0 np ns dd gd steps σ 4097 0 0 (sp_performing_va ns 0 f x σ) (sp_performing_pi_3 ns 0 f x σ) (sp_performing_pi_4 ns 0 hi f x σ) 0 (sp_performing_tu ns 0 ud x σ) (sp_performing_pe ns 0 pd x 0 σ) (sp_performing_la ns 0 lo x σ) rd else lp_travel0 np ns dd gd steps σ 4097 (sp_performing ns 0 f x σ) 0 (sp_performing_va ns 0 f x σ) (sp_performing_pi_3 ns 0 f x σ) (sp_performing_pi_4 ns 0 hi f x σ) (sp_performing_co_5 en ns 0 x σ) (sp_performing_tu ns 0 ud x σ) (sp_performing_pe ns 0 pd x 0 σ) (sp_performing_la ns 0 lo x σ) rd
def lp_travel0_pi_3 (np : Int32) (ns : Int32) (dd : Nat → Int32) (gd : Nat → Int32) (steps : Int64) (σ : Nat → Stm) : Nat → Int32 → Int32 → (Nat → Int64) → Int32 → Int32 → Int32 → (Nat → Int32) → (Nat → Int32) → (Nat → Option Nat) → (Nat → Int32) → Int32
  | 0, _, _, _, h2, _, _, _, _, _, _ => h2
  | n_ + 1, nx, k, g, h2, hi2, en2, ud2, pd2, lo2, rd2 => if nx = 0 then h2 else if 0 ≤ (lg_cmp k.toInt64 steps) then h2 else if (sp_performedBy np dd nx) = (-1) then (if (sp_doing np dd g nx) = (-1) then lp_travel0_pi_3 np ns dd gd steps σ n_ (lp_behindDoing np gd lo2 pd2 σ 101 nx 0 (sp_doing_va np dd g nx) h2 ud2) (k + 1) (lp_behindDoing_va np gd lo2 pd2 σ 101 nx 0 (sp_doing_va np dd g nx) h2 ud2) (lp_behindDoing_pi_3 np gd lo2 pd2 σ 101 nx 0 (sp_doing_va np dd g nx) h2 ud2) hi2 (lp_behindDoing_co_5 (sp_doing_co_5 en2 np dd g nx) np gd lo2 pd2 σ 101 nx 0 (sp_doing_va np dd g nx) h2 ud2) (lp_behindDoing_tu np gd lo2 pd2 σ 101 nx 0 (sp_doing_va np dd g nx) h2 ud2) pd2 lo2 (sp_note0_ra rd2 k nx) else lp_travel0_pi_3 np ns dd gd steps σ n_ (sp_doing np dd g nx) (k + 1) (sp_doing_va np dd g nx) h2 hi2 (sp_doing_co_5 en2 np dd g nx) ud2 pd2 lo2 (sp_note0_ra rd2 k nx)) else if (sp_performing ns h2 g (sp_performedBy np dd nx) σ) = (-1) then lp_travel0_pi_3 np ns dd gd steps σ n_ (lp_behindDoing np gd (sp_performing_la ns h2 lo2 (sp_performedBy np dd nx) σ) (sp_performing_pe ns h2 pd2 (sp_performedBy np dd nx) nx σ) σ 101 nx 0 (sp_performing_va ns h2 g (sp_performedBy np dd nx) σ) (sp_performing_pi_3 ns h2 g (sp_performedBy np dd nx) σ) (sp_performing_tu ns h2 ud2 (sp_performedBy np dd nx) σ)) (k + 1) (lp_behindDoing_va np gd (sp_performing_la ns h2 lo2 (sp_performedBy np dd nx) σ) (sp_performing_pe ns h2 pd2 (sp_performedBy np dd nx) nx σ) σ 101 nx 0 (sp_performing_va ns h2 g (sp_performedBy np dd nx) σ) (sp_performing_pi_3 ns h2 g (sp_performedBy np dd nx) σ) (sp_performing_tu ns h2 ud2 (sp_performedBy np dd nx) σ)) (lp_behindDoing_pi_3 np gd (sp_performing_la ns h2 lo2 (sp_performedBy np dd nx) σ) (sp_performing_pe ns h2 pd2 (sp_performedBy np dd nx) nx σ) σ 101 nx 0 (sp_performing_va ns h2 g (sp_performedBy np dd nx) σ) (sp_performing_pi_3 ns h2 g (sp_performedBy np dd nx) σ) (sp_performing_tu ns h2 ud2 (sp_performedBy np dd nx) σ)) (sp_performing_pi_4 ns h2 hi2 g (sp_performedBy np dd nx) σ) (lp_behindDoing_co_5 (sp_performing_co_5 en2 ns h2 (sp_performedBy np dd nx) σ) np gd (sp_performing_la ns h2 lo2 (sp_performedBy np dd nx) σ) (sp_performing_pe ns h2 pd2 (sp_performedBy np dd nx) nx σ) σ 101 nx 0 (sp_performing_va ns h2 g (sp_performedBy np dd nx) σ) (sp_performing_pi_3 ns h2 g (sp_performedBy np dd nx) σ) (sp_performing_tu ns h2 ud2 (sp_performedBy np dd nx) σ)) (lp_behindDoing_tu np gd (sp_performing_la ns h2 lo2 (sp_performedBy np dd nx) σ) (sp_performing_pe ns h2 pd2 (sp_performedBy np dd nx) nx σ) σ 101 nx 0 (sp_performing_va ns h2 g (sp_performedBy np dd nx) σ) (sp_performing_pi_3 ns h2 g (sp_performedBy np dd nx) σ) (sp_performing_tu ns h2 ud2 (sp_performedBy np dd nx) σ)) (sp_performing_pe ns h2 pd2 (sp_performedBy np dd nx) nx σ) (sp_performing_la ns h2 lo2 (sp_performedBy np dd nx) σ) (sp_note0_ra rd2 k nx) else lp_travel0_pi_3 np ns dd gd steps σ n_ (sp_performing ns h2 g (sp_performedBy np dd nx) σ) (k + 1) (sp_performing_va ns h2 g (sp_performedBy np dd nx) σ) (sp_performing_pi_3 ns h2 g (sp_performedBy np dd nx) σ) (sp_performing_pi_4 ns h2 hi2 g (sp_performedBy np dd nx) σ) (sp_performing_co_5 en2 ns h2 (sp_performedBy np dd nx) σ) (sp_performing_tu ns h2 ud2 (sp_performedBy np dd nx) σ) (sp_performing_pe ns h2 pd2 (sp_performedBy np dd nx) nx σ) (sp_performing_la ns h2 lo2 (sp_performedBy np dd nx) σ) (sp_note0_ra rd2 k nx)
def sp_travel0_pi_3 (en : Int32) (np : Int32) (ns : Int32) (hi : Int32) (dd : Nat → Int32) (gd : Nat → Int32) (f : Nat → Int64) (lo : Nat → Option Nat) (pd : Nat → Int32) (ud : Nat → Int32) (rd : Nat → Int32) (x : Int32) (steps : Int64) (σ : Nat → Stm) : Int32 := if (sp_performing ns 0 f x σ) = (-1) then lp_travel0_pi_3 np ns dd gd steps σ 4097 0 0 (sp_performing_va ns 0 f x σ) (sp_performing_pi_3 ns 0 f x σ) (sp_performing_pi_4 ns 0 hi f x σ) 0 (sp_performing_tu ns 0 ud x σ) (sp_performing_pe ns 0 pd x 0 σ) (sp_performing_la ns 0 lo x σ) rd else lp_travel0_pi_3 np ns dd gd steps σ 4097 (sp_performing ns 0 f x σ) 0 (sp_performing_va ns 0 f x σ) (sp_performing_pi_3 ns 0 f x σ) (sp_performing_pi_4 ns 0 hi f x σ) (sp_performing_co_5 en ns 0 x σ) (sp_performing_tu ns 0 ud x σ) (sp_performing_pe ns 0 pd x 0 σ) (sp_performing_la ns 0 lo x σ) rd
def lp_travel0_pi_4 (np : Int32) (ns : Int32) (dd : Nat → Int32) (gd : Nat → Int32) (steps : Int64) (σ : Nat → Stm) : Nat → Int32 → Int32 → (Nat → Int64) → Int32 → Int32 → Int32 → (Nat → Int32) → (Nat → Int32) → (Nat → Option Nat) → (Nat → Int32) → Int32
  | 0, _, _, _, _, hi2, _, _, _, _, _ => hi2
  | n_ + 1, nx, k, g, h2, hi2, en2, ud2, pd2, lo2, rd2 => if nx = 0 then hi2 else if 0 ≤ (lg_cmp k.toInt64 steps) then hi2 else if (sp_performedBy np dd nx) = (-1) then (if (sp_doing np dd g nx) = (-1) then lp_travel0_pi_4 np ns dd gd steps σ n_ (lp_behindDoing np gd lo2 pd2 σ 101 nx 0 (sp_doing_va np dd g nx) h2 ud2) (k + 1) (lp_behindDoing_va np gd lo2 pd2 σ 101 nx 0 (sp_doing_va np dd g nx) h2 ud2) (lp_behindDoing_pi_3 np gd lo2 pd2 σ 101 nx 0 (sp_doing_va np dd g nx) h2 ud2) hi2 (lp_behindDoing_co_5 (sp_doing_co_5 en2 np dd g nx) np gd lo2 pd2 σ 101 nx 0 (sp_doing_va np dd g nx) h2 ud2) (lp_behindDoing_tu np gd lo2 pd2 σ 101 nx 0 (sp_doing_va np dd g nx) h2 ud2) pd2 lo2 (sp_note0_ra rd2 k nx) else lp_travel0_pi_4 np ns dd gd steps σ n_ (sp_doing np dd g nx) (k + 1) (sp_doing_va np dd g nx) h2 hi2 (sp_doing_co_5 en2 np dd g nx) ud2 pd2 lo2 (sp_note0_ra rd2 k nx)) else if (sp_performing ns h2 g (sp_performedBy np dd nx) σ) = (-1) then lp_travel0_pi_4 np ns dd gd steps σ n_ (lp_behindDoing np gd (sp_performing_la ns h2 lo2 (sp_performedBy np dd nx) σ) (sp_performing_pe ns h2 pd2 (sp_performedBy np dd nx) nx σ) σ 101 nx 0 (sp_performing_va ns h2 g (sp_performedBy np dd nx) σ) (sp_performing_pi_3 ns h2 g (sp_performedBy np dd nx) σ) (sp_performing_tu ns h2 ud2 (sp_performedBy np dd nx) σ)) (k + 1) (lp_behindDoing_va np gd (sp_performing_la ns h2 lo2 (sp_performedBy np dd nx) σ) (sp_performing_pe ns h2 pd2 (sp_performedBy np dd nx) nx σ) σ 101 nx 0 (sp_performing_va ns h2 g (sp_performedBy np dd nx) σ) (sp_performing_pi_3 ns h2 g (sp_performedBy np dd nx) σ) (sp_performing_tu ns h2 ud2 (sp_performedBy np dd nx) σ)) (lp_behindDoing_pi_3 np gd (sp_performing_la ns h2 lo2 (sp_performedBy np dd nx) σ) (sp_performing_pe ns h2 pd2 (sp_performedBy np dd nx) nx σ) σ 101 nx 0 (sp_performing_va ns h2 g (sp_performedBy np dd nx) σ) (sp_performing_pi_3 ns h2 g (sp_performedBy np dd nx) σ) (sp_performing_tu ns h2 ud2 (sp_performedBy np dd nx) σ)) (sp_performing_pi_4 ns h2 hi2 g (sp_performedBy np dd nx) σ) (lp_behindDoing_co_5 (sp_performing_co_5 en2 ns h2 (sp_performedBy np dd nx) σ) np gd (sp_performing_la ns h2 lo2 (sp_performedBy np dd nx) σ) (sp_performing_pe ns h2 pd2 (sp_performedBy np dd nx) nx σ) σ 101 nx 0 (sp_performing_va ns h2 g (sp_performedBy np dd nx) σ) (sp_performing_pi_3 ns h2 g (sp_performedBy np dd nx) σ) (sp_performing_tu ns h2 ud2 (sp_performedBy np dd nx) σ)) (lp_behindDoing_tu np gd (sp_performing_la ns h2 lo2 (sp_performedBy np dd nx) σ) (sp_performing_pe ns h2 pd2 (sp_performedBy np dd nx) nx σ) σ 101 nx 0 (sp_performing_va ns h2 g (sp_performedBy np dd nx) σ) (sp_performing_pi_3 ns h2 g (sp_performedBy np dd nx) σ) (sp_performing_tu ns h2 ud2 (sp_performedBy np dd nx) σ)) (sp_performing_pe ns h2 pd2 (sp_performedBy np dd nx) nx σ) (sp_performing_la ns h2 lo2 (sp_performedBy np dd nx) σ) (sp_note0_ra rd2 k nx) else lp_travel0_pi_4 np ns dd gd steps σ n_ (sp_performing ns h2 g (sp_performedBy np dd nx) σ) (k + 1) (sp_performing_va ns h2 g (sp_performedBy np dd nx) σ) (sp_performing_pi_3 ns h2 g (sp_performedBy np dd nx) σ) (sp_performing_pi_4 ns h2 hi2 g (sp_performedBy np dd nx) σ) (sp_performing_co_5 en2 ns h2 (sp_performedBy np dd nx) σ) (sp_performing_tu ns h2 ud2 (sp_performedBy np dd nx) σ) (sp_performing_pe ns h2 pd2 (sp_performedBy np dd nx) nx σ) (sp_performing_la ns h2 lo2 (sp_performedBy np dd nx) σ) (sp_note0_ra rd2 k nx)
def sp_travel0_pi_4 (en : Int32) (np : Int32) (ns : Int32) (hi : Int32) (dd : Nat → Int32) (gd : Nat → Int32) (f : Nat → Int64) (lo : Nat → Option Nat) (pd : Nat → Int32) (ud : Nat → Int32) (rd : Nat → Int32) (x : Int32) (steps : Int64) (σ : Nat → Stm) : Int32 := if (sp_performing ns 0 f x σ) = (-1) then lp_travel0_pi_4 np ns dd gd steps σ 4097 0 0 (sp_performing_va ns 0 f x σ) (sp_performing_pi_3 ns 0 f x σ) (sp_performing_pi_4 ns 0 hi f x σ) 0 (sp_performing_tu ns 0 ud x σ) (sp_performing_pe ns 0 pd x 0 σ) (sp_performing_la ns 0 lo x σ) rd else lp_travel0_pi_4 np ns dd gd steps σ 4097 (sp_performing ns 0 f x σ) 0 (sp_performing_va ns 0 f x σ) (sp_performing_pi_3 ns 0 f x σ) (sp_performing_pi_4 ns 0 hi f x σ) (sp_performing_co_5 en ns 0 x σ) (sp_performing_tu ns 0 ud x σ) (sp_performing_pe ns 0 pd x 0 σ) (sp_performing_la ns 0 lo x σ) rd
def lp_travel0_co_4 (ln : Int32) (np : Int32) (ns : Int32) (dd : Nat → Int32) (gd : Nat → Int32) (steps : Int64) (σ : Nat → Stm) : Nat → Int32 → Int32 → (Nat → Int64) → Int32 → Int32 → Int32 → (Nat → Int32) → (Nat → Int32) → (Nat → Option Nat) → (Nat → Int32) → Int32
  | 0, _, _, _, _, _, _, _, _, _, _ => ln
  | n_ + 1, nx, k, g, h2, hi2, en2, ud2, pd2, lo2, rd2 => if nx = 0 then k else if 0 ≤ (lg_cmp k.toInt64 steps) then k else if (sp_performedBy np dd nx) = (-1) then (if (sp_doing np dd g nx) = (-1) then lp_travel0_co_4 ln np ns dd gd steps σ n_ (lp_behindDoing np gd lo2 pd2 σ 101 nx 0 (sp_doing_va np dd g nx) h2 ud2) (k + 1) (lp_behindDoing_va np gd lo2 pd2 σ 101 nx 0 (sp_doing_va np dd g nx) h2 ud2) (lp_behindDoing_pi_3 np gd lo2 pd2 σ 101 nx 0 (sp_doing_va np dd g nx) h2 ud2) hi2 (lp_behindDoing_co_5 (sp_doing_co_5 en2 np dd g nx) np gd lo2 pd2 σ 101 nx 0 (sp_doing_va np dd g nx) h2 ud2) (lp_behindDoing_tu np gd lo2 pd2 σ 101 nx 0 (sp_doing_va np dd g nx) h2 ud2) pd2 lo2 (sp_note0_ra rd2 k nx) else lp_travel0_co_4 ln np ns dd gd steps σ n_ (sp_doing np dd g nx) (k + 1) (sp_doing_va np dd g nx) h2 hi2 (sp_doing_co_5 en2 np dd g nx) ud2 pd2 lo2 (sp_note0_ra rd2 k nx)) else if (sp_performing ns h2 g (sp_performedBy np dd nx) σ) = (-1) then lp_travel0_co_4 ln np ns dd gd steps σ n_ (lp_behindDoing np gd (sp_performing_la ns h2 lo2 (sp_performedBy np dd nx) σ) (sp_performing_pe ns h2 pd2 (sp_performedBy np dd nx) nx σ) σ 101 nx 0 (sp_performing_va ns h2 g (sp_performedBy np dd nx) σ) (sp_performing_pi_3 ns h2 g (sp_performedBy np dd nx) σ) (sp_performing_tu ns h2 ud2 (sp_performedBy np dd nx) σ)) (k + 1) (lp_behindDoing_va np gd (sp_performing_la ns h2 lo2 (sp_performedBy np dd nx) σ) (sp_performing_pe ns h2 pd2 (sp_performedBy np dd nx) nx σ) σ 101 nx 0 (sp_performing_va ns h2 g (sp_performedBy np dd nx) σ) (sp_performing_pi_3 ns h2 g (sp_performedBy np dd nx) σ) (sp_performing_tu ns h2 ud2 (sp_performedBy np dd nx) σ)) (lp_behindDoing_pi_3 np gd (sp_performing_la ns h2 lo2 (sp_performedBy np dd nx) σ) (sp_performing_pe ns h2 pd2 (sp_performedBy np dd nx) nx σ) σ 101 nx 0 (sp_performing_va ns h2 g (sp_performedBy np dd nx) σ) (sp_performing_pi_3 ns h2 g (sp_performedBy np dd nx) σ) (sp_performing_tu ns h2 ud2 (sp_performedBy np dd nx) σ)) (sp_performing_pi_4 ns h2 hi2 g (sp_performedBy np dd nx) σ) (lp_behindDoing_co_5 (sp_performing_co_5 en2 ns h2 (sp_performedBy np dd nx) σ) np gd (sp_performing_la ns h2 lo2 (sp_performedBy np dd nx) σ) (sp_performing_pe ns h2 pd2 (sp_performedBy np dd nx) nx σ) σ 101 nx 0 (sp_performing_va ns h2 g (sp_performedBy np dd nx) σ) (sp_performing_pi_3 ns h2 g (sp_performedBy np dd nx) σ) (sp_performing_tu ns h2 ud2 (sp_performedBy np dd nx) σ)) (lp_behindDoing_tu np gd (sp_performing_la ns h2 lo2 (sp_performedBy np dd nx) σ) (sp_performing_pe ns h2 pd2 (sp_performedBy np dd nx) nx σ) σ 101 nx 0 (sp_performing_va ns h2 g (sp_performedBy np dd nx) σ) (sp_performing_pi_3 ns h2 g (sp_performedBy np dd nx) σ) (sp_performing_tu ns h2 ud2 (sp_performedBy np dd nx) σ)) (sp_performing_pe ns h2 pd2 (sp_performedBy np dd nx) nx σ) (sp_performing_la ns h2 lo2 (sp_performedBy np dd nx) σ) (sp_note0_ra rd2 k nx) else lp_travel0_co_4 ln np ns dd gd steps σ n_ (sp_performing ns h2 g (sp_performedBy np dd nx) σ) (k + 1) (sp_performing_va ns h2 g (sp_performedBy np dd nx) σ) (sp_performing_pi_3 ns h2 g (sp_performedBy np dd nx) σ) (sp_performing_pi_4 ns h2 hi2 g (sp_performedBy np dd nx) σ) (sp_performing_co_5 en2 ns h2 (sp_performedBy np dd nx) σ) (sp_performing_tu ns h2 ud2 (sp_performedBy np dd nx) σ) (sp_performing_pe ns h2 pd2 (sp_performedBy np dd nx) nx σ) (sp_performing_la ns h2 lo2 (sp_performedBy np dd nx) σ) (sp_note0_ra rd2 k nx)
def sp_travel0_co_4 (ln : Int32) (en : Int32) (np : Int32) (ns : Int32) (hi : Int32) (dd : Nat → Int32) (gd : Nat → Int32) (f : Nat → Int64) (lo : Nat → Option Nat) (pd : Nat → Int32) (ud : Nat → Int32) (rd : Nat → Int32) (x : Int32) (steps : Int64) (σ : Nat → Stm) : Int32 := if (sp_performing ns 0 f x σ) = (-1) then lp_travel0_co_4 ln np ns dd gd steps σ 4097 0 0 (sp_performing_va ns 0 f x σ) (sp_performing_pi_3 ns 0 f x σ) (sp_performing_pi_4 ns 0 hi f x σ) 0 (sp_performing_tu ns 0 ud x σ) (sp_performing_pe ns 0 pd x 0 σ) (sp_performing_la ns 0 lo x σ) rd else lp_travel0_co_4 ln np ns dd gd steps σ 4097 (sp_performing ns 0 f x σ) 0 (sp_performing_va ns 0 f x σ) (sp_performing_pi_3 ns 0 f x σ) (sp_performing_pi_4 ns 0 hi f x σ) (sp_performing_co_5 en ns 0 x σ) (sp_performing_tu ns 0 ud x σ) (sp_performing_pe ns 0 pd x 0 σ) (sp_performing_la ns 0 lo x σ) rd
def lp_travel0_co_5 (np : Int32) (ns : Int32) (dd : Nat → Int32) (gd : Nat → Int32) (steps : Int64) (σ : Nat → Stm) : Nat → Int32 → Int32 → (Nat → Int64) → Int32 → Int32 → Int32 → (Nat → Int32) → (Nat → Int32) → (Nat → Option Nat) → (Nat → Int32) → Int32
  | 0, _, _, _, _, _, en2, _, _, _, _ => en2
  | n_ + 1, nx, k, g, h2, hi2, en2, ud2, pd2, lo2, rd2 => if nx = 0 then en2 else if 0 ≤ (lg_cmp k.toInt64 steps) then 1 else if (sp_performedBy np dd nx) = (-1) then (if (sp_doing np dd g nx) = (-1) then lp_travel0_co_5 np ns dd gd steps σ n_ (lp_behindDoing np gd lo2 pd2 σ 101 nx 0 (sp_doing_va np dd g nx) h2 ud2) (k + 1) (lp_behindDoing_va np gd lo2 pd2 σ 101 nx 0 (sp_doing_va np dd g nx) h2 ud2) (lp_behindDoing_pi_3 np gd lo2 pd2 σ 101 nx 0 (sp_doing_va np dd g nx) h2 ud2) hi2 (lp_behindDoing_co_5 (sp_doing_co_5 en2 np dd g nx) np gd lo2 pd2 σ 101 nx 0 (sp_doing_va np dd g nx) h2 ud2) (lp_behindDoing_tu np gd lo2 pd2 σ 101 nx 0 (sp_doing_va np dd g nx) h2 ud2) pd2 lo2 (sp_note0_ra rd2 k nx) else lp_travel0_co_5 np ns dd gd steps σ n_ (sp_doing np dd g nx) (k + 1) (sp_doing_va np dd g nx) h2 hi2 (sp_doing_co_5 en2 np dd g nx) ud2 pd2 lo2 (sp_note0_ra rd2 k nx)) else if (sp_performing ns h2 g (sp_performedBy np dd nx) σ) = (-1) then lp_travel0_co_5 np ns dd gd steps σ n_ (lp_behindDoing np gd (sp_performing_la ns h2 lo2 (sp_performedBy np dd nx) σ) (sp_performing_pe ns h2 pd2 (sp_performedBy np dd nx) nx σ) σ 101 nx 0 (sp_performing_va ns h2 g (sp_performedBy np dd nx) σ) (sp_performing_pi_3 ns h2 g (sp_performedBy np dd nx) σ) (sp_performing_tu ns h2 ud2 (sp_performedBy np dd nx) σ)) (k + 1) (lp_behindDoing_va np gd (sp_performing_la ns h2 lo2 (sp_performedBy np dd nx) σ) (sp_performing_pe ns h2 pd2 (sp_performedBy np dd nx) nx σ) σ 101 nx 0 (sp_performing_va ns h2 g (sp_performedBy np dd nx) σ) (sp_performing_pi_3 ns h2 g (sp_performedBy np dd nx) σ) (sp_performing_tu ns h2 ud2 (sp_performedBy np dd nx) σ)) (lp_behindDoing_pi_3 np gd (sp_performing_la ns h2 lo2 (sp_performedBy np dd nx) σ) (sp_performing_pe ns h2 pd2 (sp_performedBy np dd nx) nx σ) σ 101 nx 0 (sp_performing_va ns h2 g (sp_performedBy np dd nx) σ) (sp_performing_pi_3 ns h2 g (sp_performedBy np dd nx) σ) (sp_performing_tu ns h2 ud2 (sp_performedBy np dd nx) σ)) (sp_performing_pi_4 ns h2 hi2 g (sp_performedBy np dd nx) σ) (lp_behindDoing_co_5 (sp_performing_co_5 en2 ns h2 (sp_performedBy np dd nx) σ) np gd (sp_performing_la ns h2 lo2 (sp_performedBy np dd nx) σ) (sp_performing_pe ns h2 pd2 (sp_performedBy np dd nx) nx σ) σ 101 nx 0 (sp_performing_va ns h2 g (sp_performedBy np dd nx) σ) (sp_performing_pi_3 ns h2 g (sp_performedBy np dd nx) σ) (sp_performing_tu ns h2 ud2 (sp_performedBy np dd nx) σ)) (lp_behindDoing_tu np gd (sp_performing_la ns h2 lo2 (sp_performedBy np dd nx) σ) (sp_performing_pe ns h2 pd2 (sp_performedBy np dd nx) nx σ) σ 101 nx 0 (sp_performing_va ns h2 g (sp_performedBy np dd nx) σ) (sp_performing_pi_3 ns h2 g (sp_performedBy np dd nx) σ) (sp_performing_tu ns h2 ud2 (sp_performedBy np dd nx) σ)) (sp_performing_pe ns h2 pd2 (sp_performedBy np dd nx) nx σ) (sp_performing_la ns h2 lo2 (sp_performedBy np dd nx) σ) (sp_note0_ra rd2 k nx) else lp_travel0_co_5 np ns dd gd steps σ n_ (sp_performing ns h2 g (sp_performedBy np dd nx) σ) (k + 1) (sp_performing_va ns h2 g (sp_performedBy np dd nx) σ) (sp_performing_pi_3 ns h2 g (sp_performedBy np dd nx) σ) (sp_performing_pi_4 ns h2 hi2 g (sp_performedBy np dd nx) σ) (sp_performing_co_5 en2 ns h2 (sp_performedBy np dd nx) σ) (sp_performing_tu ns h2 ud2 (sp_performedBy np dd nx) σ) (sp_performing_pe ns h2 pd2 (sp_performedBy np dd nx) nx σ) (sp_performing_la ns h2 lo2 (sp_performedBy np dd nx) σ) (sp_note0_ra rd2 k nx)
def sp_travel0_co_5 (en : Int32) (np : Int32) (ns : Int32) (hi : Int32) (dd : Nat → Int32) (gd : Nat → Int32) (f : Nat → Int64) (lo : Nat → Option Nat) (pd : Nat → Int32) (ud : Nat → Int32) (rd : Nat → Int32) (x : Int32) (steps : Int64) (σ : Nat → Stm) : Int32 := if (sp_performing ns 0 f x σ) = (-1) then lp_travel0_co_5 np ns dd gd steps σ 4097 0 0 (sp_performing_va ns 0 f x σ) (sp_performing_pi_3 ns 0 f x σ) (sp_performing_pi_4 ns 0 hi f x σ) 0 (sp_performing_tu ns 0 ud x σ) (sp_performing_pe ns 0 pd x 0 σ) (sp_performing_la ns 0 lo x σ) rd else lp_travel0_co_5 np ns dd gd steps σ 4097 (sp_performing ns 0 f x σ) 0 (sp_performing_va ns 0 f x σ) (sp_performing_pi_3 ns 0 f x σ) (sp_performing_pi_4 ns 0 hi f x σ) (sp_performing_co_5 en ns 0 x σ) (sp_performing_tu ns 0 ud x σ) (sp_performing_pe ns 0 pd x 0 σ) (sp_performing_la ns 0 lo x σ) rd
def lp_travel0_la (np : Int32) (ns : Int32) (dd : Nat → Int32) (gd : Nat → Int32) (steps : Int64) (σ : Nat → Stm) : Nat → Int32 → Int32 → (Nat → Int64) → Int32 → Int32 → Int32 → (Nat → Int32) → (Nat → Int32) → (Nat → Option Nat) → (Nat → Int32) → Nat → Option Nat
  | 0, _, _, _, _, _, _, _, _, lo2, _ => lo2
  | n_ + 1, nx, k, g, h2, hi2, en2, ud2, pd2, lo2, rd2 => if nx = 0 then lo2 else if 0 ≤ (lg_cmp k.toInt64 steps) then lo2 else if (sp_performedBy np dd nx) = (-1) then (if (sp_doing np dd g nx) = (-1) then lp_travel0_la np ns dd gd steps σ n_ (lp_behindDoing np gd lo2 pd2 σ 101 nx 0 (sp_doing_va np dd g nx) h2 ud2) (k + 1) (lp_behindDoing_va np gd lo2 pd2 σ 101 nx 0 (sp_doing_va np dd g nx) h2 ud2) (lp_behindDoing_pi_3 np gd lo2 pd2 σ 101 nx 0 (sp_doing_va np dd g nx) h2 ud2) hi2 (lp_behindDoing_co_5 (sp_doing_co_5 en2 np dd g nx) np gd lo2 pd2 σ 101 nx 0 (sp_doing_va np dd g nx) h2 ud2) (lp_behindDoing_tu np gd lo2 pd2 σ 101 nx 0 (sp_doing_va np dd g nx) h2 ud2) pd2 lo2 (sp_note0_ra rd2 k nx) else lp_travel0_la np ns dd gd steps σ n_ (sp_doing np dd g nx) (k + 1) (sp_doing_va np dd g nx) h2 hi2 (sp_doing_co_5 en2 np dd g nx) ud2 pd2 lo2 (sp_note0_ra rd2 k nx)) else if (sp_performing ns h2 g (sp_performedBy np dd nx) σ) = (-1) then lp_travel0_la np ns dd gd steps σ n_ (lp_behindDoing np gd (sp_performing_la ns h2 lo2 (sp_performedBy np dd nx) σ) (sp_performing_pe ns h2 pd2 (sp_performedBy np dd nx) nx σ) σ 101 nx 0 (sp_performing_va ns h2 g (sp_performedBy np dd nx) σ) (sp_performing_pi_3 ns h2 g (sp_performedBy np dd nx) σ) (sp_performing_tu ns h2 ud2 (sp_performedBy np dd nx) σ)) (k + 1) (lp_behindDoing_va np gd (sp_performing_la ns h2 lo2 (sp_performedBy np dd nx) σ) (sp_performing_pe ns h2 pd2 (sp_performedBy np dd nx) nx σ) σ 101 nx 0 (sp_performing_va ns h2 g (sp_performedBy np dd nx) σ) (sp_performing_pi_3 ns h2 g (sp_performedBy np dd nx) σ) (sp_performing_tu ns h2 ud2 (sp_performedBy np dd nx) σ)) (lp_behindDoing_pi_3 np gd (sp_performing_la ns h2 lo2 (sp_performedBy np dd nx) σ) (sp_performing_pe ns h2 pd2 (sp_performedBy np dd nx) nx σ) σ 101 nx 0 (sp_performing_va ns h2 g (sp_performedBy np dd nx) σ) (sp_performing_pi_3 ns h2 g (sp_performedBy np dd nx) σ) (sp_performing_tu ns h2 ud2 (sp_performedBy np dd nx) σ)) (sp_performing_pi_4 ns h2 hi2 g (sp_performedBy np dd nx) σ) (lp_behindDoing_co_5 (sp_performing_co_5 en2 ns h2 (sp_performedBy np dd nx) σ) np gd (sp_performing_la ns h2 lo2 (sp_performedBy np dd nx) σ) (sp_performing_pe ns h2 pd2 (sp_performedBy np dd nx) nx σ) σ 101 nx 0 (sp_performing_va ns h2 g (sp_performedBy np dd nx) σ) (sp_performing_pi_3 ns h2 g (sp_performedBy np dd nx) σ) (sp_performing_tu ns h2 ud2 (sp_performedBy np dd nx) σ)) (lp_behindDoing_tu np gd (sp_performing_la ns h2 lo2 (sp_performedBy np dd nx) σ) (sp_performing_pe ns h2 pd2 (sp_performedBy np dd nx) nx σ) σ 101 nx 0 (sp_performing_va ns h2 g (sp_performedBy np dd nx) σ) (sp_performing_pi_3 ns h2 g (sp_performedBy np dd nx) σ) (sp_performing_tu ns h2 ud2 (sp_performedBy np dd nx) σ)) (sp_performing_pe ns h2 pd2 (sp_performedBy np dd nx) nx σ) (sp_performing_la ns h2 lo2 (sp_performedBy np dd nx) σ) (sp_note0_ra rd2 k nx) else lp_travel0_la np ns dd gd steps σ n_ (sp_performing ns h2 g (sp_performedBy np dd nx) σ) (k + 1) (sp_performing_va ns h2 g (sp_performedBy np dd nx) σ) (sp_performing_pi_3 ns h2 g (sp_performedBy np dd nx) σ) (sp_performing_pi_4 ns h2 hi2 g (sp_performedBy np dd nx) σ) (sp_performing_co_5 en2 ns h2 (sp_performedBy np dd nx) σ) (sp_performing_tu ns h2 ud2 (sp_performedBy np dd nx) σ) (sp_performing_pe ns h2 pd2 (sp_performedBy np dd nx) nx σ) (sp_performing_la ns h2 lo2 (sp_performedBy np dd nx) σ) (sp_note0_ra rd2 k nx)
def sp_travel0_la (en : Int32) (np : Int32) (ns : Int32) (hi : Int32) (dd : Nat → Int32) (gd : Nat → Int32) (f : Nat → Int64) (lo : Nat → Option Nat) (pd : Nat → Int32) (ud : Nat → Int32) (rd : Nat → Int32) (x : Int32) (steps : Int64) (σ : Nat → Stm) : Nat → Option Nat := if (sp_performing ns 0 f x σ) = (-1) then lp_travel0_la np ns dd gd steps σ 4097 0 0 (sp_performing_va ns 0 f x σ) (sp_performing_pi_3 ns 0 f x σ) (sp_performing_pi_4 ns 0 hi f x σ) 0 (sp_performing_tu ns 0 ud x σ) (sp_performing_pe ns 0 pd x 0 σ) (sp_performing_la ns 0 lo x σ) rd else lp_travel0_la np ns dd gd steps σ 4097 (sp_performing ns 0 f x σ) 0 (sp_performing_va ns 0 f x σ) (sp_performing_pi_3 ns 0 f x σ) (sp_performing_pi_4 ns 0 hi f x σ) (sp_performing_co_5 en ns 0 x σ) (sp_performing_tu ns 0 ud x σ) (sp_performing_pe ns 0 pd x 0 σ) (sp_performing_la ns 0 lo x σ) rd
def lp_travel0_pe (np : Int32) (ns : Int32) (dd : Nat → Int32) (gd : Nat → Int32) (steps : Int64) (σ : Nat → Stm) : Nat → Int32 → Int32 → (Nat → Int64) → Int32 → Int32 → Int32 → (Nat → Int32) → (Nat → Int32) → (Nat → Option Nat) → (Nat → Int32) → Nat → Int32
  | 0, _, _, _, _, _, _, _, pd2, _, _ => pd2
  | n_ + 1, nx, k, g, h2, hi2, en2, ud2, pd2, lo2, rd2 => if nx = 0 then pd2 else if 0 ≤ (lg_cmp k.toInt64 steps) then pd2 else if (sp_performedBy np dd nx) = (-1) then (if (sp_doing np dd g nx) = (-1) then lp_travel0_pe np ns dd gd steps σ n_ (lp_behindDoing np gd lo2 pd2 σ 101 nx 0 (sp_doing_va np dd g nx) h2 ud2) (k + 1) (lp_behindDoing_va np gd lo2 pd2 σ 101 nx 0 (sp_doing_va np dd g nx) h2 ud2) (lp_behindDoing_pi_3 np gd lo2 pd2 σ 101 nx 0 (sp_doing_va np dd g nx) h2 ud2) hi2 (lp_behindDoing_co_5 (sp_doing_co_5 en2 np dd g nx) np gd lo2 pd2 σ 101 nx 0 (sp_doing_va np dd g nx) h2 ud2) (lp_behindDoing_tu np gd lo2 pd2 σ 101 nx 0 (sp_doing_va np dd g nx) h2 ud2) pd2 lo2 (sp_note0_ra rd2 k nx) else lp_travel0_pe np ns dd gd steps σ n_ (sp_doing np dd g nx) (k + 1) (sp_doing_va np dd g nx) h2 hi2 (sp_doing_co_5 en2 np dd g nx) ud2 pd2 lo2 (sp_note0_ra rd2 k nx)) else if (sp_performing ns h2 g (sp_performedBy np dd nx) σ) = (-1) then lp_travel0_pe np ns dd gd steps σ n_ (lp_behindDoing np gd (sp_performing_la ns h2 lo2 (sp_performedBy np dd nx) σ) (sp_performing_pe ns h2 pd2 (sp_performedBy np dd nx) nx σ) σ 101 nx 0 (sp_performing_va ns h2 g (sp_performedBy np dd nx) σ) (sp_performing_pi_3 ns h2 g (sp_performedBy np dd nx) σ) (sp_performing_tu ns h2 ud2 (sp_performedBy np dd nx) σ)) (k + 1) (lp_behindDoing_va np gd (sp_performing_la ns h2 lo2 (sp_performedBy np dd nx) σ) (sp_performing_pe ns h2 pd2 (sp_performedBy np dd nx) nx σ) σ 101 nx 0 (sp_performing_va ns h2 g (sp_performedBy np dd nx) σ) (sp_performing_pi_3 ns h2 g (sp_performedBy np dd nx) σ) (sp_performing_tu ns h2 ud2 (sp_performedBy np dd nx) σ)) (lp_behindDoing_pi_3 np gd (sp_performing_la ns h2 lo2 (sp_performedBy np dd nx) σ) (sp_performing_pe ns h2 pd2 (sp_performedBy np dd nx) nx σ) σ 101 nx 0 (sp_performing_va ns h2 g (sp_performedBy np dd nx) σ) (sp_performing_pi_3 ns h2 g (sp_performedBy np dd nx) σ) (sp_performing_tu ns h2 ud2 (sp_performedBy np dd nx) σ)) (sp_performing_pi_4 ns h2 hi2 g (sp_performedBy np dd nx) σ) (lp_behindDoing_co_5 (sp_performing_co_5 en2 ns h2 (sp_performedBy np dd nx) σ) np gd (sp_performing_la ns h2 lo2 (sp_performedBy np dd nx) σ) (sp_performing_pe ns h2 pd2 (sp_performedBy np dd nx) nx σ) σ 101 nx 0 (sp_performing_va ns h2 g (sp_performedBy np dd nx) σ) (sp_performing_pi_3 ns h2 g (sp_performedBy np dd nx) σ) (sp_performing_tu ns h2 ud2 (sp_performedBy np dd nx) σ)) (lp_behindDoing_tu np gd (sp_performing_la ns h2 lo2 (sp_performedBy np dd nx) σ) (sp_performing_pe ns h2 pd2 (sp_performedBy np dd nx) nx σ) σ 101 nx 0 (sp_performing_va ns h2 g (sp_performedBy np dd nx) σ) (sp_performing_pi_3 ns h2 g (sp_performedBy np dd nx) σ) (sp_performing_tu ns h2 ud2 (sp_performedBy np dd nx) σ)) (sp_performing_pe ns h2 pd2 (sp_performedBy np dd nx) nx σ) (sp_performing_la ns h2 lo2 (sp_performedBy np dd nx) σ) (sp_note0_ra rd2 k nx) else lp_travel0_pe np ns dd gd steps σ n_ (sp_performing ns h2 g (sp_performedBy np dd nx) σ) (k + 1) (sp_performing_va ns h2 g (sp_performedBy np dd nx) σ) (sp_performing_pi_3 ns h2 g (sp_performedBy np dd nx) σ) (sp_performing_pi_4 ns h2 hi2 g (sp_performedBy np dd nx) σ) (sp_performing_co_5 en2 ns h2 (sp_performedBy np dd nx) σ) (sp_performing_tu ns h2 ud2 (sp_performedBy np dd nx) σ) (sp_performing_pe ns h2 pd2 (sp_performedBy np dd nx) nx σ) (sp_performing_la ns h2 lo2 (sp_performedBy np dd nx) σ) (sp_note0_ra rd2 k nx)
def sp_travel0_pe (en : Int32) (np : Int32) (ns : Int32) (hi : Int32) (dd : Nat → Int32) (gd : Nat → Int32) (f : Nat → Int64) (lo : Nat → Option Nat) (pd : Nat → Int32) (ud : Nat → Int32) (rd : Nat → Int32) (x : Int32) (steps : Int64) (σ : Nat → Stm) : Nat → Int32 := if (sp_performing ns 0 f x σ) = (-1) then lp_travel0_pe np ns dd gd steps σ 4097 0 0 (sp_performing_va ns 0 f x σ) (sp_performing_pi_3 ns 0 f x σ) (sp_performing_pi_4 ns 0 hi f x σ) 0 (sp_performing_tu ns 0 ud x σ) (sp_performing_pe ns 0 pd x 0 σ) (sp_performing_la ns 0 lo x σ) rd else lp_travel0_pe np ns dd gd steps σ 4097 (sp_performing ns 0 f x σ) 0 (sp_performing_va ns 0 f x σ) (sp_performing_pi_3 ns 0 f x σ) (sp_performing_pi_4 ns 0 hi f x σ) (sp_performing_co_5 en ns 0 x σ) (sp_performing_tu ns 0 ud x σ) (sp_performing_pe ns 0 pd x 0 σ) (sp_performing_la ns 0 lo x σ) rd
def lp_travel0_tu (np : Int32) (ns : Int32) (dd : Nat → Int32) (gd : Nat → Int32) (steps : Int64) (σ : Nat → Stm) : Nat → Int32 → Int32 → (Nat → Int64) → Int32 → Int32 → Int32 → (Nat → Int32) → (Nat → Int32) → (Nat → Option Nat) → (Nat → Int32) → Nat → Int32
  | 0, _, _, _, _, _, _, ud2, _, _, _ => ud2
  | n_ + 1, nx, k, g, h2, hi2, en2, ud2, pd2, lo2, rd2 => if nx = 0 then ud2 else if 0 ≤ (lg_cmp k.toInt64 steps) then ud2 else if (sp_performedBy np dd nx) = (-1) then (if (sp_doing np dd g nx) = (-1) then lp_travel0_tu np ns dd gd steps σ n_ (lp_behindDoing np gd lo2 pd2 σ 101 nx 0 (sp_doing_va np dd g nx) h2 ud2) (k + 1) (lp_behindDoing_va np gd lo2 pd2 σ 101 nx 0 (sp_doing_va np dd g nx) h2 ud2) (lp_behindDoing_pi_3 np gd lo2 pd2 σ 101 nx 0 (sp_doing_va np dd g nx) h2 ud2) hi2 (lp_behindDoing_co_5 (sp_doing_co_5 en2 np dd g nx) np gd lo2 pd2 σ 101 nx 0 (sp_doing_va np dd g nx) h2 ud2) (lp_behindDoing_tu np gd lo2 pd2 σ 101 nx 0 (sp_doing_va np dd g nx) h2 ud2) pd2 lo2 (sp_note0_ra rd2 k nx) else lp_travel0_tu np ns dd gd steps σ n_ (sp_doing np dd g nx) (k + 1) (sp_doing_va np dd g nx) h2 hi2 (sp_doing_co_5 en2 np dd g nx) ud2 pd2 lo2 (sp_note0_ra rd2 k nx)) else if (sp_performing ns h2 g (sp_performedBy np dd nx) σ) = (-1) then lp_travel0_tu np ns dd gd steps σ n_ (lp_behindDoing np gd (sp_performing_la ns h2 lo2 (sp_performedBy np dd nx) σ) (sp_performing_pe ns h2 pd2 (sp_performedBy np dd nx) nx σ) σ 101 nx 0 (sp_performing_va ns h2 g (sp_performedBy np dd nx) σ) (sp_performing_pi_3 ns h2 g (sp_performedBy np dd nx) σ) (sp_performing_tu ns h2 ud2 (sp_performedBy np dd nx) σ)) (k + 1) (lp_behindDoing_va np gd (sp_performing_la ns h2 lo2 (sp_performedBy np dd nx) σ) (sp_performing_pe ns h2 pd2 (sp_performedBy np dd nx) nx σ) σ 101 nx 0 (sp_performing_va ns h2 g (sp_performedBy np dd nx) σ) (sp_performing_pi_3 ns h2 g (sp_performedBy np dd nx) σ) (sp_performing_tu ns h2 ud2 (sp_performedBy np dd nx) σ)) (lp_behindDoing_pi_3 np gd (sp_performing_la ns h2 lo2 (sp_performedBy np dd nx) σ) (sp_performing_pe ns h2 pd2 (sp_performedBy np dd nx) nx σ) σ 101 nx 0 (sp_performing_va ns h2 g (sp_performedBy np dd nx) σ) (sp_performing_pi_3 ns h2 g (sp_performedBy np dd nx) σ) (sp_performing_tu ns h2 ud2 (sp_performedBy np dd nx) σ)) (sp_performing_pi_4 ns h2 hi2 g (sp_performedBy np dd nx) σ) (lp_behindDoing_co_5 (sp_performing_co_5 en2 ns h2 (sp_performedBy np dd nx) σ) np gd (sp_performing_la ns h2 lo2 (sp_performedBy np dd nx) σ) (sp_performing_pe ns h2 pd2 (sp_performedBy np dd nx) nx σ) σ 101 nx 0 (sp_performing_va ns h2 g (sp_performedBy np dd nx) σ) (sp_performing_pi_3 ns h2 g (sp_performedBy np dd nx) σ) (sp_performing_tu ns h2 ud2 (sp_performedBy np dd nx) σ)) (lp_behindDoing_tu np gd (sp_performing_la ns h2 lo2 (sp_performedBy np dd nx) σ) (sp_performing_pe ns h2 pd2 (sp_performedBy np dd nx) nx σ) σ 101 nx 0 (sp_performing_va ns h2 g (sp_performedBy np dd nx) σ) (sp_performing_pi_3 ns h2 g (sp_performedBy np dd nx) σ) (sp_performing_tu ns h2 ud2 (sp_performedBy np dd nx) σ)) (sp_performing_pe ns h2 pd2 (sp_performedBy np dd nx) nx σ) (sp_performing_la ns h2 lo2 (sp_performedBy np dd nx) σ) (sp_note0_ra rd2 k nx) else lp_travel0_tu np ns dd gd steps σ n_ (sp_performing ns h2 g (sp_performedBy np dd nx) σ) (k + 1) (sp_performing_va ns h2 g (sp_performedBy np dd nx) σ) (sp_performing_pi_3 ns h2 g (sp_performedBy np dd nx) σ) (sp_performing_pi_4 ns h2 hi2 g (sp_performedBy np dd nx) σ) (sp_performing_co_5 en2 ns h2 (sp_performedBy np dd nx) σ) (sp_performing_tu ns h2 ud2 (sp_performedBy np dd nx) σ) (sp_performing_pe ns h2 pd2 (sp_performedBy np dd nx) nx σ) (sp_performing_la ns h2 lo2 (sp_performedBy np dd nx) σ) (sp_note0_ra rd2 k nx)
def sp_travel0_tu (en : Int32) (np : Int32) (ns : Int32) (hi : Int32) (dd : Nat → Int32) (gd : Nat → Int32) (f : Nat → Int64) (lo : Nat → Option Nat) (pd : Nat → Int32) (ud : Nat → Int32) (rd : Nat → Int32) (x : Int32) (steps : Int64) (σ : Nat → Stm) : Nat → Int32 := if (sp_performing ns 0 f x σ) = (-1) then lp_travel0_tu np ns dd gd steps σ 4097 0 0 (sp_performing_va ns 0 f x σ) (sp_performing_pi_3 ns 0 f x σ) (sp_performing_pi_4 ns 0 hi f x σ) 0 (sp_performing_tu ns 0 ud x σ) (sp_performing_pe ns 0 pd x 0 σ) (sp_performing_la ns 0 lo x σ) rd else lp_travel0_tu np ns dd gd steps σ 4097 (sp_performing ns 0 f x σ) 0 (sp_performing_va ns 0 f x σ) (sp_performing_pi_3 ns 0 f x σ) (sp_performing_pi_4 ns 0 hi f x σ) (sp_performing_co_5 en ns 0 x σ) (sp_performing_tu ns 0 ud x σ) (sp_performing_pe ns 0 pd x 0 σ) (sp_performing_la ns 0 lo x σ) rd
def lp_travel0_va (np : Int32) (ns : Int32) (dd : Nat → Int32) (gd : Nat → Int32) (steps : Int64) (σ : Nat → Stm) : Nat → Int32 → Int32 → (Nat → Int64) → Int32 → Int32 → Int32 → (Nat → Int32) → (Nat → Int32) → (Nat → Option Nat) → (Nat → Int32) → Nat → Int64
  | 0, _, _, g, _, _, _, _, _, _, _ => g
  | n_ + 1, nx, k, g, h2, hi2, en2, ud2, pd2, lo2, rd2 => if nx = 0 then g else if 0 ≤ (lg_cmp k.toInt64 steps) then g else if (sp_performedBy np dd nx) = (-1) then (if (sp_doing np dd g nx) = (-1) then lp_travel0_va np ns dd gd steps σ n_ (lp_behindDoing np gd lo2 pd2 σ 101 nx 0 (sp_doing_va np dd g nx) h2 ud2) (k + 1) (lp_behindDoing_va np gd lo2 pd2 σ 101 nx 0 (sp_doing_va np dd g nx) h2 ud2) (lp_behindDoing_pi_3 np gd lo2 pd2 σ 101 nx 0 (sp_doing_va np dd g nx) h2 ud2) hi2 (lp_behindDoing_co_5 (sp_doing_co_5 en2 np dd g nx) np gd lo2 pd2 σ 101 nx 0 (sp_doing_va np dd g nx) h2 ud2) (lp_behindDoing_tu np gd lo2 pd2 σ 101 nx 0 (sp_doing_va np dd g nx) h2 ud2) pd2 lo2 (sp_note0_ra rd2 k nx) else lp_travel0_va np ns dd gd steps σ n_ (sp_doing np dd g nx) (k + 1) (sp_doing_va np dd g nx) h2 hi2 (sp_doing_co_5 en2 np dd g nx) ud2 pd2 lo2 (sp_note0_ra rd2 k nx)) else if (sp_performing ns h2 g (sp_performedBy np dd nx) σ) = (-1) then lp_travel0_va np ns dd gd steps σ n_ (lp_behindDoing np gd (sp_performing_la ns h2 lo2 (sp_performedBy np dd nx) σ) (sp_performing_pe ns h2 pd2 (sp_performedBy np dd nx) nx σ) σ 101 nx 0 (sp_performing_va ns h2 g (sp_performedBy np dd nx) σ) (sp_performing_pi_3 ns h2 g (sp_performedBy np dd nx) σ) (sp_performing_tu ns h2 ud2 (sp_performedBy np dd nx) σ)) (k + 1) (lp_behindDoing_va np gd (sp_performing_la ns h2 lo2 (sp_performedBy np dd nx) σ) (sp_performing_pe ns h2 pd2 (sp_performedBy np dd nx) nx σ) σ 101 nx 0 (sp_performing_va ns h2 g (sp_performedBy np dd nx) σ) (sp_performing_pi_3 ns h2 g (sp_performedBy np dd nx) σ) (sp_performing_tu ns h2 ud2 (sp_performedBy np dd nx) σ)) (lp_behindDoing_pi_3 np gd (sp_performing_la ns h2 lo2 (sp_performedBy np dd nx) σ) (sp_performing_pe ns h2 pd2 (sp_performedBy np dd nx) nx σ) σ 101 nx 0 (sp_performing_va ns h2 g (sp_performedBy np dd nx) σ) (sp_performing_pi_3 ns h2 g (sp_performedBy np dd nx) σ) (sp_performing_tu ns h2 ud2 (sp_performedBy np dd nx) σ)) (sp_performing_pi_4 ns h2 hi2 g (sp_performedBy np dd nx) σ) (lp_behindDoing_co_5 (sp_performing_co_5 en2 ns h2 (sp_performedBy np dd nx) σ) np gd (sp_performing_la ns h2 lo2 (sp_performedBy np dd nx) σ) (sp_performing_pe ns h2 pd2 (sp_performedBy np dd nx) nx σ) σ 101 nx 0 (sp_performing_va ns h2 g (sp_performedBy np dd nx) σ) (sp_performing_pi_3 ns h2 g (sp_performedBy np dd nx) σ) (sp_performing_tu ns h2 ud2 (sp_performedBy np dd nx) σ)) (lp_behindDoing_tu np gd (sp_performing_la ns h2 lo2 (sp_performedBy np dd nx) σ) (sp_performing_pe ns h2 pd2 (sp_performedBy np dd nx) nx σ) σ 101 nx 0 (sp_performing_va ns h2 g (sp_performedBy np dd nx) σ) (sp_performing_pi_3 ns h2 g (sp_performedBy np dd nx) σ) (sp_performing_tu ns h2 ud2 (sp_performedBy np dd nx) σ)) (sp_performing_pe ns h2 pd2 (sp_performedBy np dd nx) nx σ) (sp_performing_la ns h2 lo2 (sp_performedBy np dd nx) σ) (sp_note0_ra rd2 k nx) else lp_travel0_va np ns dd gd steps σ n_ (sp_performing ns h2 g (sp_performedBy np dd nx) σ) (k + 1) (sp_performing_va ns h2 g (sp_performedBy np dd nx) σ) (sp_performing_pi_3 ns h2 g (sp_performedBy np dd nx) σ) (sp_performing_pi_4 ns h2 hi2 g (sp_performedBy np dd nx) σ) (sp_performing_co_5 en2 ns h2 (sp_performedBy np dd nx) σ) (sp_performing_tu ns h2 ud2 (sp_performedBy np dd nx) σ) (sp_performing_pe ns h2 pd2 (sp_performedBy np dd nx) nx σ) (sp_performing_la ns h2 lo2 (sp_performedBy np dd nx) σ) (sp_note0_ra rd2 k nx)
def sp_travel0_va (en : Int32) (np : Int32) (ns : Int32) (hi : Int32) (dd : Nat → Int32) (gd : Nat → Int32) (f : Nat → Int64) (lo : Nat → Option Nat) (pd : Nat → Int32) (ud : Nat → Int32) (rd : Nat → Int32) (x : Int32) (steps : Int64) (σ : Nat → Stm) : Nat → Int64 := if (sp_performing ns 0 f x σ) = (-1) then lp_travel0_va np ns dd gd steps σ 4097 0 0 (sp_performing_va ns 0 f x σ) (sp_performing_pi_3 ns 0 f x σ) (sp_performing_pi_4 ns 0 hi f x σ) 0 (sp_performing_tu ns 0 ud x σ) (sp_performing_pe ns 0 pd x 0 σ) (sp_performing_la ns 0 lo x σ) rd else lp_travel0_va np ns dd gd steps σ 4097 (sp_performing ns 0 f x σ) 0 (sp_performing_va ns 0 f x σ) (sp_performing_pi_3 ns 0 f x σ) (sp_performing_pi_4 ns 0 hi f x σ) (sp_performing_co_5 en ns 0 x σ) (sp_performing_tu ns 0 ud x σ) (sp_performing_pe ns 0 pd x 0 σ) (sp_performing_la ns 0 lo x σ) rd
def lp_travel0_ra (np : Int32) (ns : Int32) (dd : Nat → Int32) (gd : Nat → Int32) (steps : Int64) (σ : Nat → Stm) : Nat → Int32 → Int32 → (Nat → Int64) → Int32 → Int32 → Int32 → (Nat → Int32) → (Nat → Int32) → (Nat → Option Nat) → (Nat → Int32) → Nat → Int32
  | 0, _, _, _, _, _, _, _, _, _, rd2 => rd2
  | n_ + 1, nx, k, g, h2, hi2, en2, ud2, pd2, lo2, rd2 => if nx = 0 then rd2 else if 0 ≤ (lg_cmp k.toInt64 steps) then rd2 else if (sp_performedBy np dd nx) = (-1) then (if (sp_doing np dd g nx) = (-1) then lp_travel0_ra np ns dd gd steps σ n_ (lp_behindDoing np gd lo2 pd2 σ 101 nx 0 (sp_doing_va np dd g nx) h2 ud2) (k + 1) (lp_behindDoing_va np gd lo2 pd2 σ 101 nx 0 (sp_doing_va np dd g nx) h2 ud2) (lp_behindDoing_pi_3 np gd lo2 pd2 σ 101 nx 0 (sp_doing_va np dd g nx) h2 ud2) hi2 (lp_behindDoing_co_5 (sp_doing_co_5 en2 np dd g nx) np gd lo2 pd2 σ 101 nx 0 (sp_doing_va np dd g nx) h2 ud2) (lp_behindDoing_tu np gd lo2 pd2 σ 101 nx 0 (sp_doing_va np dd g nx) h2 ud2) pd2 lo2 (sp_note0_ra rd2 k nx) else lp_travel0_ra np ns dd gd steps σ n_ (sp_doing np dd g nx) (k + 1) (sp_doing_va np dd g nx) h2 hi2 (sp_doing_co_5 en2 np dd g nx) ud2 pd2 lo2 (sp_note0_ra rd2 k nx)) else if (sp_performing ns h2 g (sp_performedBy np dd nx) σ) = (-1) then lp_travel0_ra np ns dd gd steps σ n_ (lp_behindDoing np gd (sp_performing_la ns h2 lo2 (sp_performedBy np dd nx) σ) (sp_performing_pe ns h2 pd2 (sp_performedBy np dd nx) nx σ) σ 101 nx 0 (sp_performing_va ns h2 g (sp_performedBy np dd nx) σ) (sp_performing_pi_3 ns h2 g (sp_performedBy np dd nx) σ) (sp_performing_tu ns h2 ud2 (sp_performedBy np dd nx) σ)) (k + 1) (lp_behindDoing_va np gd (sp_performing_la ns h2 lo2 (sp_performedBy np dd nx) σ) (sp_performing_pe ns h2 pd2 (sp_performedBy np dd nx) nx σ) σ 101 nx 0 (sp_performing_va ns h2 g (sp_performedBy np dd nx) σ) (sp_performing_pi_3 ns h2 g (sp_performedBy np dd nx) σ) (sp_performing_tu ns h2 ud2 (sp_performedBy np dd nx) σ)) (lp_behindDoing_pi_3 np gd (sp_performing_la ns h2 lo2 (sp_performedBy np dd nx) σ) (sp_performing_pe ns h2 pd2 (sp_performedBy np dd nx) nx σ) σ 101 nx 0 (sp_performing_va ns h2 g (sp_performedBy np dd nx) σ) (sp_performing_pi_3 ns h2 g (sp_performedBy np dd nx) σ) (sp_performing_tu ns h2 ud2 (sp_performedBy np dd nx) σ)) (sp_performing_pi_4 ns h2 hi2 g (sp_performedBy np dd nx) σ) (lp_behindDoing_co_5 (sp_performing_co_5 en2 ns h2 (sp_performedBy np dd nx) σ) np gd (sp_performing_la ns h2 lo2 (sp_performedBy np dd nx) σ) (sp_performing_pe ns h2 pd2 (sp_performedBy np dd nx) nx σ) σ 101 nx 0 (sp_performing_va ns h2 g (sp_performedBy np dd nx) σ) (sp_performing_pi_3 ns h2 g (sp_performedBy np dd nx) σ) (sp_performing_tu ns h2 ud2 (sp_performedBy np dd nx) σ)) (lp_behindDoing_tu np gd (sp_performing_la ns h2 lo2 (sp_performedBy np dd nx) σ) (sp_performing_pe ns h2 pd2 (sp_performedBy np dd nx) nx σ) σ 101 nx 0 (sp_performing_va ns h2 g (sp_performedBy np dd nx) σ) (sp_performing_pi_3 ns h2 g (sp_performedBy np dd nx) σ) (sp_performing_tu ns h2 ud2 (sp_performedBy np dd nx) σ)) (sp_performing_pe ns h2 pd2 (sp_performedBy np dd nx) nx σ) (sp_performing_la ns h2 lo2 (sp_performedBy np dd nx) σ) (sp_note0_ra rd2 k nx) else lp_travel0_ra np ns dd gd steps σ n_ (sp_performing ns h2 g (sp_performedBy np dd nx) σ) (k + 1) (sp_performing_va ns h2 g (sp_performedBy np dd nx) σ) (sp_performing_pi_3 ns h2 g (sp_performedBy np dd nx) σ) (sp_performing_pi_4 ns h2 hi2 g (sp_performedBy np dd nx) σ) (sp_performing_co_5 en2 ns h2 (sp_performedBy np dd nx) σ) (sp_performing_tu ns h2 ud2 (sp_performedBy np dd nx) σ) (sp_performing_pe ns h2 pd2 (sp_performedBy np dd nx) nx σ) (sp_performing_la ns h2 lo2 (sp_performedBy np dd nx) σ) (sp_note0_ra rd2 k nx)
def sp_travel0_ra (en : Int32) (np : Int32) (ns : Int32) (hi : Int32) (dd : Nat → Int32) (gd : Nat → Int32) (f : Nat → Int64) (lo : Nat → Option Nat) (pd : Nat → Int32) (ud : Nat → Int32) (rd : Nat → Int32) (x : Int32) (steps : Int64) (σ : Nat → Stm) : Nat → Int32 := if (sp_performing ns 0 f x σ) = (-1) then lp_travel0_ra np ns dd gd steps σ 4097 0 0 (sp_performing_va ns 0 f x σ) (sp_performing_pi_3 ns 0 f x σ) (sp_performing_pi_4 ns 0 hi f x σ) 0 (sp_performing_tu ns 0 ud x σ) (sp_performing_pe ns 0 pd x 0 σ) (sp_performing_la ns 0 lo x σ) rd else lp_travel0_ra np ns dd gd steps σ 4097 (sp_performing ns 0 f x σ) 0 (sp_performing_va ns 0 f x σ) (sp_performing_pi_3 ns 0 f x σ) (sp_performing_pi_4 ns 0 hi f x σ) (sp_performing_co_5 en ns 0 x σ) (sp_performing_tu ns 0 ud x σ) (sp_performing_pe ns 0 pd x 0 σ) (sp_performing_la ns 0 lo x σ) rd
set_option maxHeartbeats 4000000 in
set_option maxRecDepth 100000 in
theorem c_travel0 {l : Launch} {H0 : Heap} {D : va_G} {cI cL cQ cB : ClassId} {M : mp} {co pg ce pi ra va dg gg tg0 la pe tu : Nat} {sa u1 u2 u3 u4 u5 : Nat → Nat} {σ : Nat → Stm} {ln : Int32} {en : Int32} {np : Int32} {ns : Int32} {hh : Int32} {hi : Int32} {dd : Nat → Int32} {gd : Nat → Int32} {f : Nat → Int64} {lo : Nat → Option Nat} {pd : Nat → Int32} {ud : Nat → Int32} {rd : Nat → Int32} {x : Int32} {steps : Int64} (hst : steps.toInt ≤ 4096) (ne0 : pe ≠ tu) (ne1 : dg ≠ gg) (gh0 : M co = some (.inr (1, [.ref pg, .ref ce, .ref pi, .ref ra, .int ln, .int en]))) (gh1 : M ce = some (.inr (0, [.ref va]))) (gh2 : M va = some (.inl (cL, 16, .inr (.inl f)))) (gh3 : M pg = some (.inr (3, [.ref dg, .ref gg, .ref tg0, .int np, .int ns]))) (gh4 : M dg = some (.inl (cI, 60, .inl dd))) (gh5 : M gg = some (.inl (cI, 60, .inl gd))) (gh6 : M tg0 = some (.inl (cQ, 60, .inr (.inr (.inr (.inr (tdOf ns sa))))))) (gh7 : M pi = some (.inr (2, [.ref la, .ref pe, .ref tu, .int hh, .int hi]))) (gh8 : M la = some (.inl (cQ, 100, .inr (.inr (.inr (.inr (lq lo sa))))))) (gh9 : M pe = some (.inl (cI, 100, .inl pd))) (gh10 : M tu = some (.inl (cI, 100, .inl ud))) (gh11 : M ra = some (.inl (cI, 0, .inl rd))) (hp : SP cI cL M ns sa u1 u2 u3 u4 u5 σ) (hσ : ∀ i : Nat, (i : Int) < ns.toInt → (st_l (σ i)).toInt ≤ 7) (hlo : ∀ k j : Nat, lo k = some j → (j : Int) < ns.toInt) : MC l H0 D cls7 (tysOf cI cL cQ cB) NW ({ cls := "PerformRanges$Course", name := "travel", desc := "(IJ)I" } : Jvm.MethodName) (Cond.code ({ cls := "PerformRanges$Course", name := "travel", desc := "(IJ)I" } : Jvm.MethodName) prog_3_method_2_code 8 (Option.some Jvm.ClassFile.FieldType.int) :: GW) ({ frames := 6, cells := 0, slots := 0, locals := 135 }) [.ref co, .int x, .long steps] M (fun v M' => v = some (.int (sp_travel0 en np ns hi dd gd f lo pd ud rd x steps σ)) ∧ M' pi = some (.inr (2, [.ref la, .ref pe, .ref tu, .int (sp_travel0_pi_3 en np ns hi dd gd f lo pd ud rd x steps σ), .int (sp_travel0_pi_4 en np ns hi dd gd f lo pd ud rd x steps σ)])) ∧ M' co = some (.inr (1, [.ref pg, .ref ce, .ref pi, .ref ra, .int (sp_travel0_co_4 ln en np ns hi dd gd f lo pd ud rd x steps σ), .int (sp_travel0_co_5 en np ns hi dd gd f lo pd ud rd x steps σ)])) ∧ M' la = some (.inl (cQ, 100, .inr (.inr (.inr (.inr (lq (sp_travel0_la en np ns hi dd gd f lo pd ud rd x steps σ) sa)))))) ∧ M' pe = some (.inl (cI, 100, .inl (sp_travel0_pe en np ns hi dd gd f lo pd ud rd x steps σ))) ∧ M' tu = some (.inl (cI, 100, .inl (sp_travel0_tu en np ns hi dd gd f lo pd ud rd x steps σ))) ∧ M' va = some (.inl (cL, 16, .inr (.inl (sp_travel0_va en np ns hi dd gd f lo pd ud rd x steps σ)))) ∧ M' ra = some (.inl (cI, 0, .inl (sp_travel0_ra en np ns hi dd gd f lo pd ud rd x steps σ))) ∧ ∀ q, q ≠ pi → q ≠ co → q ≠ la → q ≠ pe → q ≠ tu → q ≠ va → q ≠ ra → M' q = M q) := by
  refine MC.of (cc := prog_3_method_2_code) (nL := 8) (ret := (Option.some Jvm.ClassFile.FieldType.int)) (lv := [(0, .ref co), (1, .int x), (2, .long steps)]) (by decide) rfl (Nat.le_of_ble_eq_true rfl) rfl ?_
  intro p e s m below meth c X hr hlk hnm hK
  have km1 : ((-1) : Int32).toInt = -1 := rfl
  have k0 : (0 : Int32).toInt = 0 := rfl
  have k1 : (1 : Int32).toInt = 1 := rfl
  refine V.rd (pc' := 1) (fun hl => lv_aload_n X.1 X.2.1 d_Course_travel_0 rfl (lv_at hl 0 rfl)) ?_
  refine V.get (pc' := 4) X hK gh0 uw_Course rfl 2 (by decide) (mcs wd_107) rfl d_Course_travel_1 rfl ?_
  refine V.callV (pc' := 7) X hK (c_Pile_clear  (pi := pi) (la := la) (pe := pe) (tu := tu) (hh := hh) (hi := hi)   gh7  ) gh7 rfl (cwG (n := 0) X (mcs wd_142) (mcs wd_143) (mcs wd_144) (mcs wd_81) wd_145 (by decide +kernel) (by decide) (by decide)) rfl rfl (Nat.le_of_ble_eq_true rfl) d_Course_travel_4 ⟨by decide, by decide⟩ rfl (st1 := []) rfl (fun M_1 ⟨h_2, fr_3⟩ => ?_)
  have h_4 : M_1 co = some (.inr (1, [.ref pg, .ref ce, .ref pi, .ref ra, .int ln, .int en])) := (fr_3 _ (ne_k gh0 gh7 (i := 1) (j := 2) rfl rfl (by decide))).trans gh0
  have h_5 : M_1 ce = some (.inr (0, [.ref va])) := (fr_3 _ (ne_k gh1 gh7 (i := 0) (j := 2) rfl rfl (by decide))).trans gh1
  have h_6 : M_1 va = some (.inl (cL, 16, .inr (.inl f))) := (fr_3 _ (ne_k gh2 gh7 (i := 100016) (j := 2) rfl rfl (by decide))).trans gh2
  have h_7 : M_1 pg = some (.inr (3, [.ref dg, .ref gg, .ref tg0, .int np, .int ns])) := (fr_3 _ (ne_k gh3 gh7 (i := 3) (j := 2) rfl rfl (by decide))).trans gh3
  have h_8 : M_1 dg = some (.inl (cI, 60, .inl dd)) := (fr_3 _ (ne_k gh4 gh7 (i := 1060) (j := 2) rfl rfl (by decide))).trans gh4
  have h_9 : M_1 gg = some (.inl (cI, 60, .inl gd)) := (fr_3 _ (ne_k gh5 gh7 (i := 1060) (j := 2) rfl rfl (by decide))).trans gh5
  have h_10 : M_1 tg0 = some (.inl (cQ, 60, .inr (.inr (.inr (.inr (tdOf ns sa)))))) := (fr_3 _ (ne_k gh6 gh7 (i := 10000060) (j := 2) rfl rfl (by decide))).trans gh6
  have h_11 : M_1 la = some (.inl (cQ, 100, .inr (.inr (.inr (.inr (lq lo sa)))))) := (fr_3 _ (ne_k gh8 gh7 (i := 10000100) (j := 2) rfl rfl (by decide))).trans gh8
  have h_12 : M_1 pe = some (.inl (cI, 100, .inl pd)) := (fr_3 _ (ne_k gh9 gh7 (i := 1100) (j := 2) rfl rfl (by decide))).trans gh9
  have h_13 : M_1 tu = some (.inl (cI, 100, .inl ud)) := (fr_3 _ (ne_k gh10 gh7 (i := 1100) (j := 2) rfl rfl (by decide))).trans gh10
  have h_14 : M_1 ra = some (.inl (cI, 0, .inl rd)) := (fr_3 _ (ne_k gh11 gh7 (i := 1000) (j := 2) rfl rfl (by decide))).trans gh11
  have hp_15 := hp.keep (M' := M_1) (fun q e he ht => fr_3 q (ne_p he ht gh7 (j := 2) rfl (by decide)))
  refine V.rd (pc' := 8) (fun hl => lv_aload_n X.1 X.2.1 d_Course_travel_7 rfl (lv_at hl 0 rfl)) ?_
  refine V.rd (pc' := 9) (fun hl => lv_iload_n X.1 X.2.1 d_Course_travel_8 rfl (lv_at hl 1 rfl)) ?_
  refine V.go (pc' := 10) (lv_iconst (v := 0) X.1 X.2.1 d_Course_travel_9 (by decide)) ?_
  refine V.callV (pc' := 13) X hK (c_performing  (co := co) (pg := pg) (ce := ce) (pi := pi) (ra := ra) (va := va) (dg := dg) (gg := gg) (tg0 := tg0) (la := la) (pe := pe) (tu := tu) (ln := ln) (en := en) (np := np) (ns := ns) (hh := 0) (hi := hi) (f := f) (lo := lo) (pd := pd) (ud := ud) (x := x) (y := 0)  ne0 h_4 h_5 h_6 h_7 h_10 h_2 h_11 h_12 h_13 hp_15 hσ) h_4 rfl (cwG (n := 2) X (mcs wd_146) (mcs wd_147) (mcs wd_148) (mcs wd_92) wd_149 (by decide +kernel) (by decide) (by decide)) rfl rfl (Nat.le_of_ble_eq_true rfl) d_Course_travel_10 ⟨by decide, by decide⟩ rfl (st1 := [.int (sp_performing ns 0 f x σ)]) rfl (fun M_16 ⟨h_17, h_18, h_19, h_20, h_21, h_22, fr_23⟩ => ?_)
  have h_24 : M_16 ce = some (.inr (0, [.ref va])) := (fr_23 _ (ne_k h_5 h_4 (i := 0) (j := 1) rfl rfl (by decide)) (ne_k h_5 h_11 (i := 0) (j := 10000100) rfl rfl (by decide)) (ne_k h_5 h_12 (i := 0) (j := 1100) rfl rfl (by decide)) (ne_k h_5 h_13 (i := 0) (j := 1100) rfl rfl (by decide)) (ne_k h_5 h_2 (i := 0) (j := 2) rfl rfl (by decide)) (ne_k h_5 h_6 (i := 0) (j := 100016) rfl rfl (by decide))).trans h_5
  have h_25 : M_16 pg = some (.inr (3, [.ref dg, .ref gg, .ref tg0, .int np, .int ns])) := (fr_23 _ (ne_k h_7 h_4 (i := 3) (j := 1) rfl rfl (by decide)) (ne_k h_7 h_11 (i := 3) (j := 10000100) rfl rfl (by decide)) (ne_k h_7 h_12 (i := 3) (j := 1100) rfl rfl (by decide)) (ne_k h_7 h_13 (i := 3) (j := 1100) rfl rfl (by decide)) (ne_k h_7 h_2 (i := 3) (j := 2) rfl rfl (by decide)) (ne_k h_7 h_6 (i := 3) (j := 100016) rfl rfl (by decide))).trans h_7
  have h_26 : M_16 dg = some (.inl (cI, 60, .inl dd)) := (fr_23 _ (ne_k h_8 h_4 (i := 1060) (j := 1) rfl rfl (by decide)) (ne_k h_8 h_11 (i := 1060) (j := 10000100) rfl rfl (by decide)) (ne_k h_8 h_12 (i := 1060) (j := 1100) rfl rfl (by decide)) (ne_k h_8 h_13 (i := 1060) (j := 1100) rfl rfl (by decide)) (ne_k h_8 h_2 (i := 1060) (j := 2) rfl rfl (by decide)) (ne_k h_8 h_6 (i := 1060) (j := 100016) rfl rfl (by decide))).trans h_8
  have h_27 : M_16 gg = some (.inl (cI, 60, .inl gd)) := (fr_23 _ (ne_k h_9 h_4 (i := 1060) (j := 1) rfl rfl (by decide)) (ne_k h_9 h_11 (i := 1060) (j := 10000100) rfl rfl (by decide)) (ne_k h_9 h_12 (i := 1060) (j := 1100) rfl rfl (by decide)) (ne_k h_9 h_13 (i := 1060) (j := 1100) rfl rfl (by decide)) (ne_k h_9 h_2 (i := 1060) (j := 2) rfl rfl (by decide)) (ne_k h_9 h_6 (i := 1060) (j := 100016) rfl rfl (by decide))).trans h_9
  have h_28 : M_16 tg0 = some (.inl (cQ, 60, .inr (.inr (.inr (.inr (tdOf ns sa)))))) := (fr_23 _ (ne_k h_10 h_4 (i := 10000060) (j := 1) rfl rfl (by decide)) (ne_k h_10 h_11 (i := 10000060) (j := 10000100) rfl rfl (by decide)) (ne_k h_10 h_12 (i := 10000060) (j := 1100) rfl rfl (by decide)) (ne_k h_10 h_13 (i := 10000060) (j := 1100) rfl rfl (by decide)) (ne_k h_10 h_2 (i := 10000060) (j := 2) rfl rfl (by decide)) (ne_k h_10 h_6 (i := 10000060) (j := 100016) rfl rfl (by decide))).trans h_10
  have h_29 : M_16 ra = some (.inl (cI, 0, .inl rd)) := (fr_23 _ (ne_k h_14 h_4 (i := 1000) (j := 1) rfl rfl (by decide)) (ne_k h_14 h_11 (i := 1000) (j := 10000100) rfl rfl (by decide)) (ne_k h_14 h_12 (i := 1000) (j := 1100) rfl rfl (by decide)) (ne_k h_14 h_13 (i := 1000) (j := 1100) rfl rfl (by decide)) (ne_k h_14 h_2 (i := 1000) (j := 2) rfl rfl (by decide)) (ne_k h_14 h_6 (i := 1000) (j := 100016) rfl rfl (by decide))).trans h_14
  have hp_30 := hp_15.keep (M' := M_16) (fun q e he ht => fr_23 q (ne_p he ht h_4 (j := 1) rfl (by decide)) (ne_p he ht h_11 (j := 10000100) rfl (by decide)) (ne_p he ht h_12 (j := 1100) rfl (by decide)) (ne_p he ht h_13 (j := 1100) rfl (by decide)) (ne_p he ht h_2 (j := 2) rfl (by decide)) (ne_p he ht h_6 (j := 100016) rfl (by decide)))
  have hlo_31 : ∀ k j : Nat, (sp_performing_la ns 0 lo x σ) k = some j → (j : Int) < ns.toInt := perf_lo hlo
  refine V.wr (pc' := 15) (lv' := [(4, .int (sp_performing ns 0 f x σ)), (0, .ref co), (1, .int x), (2, .long steps)]) (fun hl => lv_istore X.1 X.2.1 d_Course_travel_13 hl (by decide) rfl) ?_
  refine V.rd (pc' := 17) (fun hl => lv_iload X.1 X.2.1 d_Course_travel_15 (lv_at hl 0 rfl)) ?_
  refine V.go (pc' := 18) (lv_iconst (v := (-1)) X.1 X.2.1 d_Course_travel_17 (by decide)) ?_
  refine V.bn (pc' := 21) (tgt := 28) (P := (sp_performing ns 0 f x σ) = (-1)) (lv_icmp_ne X.1 X.2.1 d_Course_travel_18 (by decide)) (fun c_32 => ?_) (fun c_32 => ?_)
  · have i_33 := congrArg Int32.toInt c_32
    refine V.rd (pc' := 22) (fun hl => lv_aload_n X.1 X.2.1 d_Course_travel_21 rfl (lv_at hl 1 rfl)) ?_
    refine V.go (pc' := 23) (lv_iconst (v := 0) X.1 X.2.1 d_Course_travel_22 (by decide)) ?_
    refine V.callV (pc' := 26) X hK (c_Course_end  (co := co) (pg := pg) (ce := ce) (pi := pi) (ra := ra) (ln := ln) (en := sp_performing_co_5 en ns 0 x σ) (x := 0)   h_17  ) h_17 rfl (cwG (n := 1) X (mcs wd_89) (mcs wd_90) (mcs wd_91) (mcs wd_92) wd_93 (by decide +kernel) (by decide) (by decide)) rfl rfl (Nat.le_of_ble_eq_true rfl) d_Course_travel_23 ⟨by decide, by decide⟩ rfl (st1 := [.int 0]) rfl (fun M_34 ⟨h_35, fr_36⟩ => ?_)
    have h_37 : M_34 ce = some (.inr (0, [.ref va])) := (fr_36 _ (ne_k h_24 h_17 (i := 0) (j := 1) rfl rfl (by decide))).trans h_24
    have h_38 : M_34 pg = some (.inr (3, [.ref dg, .ref gg, .ref tg0, .int np, .int ns])) := (fr_36 _ (ne_k h_25 h_17 (i := 3) (j := 1) rfl rfl (by decide))).trans h_25
    have h_39 : M_34 dg = some (.inl (cI, 60, .inl dd)) := (fr_36 _ (ne_k h_26 h_17 (i := 1060) (j := 1) rfl rfl (by decide))).trans h_26
    have h_40 : M_34 gg = some (.inl (cI, 60, .inl gd)) := (fr_36 _ (ne_k h_27 h_17 (i := 1060) (j := 1) rfl rfl (by decide))).trans h_27
    have h_41 : M_34 tg0 = some (.inl (cQ, 60, .inr (.inr (.inr (.inr (tdOf ns sa)))))) := (fr_36 _ (ne_k h_28 h_17 (i := 10000060) (j := 1) rfl rfl (by decide))).trans h_28
    have h_42 : M_34 ra = some (.inl (cI, 0, .inl rd)) := (fr_36 _ (ne_k h_29 h_17 (i := 1000) (j := 1) rfl rfl (by decide))).trans h_29
    have h_43 : M_34 la = some (.inl (cQ, 100, .inr (.inr (.inr (.inr (lq (sp_performing_la ns 0 lo x σ) sa)))))) := (fr_36 _ (ne_k h_18 h_17 (i := 10000100) (j := 1) rfl rfl (by decide))).trans h_18
    have h_44 : M_34 pe = some (.inl (cI, 100, .inl (sp_performing_pe ns 0 pd x 0 σ))) := (fr_36 _ (ne_k h_19 h_17 (i := 1100) (j := 1) rfl rfl (by decide))).trans h_19
    have h_45 : M_34 tu = some (.inl (cI, 100, .inl (sp_performing_tu ns 0 ud x σ))) := (fr_36 _ (ne_k h_20 h_17 (i := 1100) (j := 1) rfl rfl (by decide))).trans h_20
    have h_46 : M_34 pi = some (.inr (2, [.ref la, .ref pe, .ref tu, .int (sp_performing_pi_3 ns 0 f x σ), .int (sp_performing_pi_4 ns 0 hi f x σ)])) := (fr_36 _ (ne_k h_21 h_17 (i := 2) (j := 1) rfl rfl (by decide))).trans h_21
    have h_47 : M_34 va = some (.inl (cL, 16, .inr (.inl (sp_performing_va ns 0 f x σ)))) := (fr_36 _ (ne_k h_22 h_17 (i := 100016) (j := 1) rfl rfl (by decide))).trans h_22
    have hp_48 := hp_30.keep (M' := M_34) (fun q e he ht => fr_36 q (ne_p he ht h_17 (j := 1) rfl (by decide)))
    refine V.wr (pc' := 28) (lv' := [(4, .int 0), (0, .ref co), (1, .int x), (2, .long steps)]) (fun hl => lv_istore X.1 X.2.1 d_Course_travel_26 hl (by decide) rfl) ?_
    refine V.go (pc' := 29) (lv_iconst (v := 0) X.1 X.2.1 d_Course_travel_28 (by decide)) ?_
    refine V.wr (pc' := 31) (lv' := [(5, .int 0), (4, .int 0), (0, .ref co), (1, .int x), (2, .long steps)]) (fun hl => lv_istore X.1 X.2.1 d_Course_travel_29 hl (by decide) rfl) ?_
    obtain ⟨ze_68, hze_68⟩ : ∃ z, z = lp_travel0 np ns dd gd steps σ 4097 0 0 (sp_performing_va ns 0 f x σ) (sp_performing_pi_3 ns 0 f x σ) (sp_performing_pi_4 ns 0 hi f x σ) 0 (sp_performing_tu ns 0 ud x σ) (sp_performing_pe ns 0 pd x 0 σ) (sp_performing_la ns 0 lo x σ) rd := ⟨_, rfl⟩
    obtain ⟨ze_69, hze_69⟩ : ∃ z, z = lp_travel0_pi_3 np ns dd gd steps σ 4097 0 0 (sp_performing_va ns 0 f x σ) (sp_performing_pi_3 ns 0 f x σ) (sp_performing_pi_4 ns 0 hi f x σ) 0 (sp_performing_tu ns 0 ud x σ) (sp_performing_pe ns 0 pd x 0 σ) (sp_performing_la ns 0 lo x σ) rd := ⟨_, rfl⟩
    obtain ⟨ze_70, hze_70⟩ : ∃ z, z = lp_travel0_pi_4 np ns dd gd steps σ 4097 0 0 (sp_performing_va ns 0 f x σ) (sp_performing_pi_3 ns 0 f x σ) (sp_performing_pi_4 ns 0 hi f x σ) 0 (sp_performing_tu ns 0 ud x σ) (sp_performing_pe ns 0 pd x 0 σ) (sp_performing_la ns 0 lo x σ) rd := ⟨_, rfl⟩
    obtain ⟨ze_71, hze_71⟩ : ∃ z, z = lp_travel0_co_4 ln np ns dd gd steps σ 4097 0 0 (sp_performing_va ns 0 f x σ) (sp_performing_pi_3 ns 0 f x σ) (sp_performing_pi_4 ns 0 hi f x σ) 0 (sp_performing_tu ns 0 ud x σ) (sp_performing_pe ns 0 pd x 0 σ) (sp_performing_la ns 0 lo x σ) rd := ⟨_, rfl⟩
    obtain ⟨ze_72, hze_72⟩ : ∃ z, z = lp_travel0_co_5 np ns dd gd steps σ 4097 0 0 (sp_performing_va ns 0 f x σ) (sp_performing_pi_3 ns 0 f x σ) (sp_performing_pi_4 ns 0 hi f x σ) 0 (sp_performing_tu ns 0 ud x σ) (sp_performing_pe ns 0 pd x 0 σ) (sp_performing_la ns 0 lo x σ) rd := ⟨_, rfl⟩
    obtain ⟨ze_73, hze_73⟩ : ∃ z, z = lp_travel0_la np ns dd gd steps σ 4097 0 0 (sp_performing_va ns 0 f x σ) (sp_performing_pi_3 ns 0 f x σ) (sp_performing_pi_4 ns 0 hi f x σ) 0 (sp_performing_tu ns 0 ud x σ) (sp_performing_pe ns 0 pd x 0 σ) (sp_performing_la ns 0 lo x σ) rd := ⟨_, rfl⟩
    obtain ⟨ze_74, hze_74⟩ : ∃ z, z = lp_travel0_pe np ns dd gd steps σ 4097 0 0 (sp_performing_va ns 0 f x σ) (sp_performing_pi_3 ns 0 f x σ) (sp_performing_pi_4 ns 0 hi f x σ) 0 (sp_performing_tu ns 0 ud x σ) (sp_performing_pe ns 0 pd x 0 σ) (sp_performing_la ns 0 lo x σ) rd := ⟨_, rfl⟩
    obtain ⟨ze_75, hze_75⟩ : ∃ z, z = lp_travel0_tu np ns dd gd steps σ 4097 0 0 (sp_performing_va ns 0 f x σ) (sp_performing_pi_3 ns 0 f x σ) (sp_performing_pi_4 ns 0 hi f x σ) 0 (sp_performing_tu ns 0 ud x σ) (sp_performing_pe ns 0 pd x 0 σ) (sp_performing_la ns 0 lo x σ) rd := ⟨_, rfl⟩
    obtain ⟨ze_76, hze_76⟩ : ∃ z, z = lp_travel0_va np ns dd gd steps σ 4097 0 0 (sp_performing_va ns 0 f x σ) (sp_performing_pi_3 ns 0 f x σ) (sp_performing_pi_4 ns 0 hi f x σ) 0 (sp_performing_tu ns 0 ud x σ) (sp_performing_pe ns 0 pd x 0 σ) (sp_performing_la ns 0 lo x σ) rd := ⟨_, rfl⟩
    obtain ⟨ze_77, hze_77⟩ : ∃ z, z = lp_travel0_ra np ns dd gd steps σ 4097 0 0 (sp_performing_va ns 0 f x σ) (sp_performing_pi_3 ns 0 f x σ) (sp_performing_pi_4 ns 0 hi f x σ) 0 (sp_performing_tu ns 0 ud x σ) (sp_performing_pe ns 0 pd x 0 σ) (sp_performing_la ns 0 lo x σ) rd := ⟨_, rfl⟩
    refine V.pick [2, 3, 4, 1, 0] rfl ?_
    refine V.ind (α := Unit) (x0 := ()) (n0 := 4097) (I := fun nn_ _ M' lv' => ∃ (nx : Int32) (k : Int32) (g : Nat → Int64) (h2 : Int32) (hi2 : Int32) (en2 : Int32) (ud2 : Nat → Int32) (pd2 : Nat → Int32) (lo2 : Nat → Option Nat) (rd2 : Nat → Int32), lv' = [(0, .ref co), (1, .int x), (2, .long steps), (4, .int nx), (5, .int k)] ∧ M' ce = some (.inr (0, [.ref va])) ∧ M' pg = some (.inr (3, [.ref dg, .ref gg, .ref tg0, .int np, .int ns])) ∧ M' dg = some (.inl (cI, 60, .inl dd)) ∧ M' gg = some (.inl (cI, 60, .inl gd)) ∧ M' tg0 = some (.inl (cQ, 60, .inr (.inr (.inr (.inr (tdOf ns sa)))))) ∧ M' ra = some (.inl (cI, 0, .inl rd2)) ∧ M' la = some (.inl (cQ, 100, .inr (.inr (.inr (.inr (lq lo2 sa)))))) ∧ M' pe = some (.inl (cI, 100, .inl pd2)) ∧ M' tu = some (.inl (cI, 100, .inl ud2)) ∧ M' pi = some (.inr (2, [.ref la, .ref pe, .ref tu, .int h2, .int hi2])) ∧ M' va = some (.inl (cL, 16, .inr (.inl g))) ∧ M' co = some (.inr (1, [.ref pg, .ref ce, .ref pi, .ref ra, .int ln, .int en2])) ∧ SP cI cL M' ns sa u1 u2 u3 u4 u5 σ ∧ (∀ q, q ≠ va → q ≠ pi → q ≠ co → q ≠ tu → q ≠ pe → q ≠ la → q ≠ ra → M' q = M_34 q) ∧ (0 ≤ k.toInt ∧ k.toInt ≤ 4096) ∧ (k.toInt + nn_ = 4097) ∧ (∀ k j : Nat, lo2 k = some j → (j : Int) < ns.toInt) ∧ lp_travel0 np ns dd gd steps σ nn_ nx k g h2 hi2 en2 ud2 pd2 lo2 rd2 = ze_68 ∧ lp_travel0_pi_3 np ns dd gd steps σ nn_ nx k g h2 hi2 en2 ud2 pd2 lo2 rd2 = ze_69 ∧ lp_travel0_pi_4 np ns dd gd steps σ nn_ nx k g h2 hi2 en2 ud2 pd2 lo2 rd2 = ze_70 ∧ lp_travel0_co_4 ln np ns dd gd steps σ nn_ nx k g h2 hi2 en2 ud2 pd2 lo2 rd2 = ze_71 ∧ lp_travel0_co_5 np ns dd gd steps σ nn_ nx k g h2 hi2 en2 ud2 pd2 lo2 rd2 = ze_72 ∧ lp_travel0_la np ns dd gd steps σ nn_ nx k g h2 hi2 en2 ud2 pd2 lo2 rd2 = ze_73 ∧ lp_travel0_pe np ns dd gd steps σ nn_ nx k g h2 hi2 en2 ud2 pd2 lo2 rd2 = ze_74 ∧ lp_travel0_tu np ns dd gd steps σ nn_ nx k g h2 hi2 en2 ud2 pd2 lo2 rd2 = ze_75 ∧ lp_travel0_va np ns dd gd steps σ nn_ nx k g h2 hi2 en2 ud2 pd2 lo2 rd2 = ze_76 ∧ lp_travel0_ra np ns dd gd steps σ nn_ nx k g h2 hi2 en2 ud2 pd2 lo2 rd2 = ze_77) ⟨0, 0, (sp_performing_va ns 0 f x σ), (sp_performing_pi_3 ns 0 f x σ), (sp_performing_pi_4 ns 0 hi f x σ), 0, (sp_performing_tu ns 0 ud x σ), (sp_performing_pe ns 0 pd x 0 σ), (sp_performing_la ns 0 lo x σ), rd, rfl, h_37, h_38, h_39, h_40, h_41, h_42, h_43, h_44, h_45, h_46, h_47, h_35, hp_48, (fun q _ _ _ _ _ _ _ => rfl), (by omega), (by omega), hlo_31, hze_68.symm, hze_69.symm, hze_70.symm, hze_71.symm, hze_72.symm, hze_73.symm, hze_74.symm, hze_75.symm, hze_76.symm, hze_77.symm⟩ (fun n_62 ih_63 _ M_61 lv_64 hI_65 => ?_)
    obtain ⟨nx, k, g, h2, hi2, en2, ud2, pd2, lo2, rd2, rfl, h_49, h_50, h_51, h_52, h_53, h_54, h_55, h_56, h_57, h_58, h_59, h_60, hp_67, fr_66, j1, j2, hlo2, e_68, e_69, e_70, e_71, e_72, e_73, e_74, e_75, e_76, e_77⟩ := hI_65
    obtain ⟨n_62, rfl⟩ : ∃ j, n_62 = j + 1 := ⟨n_62 - 1, by omega⟩
    refine V.rd (pc' := 33) (fun hl => lv_iload X.1 X.2.1 d_Course_travel_31 (lv_at hl 3 rfl)) ?_
    refine V.br (pc' := 36) (tgt := 112) (P := nx = 0) (lv_if_eq X.1 X.2.1 d_Course_travel_33 (by decide)) (fun c_78 => ?_) (fun c_78 => ?_)
    · have i_79 := congrArg Int32.toInt c_78
      refine V.rd (pc' := 114) (fun hl => lv_iload X.1 X.2.1 d_Course_travel_112 (lv_at hl 3 rfl)) ?_
      refine V.brT (pc' := 117) (tgt := 123) (lv_if_eq X.1 X.2.1 d_Course_travel_114 (by decide)) c_78 ?_
      refine V.rd (pc' := 124) (fun hl => lv_aload_n X.1 X.2.1 d_Course_travel_123 rfl (lv_at hl 0 rfl)) ?_
      refine V.rd (pc' := 126) (fun hl => lv_iload X.1 X.2.1 d_Course_travel_124 (lv_at hl 4 rfl)) ?_
      refine V.put (pc' := 129) X hK h_60 uw_Course t_Course tok_Course nm_Course rfl 4 (by decide) (mcs wd_150) rfl rfl rfl (Nat.le_of_ble_eq_true rfl) (fs' := [.ref pg, .ref ce, .ref pi, .ref ra, .int k, .int en2]) rfl d_Course_travel_126 rfl (fun M_80 h_81 fr_82 => ?_)
      have h_83 : M_80 ce = some (.inr (0, [.ref va])) := (fr_82 _ (ne_k h_49 h_60 (i := 0) (j := 1) rfl rfl (by decide))).trans h_49
      have h_84 : M_80 pg = some (.inr (3, [.ref dg, .ref gg, .ref tg0, .int np, .int ns])) := (fr_82 _ (ne_k h_50 h_60 (i := 3) (j := 1) rfl rfl (by decide))).trans h_50
      have h_85 : M_80 dg = some (.inl (cI, 60, .inl dd)) := (fr_82 _ (ne_k h_51 h_60 (i := 1060) (j := 1) rfl rfl (by decide))).trans h_51
      have h_86 : M_80 gg = some (.inl (cI, 60, .inl gd)) := (fr_82 _ (ne_k h_52 h_60 (i := 1060) (j := 1) rfl rfl (by decide))).trans h_52
      have h_87 : M_80 tg0 = some (.inl (cQ, 60, .inr (.inr (.inr (.inr (tdOf ns sa)))))) := (fr_82 _ (ne_k h_53 h_60 (i := 10000060) (j := 1) rfl rfl (by decide))).trans h_53
      have h_88 : M_80 ra = some (.inl (cI, 0, .inl rd2)) := (fr_82 _ (ne_k h_54 h_60 (i := 1000) (j := 1) rfl rfl (by decide))).trans h_54
      have h_89 : M_80 la = some (.inl (cQ, 100, .inr (.inr (.inr (.inr (lq lo2 sa)))))) := (fr_82 _ (ne_k h_55 h_60 (i := 10000100) (j := 1) rfl rfl (by decide))).trans h_55
      have h_90 : M_80 pe = some (.inl (cI, 100, .inl pd2)) := (fr_82 _ (ne_k h_56 h_60 (i := 1100) (j := 1) rfl rfl (by decide))).trans h_56
      have h_91 : M_80 tu = some (.inl (cI, 100, .inl ud2)) := (fr_82 _ (ne_k h_57 h_60 (i := 1100) (j := 1) rfl rfl (by decide))).trans h_57
      have h_92 : M_80 pi = some (.inr (2, [.ref la, .ref pe, .ref tu, .int h2, .int hi2])) := (fr_82 _ (ne_k h_58 h_60 (i := 2) (j := 1) rfl rfl (by decide))).trans h_58
      have h_93 : M_80 va = some (.inl (cL, 16, .inr (.inl g))) := (fr_82 _ (ne_k h_59 h_60 (i := 100016) (j := 1) rfl rfl (by decide))).trans h_59
      have hp_94 := hp_67.keep (M' := M_80) (fun q e he ht => fr_82 q (ne_p he ht h_60 (j := 1) rfl (by decide)))
      refine V.rd (pc' := 131) (fun hl => lv_iload X.1 X.2.1 d_Course_travel_129 (lv_at hl 4 rfl)) ?_
      rw [lp_travel0] at e_68
      simp only [if_pos c_78] at e_68
      rw [lp_travel0_pi_3] at e_69
      simp only [if_pos c_78] at e_69
      rw [lp_travel0_pi_4] at e_70
      simp only [if_pos c_78] at e_70
      rw [lp_travel0_co_4] at e_71
      simp only [if_pos c_78] at e_71
      rw [lp_travel0_co_5] at e_72
      simp only [if_pos c_78] at e_72
      rw [lp_travel0_la] at e_73
      simp only [if_pos c_78] at e_73
      rw [lp_travel0_pe] at e_74
      simp only [if_pos c_78] at e_74
      rw [lp_travel0_tu] at e_75
      simp only [if_pos c_78] at e_75
      rw [lp_travel0_va] at e_76
      simp only [if_pos c_78] at e_76
      rw [lp_travel0_ra] at e_77
      simp only [if_pos c_78] at e_77
      exact V.iret X hr hlk ⟨(by simp only [sp_travel0, if_pos c_32]; exact congrArg (fun z => some (Value.int z)) (e_68.trans hze_68)), (by simp only [sp_travel0_pi_3, sp_travel0_pi_4, if_pos c_32]; rw [← hze_69, ← e_69]; rw [← hze_70, ← e_70]; exact h_92), (by simp only [sp_travel0_co_4, sp_travel0_co_5, if_pos c_32]; rw [← hze_71, ← e_71]; rw [← hze_72, ← e_72]; exact h_81), (by simp only [sp_travel0_la, if_pos c_32]; rw [← hze_73, ← e_73]; exact h_89), (by simp only [sp_travel0_pe, if_pos c_32]; rw [← hze_74, ← e_74]; exact h_90), (by simp only [sp_travel0_tu, if_pos c_32]; rw [← hze_75, ← e_75]; exact h_91), (by simp only [sp_travel0_va, if_pos c_32]; rw [← hze_76, ← e_76]; exact h_93), (by simp only [sp_travel0_ra, if_pos c_32]; rw [← hze_77, ← e_77]; exact h_88), (fun q n0_ n1_ n2_ n3_ n4_ n5_ n6_ => (fr_82 q n1_).trans ((fr_66 q n5_ n0_ n1_ n4_ n3_ n2_ n6_).trans ((fr_36 q n1_).trans ((fr_23 q n1_ n2_ n3_ n4_ n0_ n5_).trans ((fr_3 q n0_))))))⟩ d_Course_travel_131
    · have i_95 := mt Int32.toInt_inj.mp c_78
      refine V.rd (pc' := 38) (fun hl => lv_iload X.1 X.2.1 d_Course_travel_36 (lv_at hl 4 rfl)) ?_
      refine V.go (pc' := 39) (lv_i2l X.1 X.2.1 d_Course_travel_38 rfl) ?_
      refine V.rd (pc' := 40) (fun hl => lv_lload_n X.1 X.2.1 d_Course_travel_39 rfl (lv_at hl 2 rfl)) ?_
      refine V.go (pc' := 41) (W.lcmp X.1 X.2.1 d_Course_travel_40) ?_
      refine V.br (pc' := 44) (tgt := 112) (P := 0 ≤ (lg_cmp k.toInt64 steps)) (lv_if_ge X.1 X.2.1 d_Course_travel_41 (by decide)) (fun c_96 => ?_) (fun c_96 => ?_)
      · refine V.rd (pc' := 114) (fun hl => lv_iload X.1 X.2.1 d_Course_travel_112 (lv_at hl 3 rfl)) ?_
        refine V.brF (pc' := 117) (tgt := 123) (lv_if_eq X.1 X.2.1 d_Course_travel_114 (by decide)) c_78 ?_
        refine V.rd (pc' := 118) (fun hl => lv_aload_n X.1 X.2.1 d_Course_travel_117 rfl (lv_at hl 0 rfl)) ?_
        refine V.go (pc' := 119) (lv_iconst (v := 1) X.1 X.2.1 d_Course_travel_118 (by decide)) ?_
        refine V.callV (pc' := 122) X hK (c_Course_end  (co := co) (pg := pg) (ce := ce) (pi := pi) (ra := ra) (ln := ln) (en := en2) (x := 1)   h_60  ) h_60 rfl (cwG (n := 1) X (mcs wd_89) (mcs wd_90) (mcs wd_91) (mcs wd_92) wd_93 (by decide +kernel) (by decide) (by decide)) rfl rfl (Nat.le_of_ble_eq_true rfl) d_Course_travel_119 ⟨by decide, by decide⟩ rfl (st1 := [.int 0]) rfl (fun M_97 ⟨h_98, fr_99⟩ => ?_)
        have h_100 : M_97 ce = some (.inr (0, [.ref va])) := (fr_99 _ (ne_k h_49 h_60 (i := 0) (j := 1) rfl rfl (by decide))).trans h_49
        have h_101 : M_97 pg = some (.inr (3, [.ref dg, .ref gg, .ref tg0, .int np, .int ns])) := (fr_99 _ (ne_k h_50 h_60 (i := 3) (j := 1) rfl rfl (by decide))).trans h_50
        have h_102 : M_97 dg = some (.inl (cI, 60, .inl dd)) := (fr_99 _ (ne_k h_51 h_60 (i := 1060) (j := 1) rfl rfl (by decide))).trans h_51
        have h_103 : M_97 gg = some (.inl (cI, 60, .inl gd)) := (fr_99 _ (ne_k h_52 h_60 (i := 1060) (j := 1) rfl rfl (by decide))).trans h_52
        have h_104 : M_97 tg0 = some (.inl (cQ, 60, .inr (.inr (.inr (.inr (tdOf ns sa)))))) := (fr_99 _ (ne_k h_53 h_60 (i := 10000060) (j := 1) rfl rfl (by decide))).trans h_53
        have h_105 : M_97 ra = some (.inl (cI, 0, .inl rd2)) := (fr_99 _ (ne_k h_54 h_60 (i := 1000) (j := 1) rfl rfl (by decide))).trans h_54
        have h_106 : M_97 la = some (.inl (cQ, 100, .inr (.inr (.inr (.inr (lq lo2 sa)))))) := (fr_99 _ (ne_k h_55 h_60 (i := 10000100) (j := 1) rfl rfl (by decide))).trans h_55
        have h_107 : M_97 pe = some (.inl (cI, 100, .inl pd2)) := (fr_99 _ (ne_k h_56 h_60 (i := 1100) (j := 1) rfl rfl (by decide))).trans h_56
        have h_108 : M_97 tu = some (.inl (cI, 100, .inl ud2)) := (fr_99 _ (ne_k h_57 h_60 (i := 1100) (j := 1) rfl rfl (by decide))).trans h_57
        have h_109 : M_97 pi = some (.inr (2, [.ref la, .ref pe, .ref tu, .int h2, .int hi2])) := (fr_99 _ (ne_k h_58 h_60 (i := 2) (j := 1) rfl rfl (by decide))).trans h_58
        have h_110 : M_97 va = some (.inl (cL, 16, .inr (.inl g))) := (fr_99 _ (ne_k h_59 h_60 (i := 100016) (j := 1) rfl rfl (by decide))).trans h_59
        have hp_111 := hp_67.keep (M' := M_97) (fun q e he ht => fr_99 q (ne_p he ht h_60 (j := 1) rfl (by decide)))
        refine V.go (pc' := 123) (lv_pop X.1 X.2.1 d_Course_travel_122 rfl) ?_
        refine V.rd (pc' := 124) (fun hl => lv_aload_n X.1 X.2.1 d_Course_travel_123 rfl (lv_at hl 0 rfl)) ?_
        refine V.rd (pc' := 126) (fun hl => lv_iload X.1 X.2.1 d_Course_travel_124 (lv_at hl 4 rfl)) ?_
        refine V.put (pc' := 129) X hK h_98 uw_Course t_Course tok_Course nm_Course rfl 4 (by decide) (mcs wd_150) rfl rfl rfl (Nat.le_of_ble_eq_true rfl) (fs' := [.ref pg, .ref ce, .ref pi, .ref ra, .int k, .int 1]) rfl d_Course_travel_126 rfl (fun M_112 h_113 fr_114 => ?_)
        have h_115 : M_112 ce = some (.inr (0, [.ref va])) := (fr_114 _ (ne_k h_100 h_98 (i := 0) (j := 1) rfl rfl (by decide))).trans h_100
        have h_116 : M_112 pg = some (.inr (3, [.ref dg, .ref gg, .ref tg0, .int np, .int ns])) := (fr_114 _ (ne_k h_101 h_98 (i := 3) (j := 1) rfl rfl (by decide))).trans h_101
        have h_117 : M_112 dg = some (.inl (cI, 60, .inl dd)) := (fr_114 _ (ne_k h_102 h_98 (i := 1060) (j := 1) rfl rfl (by decide))).trans h_102
        have h_118 : M_112 gg = some (.inl (cI, 60, .inl gd)) := (fr_114 _ (ne_k h_103 h_98 (i := 1060) (j := 1) rfl rfl (by decide))).trans h_103
        have h_119 : M_112 tg0 = some (.inl (cQ, 60, .inr (.inr (.inr (.inr (tdOf ns sa)))))) := (fr_114 _ (ne_k h_104 h_98 (i := 10000060) (j := 1) rfl rfl (by decide))).trans h_104
        have h_120 : M_112 ra = some (.inl (cI, 0, .inl rd2)) := (fr_114 _ (ne_k h_105 h_98 (i := 1000) (j := 1) rfl rfl (by decide))).trans h_105
        have h_121 : M_112 la = some (.inl (cQ, 100, .inr (.inr (.inr (.inr (lq lo2 sa)))))) := (fr_114 _ (ne_k h_106 h_98 (i := 10000100) (j := 1) rfl rfl (by decide))).trans h_106
        have h_122 : M_112 pe = some (.inl (cI, 100, .inl pd2)) := (fr_114 _ (ne_k h_107 h_98 (i := 1100) (j := 1) rfl rfl (by decide))).trans h_107
        have h_123 : M_112 tu = some (.inl (cI, 100, .inl ud2)) := (fr_114 _ (ne_k h_108 h_98 (i := 1100) (j := 1) rfl rfl (by decide))).trans h_108
        have h_124 : M_112 pi = some (.inr (2, [.ref la, .ref pe, .ref tu, .int h2, .int hi2])) := (fr_114 _ (ne_k h_109 h_98 (i := 2) (j := 1) rfl rfl (by decide))).trans h_109
        have h_125 : M_112 va = some (.inl (cL, 16, .inr (.inl g))) := (fr_114 _ (ne_k h_110 h_98 (i := 100016) (j := 1) rfl rfl (by decide))).trans h_110
        have hp_126 := hp_111.keep (M' := M_112) (fun q e he ht => fr_114 q (ne_p he ht h_98 (j := 1) rfl (by decide)))
        refine V.rd (pc' := 131) (fun hl => lv_iload X.1 X.2.1 d_Course_travel_129 (lv_at hl 4 rfl)) ?_
        rw [lp_travel0] at e_68
        simp only [if_neg c_78, if_pos c_96] at e_68
        rw [lp_travel0_pi_3] at e_69
        simp only [if_neg c_78, if_pos c_96] at e_69
        rw [lp_travel0_pi_4] at e_70
        simp only [if_neg c_78, if_pos c_96] at e_70
        rw [lp_travel0_co_4] at e_71
        simp only [if_neg c_78, if_pos c_96] at e_71
        rw [lp_travel0_co_5] at e_72
        simp only [if_neg c_78, if_pos c_96] at e_72
        rw [lp_travel0_la] at e_73
        simp only [if_neg c_78, if_pos c_96] at e_73
        rw [lp_travel0_pe] at e_74
        simp only [if_neg c_78, if_pos c_96] at e_74
        rw [lp_travel0_tu] at e_75
        simp only [if_neg c_78, if_pos c_96] at e_75
        rw [lp_travel0_va] at e_76
        simp only [if_neg c_78, if_pos c_96] at e_76
        rw [lp_travel0_ra] at e_77
        simp only [if_neg c_78, if_pos c_96] at e_77
        exact V.iret X hr hlk ⟨(by simp only [sp_travel0, if_pos c_32]; exact congrArg (fun z => some (Value.int z)) (e_68.trans hze_68)), (by simp only [sp_travel0_pi_3, sp_travel0_pi_4, if_pos c_32]; rw [← hze_69, ← e_69]; rw [← hze_70, ← e_70]; exact h_124), (by simp only [sp_travel0_co_4, sp_travel0_co_5, if_pos c_32]; rw [← hze_71, ← e_71]; rw [← hze_72, ← e_72]; exact h_113), (by simp only [sp_travel0_la, if_pos c_32]; rw [← hze_73, ← e_73]; exact h_121), (by simp only [sp_travel0_pe, if_pos c_32]; rw [← hze_74, ← e_74]; exact h_122), (by simp only [sp_travel0_tu, if_pos c_32]; rw [← hze_75, ← e_75]; exact h_123), (by simp only [sp_travel0_va, if_pos c_32]; rw [← hze_76, ← e_76]; exact h_125), (by simp only [sp_travel0_ra, if_pos c_32]; rw [← hze_77, ← e_77]; exact h_120), (fun q n0_ n1_ n2_ n3_ n4_ n5_ n6_ => (fr_114 q n1_).trans ((fr_99 q n1_).trans ((fr_66 q n5_ n0_ n1_ n4_ n3_ n2_ n6_).trans ((fr_36 q n1_).trans ((fr_23 q n1_ n2_ n3_ n4_ n0_ n5_).trans ((fr_3 q n0_)))))))⟩ d_Course_travel_131
      · have i_127 := lcmp_lt c_96
        refine V.rd (pc' := 46) (fun hl => lv_iload X.1 X.2.1 d_Course_travel_44 (lv_at hl 3 rfl)) ?_
        refine V.wr (pc' := 48) (lv' := [(6, .int nx), (0, .ref co), (1, .int x), (2, .long steps), (4, .int nx), (5, .int k)]) (fun hl => lv_istore X.1 X.2.1 d_Course_travel_46 hl (by decide) rfl) ?_
        refine V.rd (pc' := 49) (fun hl => lv_aload_n X.1 X.2.1 d_Course_travel_48 rfl (lv_at hl 1 rfl)) ?_
        refine V.rd (pc' := 51) (fun hl => lv_iload X.1 X.2.1 d_Course_travel_49 (lv_at hl 5 rfl)) ?_
        refine V.rd (pc' := 53) (fun hl => lv_iload X.1 X.2.1 d_Course_travel_51 (lv_at hl 0 rfl)) ?_
        refine V.callV (pc' := 56) X hK (c_note0  (co := co) (pg := pg) (ce := ce) (pi := pi) (ra := ra) (ln := ln) (en := en2) (rd := rd2) (x := k) (y := nx)   h_60 h_54  ) h_60 rfl (cwG (n := 2) X (mcs wd_151) (mcs wd_152) (mcs wd_153) (mcs wd_92) wd_154 (by decide +kernel) (by decide) (by decide)) rfl rfl (Nat.le_of_ble_eq_true rfl) d_Course_travel_53 ⟨by decide, by decide⟩ rfl (st1 := []) rfl (fun M_128 ⟨h_129, fr_130⟩ => ?_)
        have h_131 : M_128 ce = some (.inr (0, [.ref va])) := (fr_130 _ (ne_k h_49 h_54 (i := 0) (j := 1000) rfl rfl (by decide))).trans h_49
        have h_132 : M_128 pg = some (.inr (3, [.ref dg, .ref gg, .ref tg0, .int np, .int ns])) := (fr_130 _ (ne_k h_50 h_54 (i := 3) (j := 1000) rfl rfl (by decide))).trans h_50
        have h_133 : M_128 dg = some (.inl (cI, 60, .inl dd)) := (fr_130 _ (ne_k h_51 h_54 (i := 1060) (j := 1000) rfl rfl (by decide))).trans h_51
        have h_134 : M_128 gg = some (.inl (cI, 60, .inl gd)) := (fr_130 _ (ne_k h_52 h_54 (i := 1060) (j := 1000) rfl rfl (by decide))).trans h_52
        have h_135 : M_128 tg0 = some (.inl (cQ, 60, .inr (.inr (.inr (.inr (tdOf ns sa)))))) := (fr_130 _ (ne_k h_53 h_54 (i := 10000060) (j := 1000) rfl rfl (by decide))).trans h_53
        have h_136 : M_128 la = some (.inl (cQ, 100, .inr (.inr (.inr (.inr (lq lo2 sa)))))) := (fr_130 _ (ne_k h_55 h_54 (i := 10000100) (j := 1000) rfl rfl (by decide))).trans h_55
        have h_137 : M_128 pe = some (.inl (cI, 100, .inl pd2)) := (fr_130 _ (ne_k h_56 h_54 (i := 1100) (j := 1000) rfl rfl (by decide))).trans h_56
        have h_138 : M_128 tu = some (.inl (cI, 100, .inl ud2)) := (fr_130 _ (ne_k h_57 h_54 (i := 1100) (j := 1000) rfl rfl (by decide))).trans h_57
        have h_139 : M_128 pi = some (.inr (2, [.ref la, .ref pe, .ref tu, .int h2, .int hi2])) := (fr_130 _ (ne_k h_58 h_54 (i := 2) (j := 1000) rfl rfl (by decide))).trans h_58
        have h_140 : M_128 va = some (.inl (cL, 16, .inr (.inl g))) := (fr_130 _ (ne_k h_59 h_54 (i := 100016) (j := 1000) rfl rfl (by decide))).trans h_59
        have h_141 : M_128 co = some (.inr (1, [.ref pg, .ref ce, .ref pi, .ref ra, .int ln, .int en2])) := (fr_130 _ (ne_k h_60 h_54 (i := 1) (j := 1000) rfl rfl (by decide))).trans h_60
        have hp_142 := hp_67.keep (M' := M_128) (fun q e he ht => fr_130 q (ne_p he ht h_54 (j := 1000) rfl (by decide)))
        refine V.rd (pc' := 57) (fun hl => lv_aload_n X.1 X.2.1 d_Course_travel_56 rfl (lv_at hl 1 rfl)) ?_
        refine V.get (pc' := 60) X hK h_141 uw_Course rfl 0 (by decide) (mcs wd_87) rfl d_Course_travel_57 rfl ?_
        refine V.rd (pc' := 62) (fun hl => lv_iload X.1 X.2.1 d_Course_travel_60 (lv_at hl 0 rfl)) ?_
        refine V.callV0 (pc' := 65) X hK (c_performedBy  (pg := pg) (dg := dg) (gg := gg) (tg0 := tg0) (np := np) (ns := ns) (dd := dd) (x := nx)   h_132 h_133  ) h_132 rfl (cwG (n := 1) X (mcs wd_155) (mcs wd_156) (mcs wd_157) (mcs wd_7) wd_158 (by decide +kernel) (by decide) (by decide)) rfl rfl (Nat.le_of_ble_eq_true rfl) d_Course_travel_62 ⟨by decide, by decide⟩ rfl (st1 := [.int (sp_performedBy np dd nx)]) rfl ?_
        refine V.wr (pc' := 67) (lv' := [(7, .int (sp_performedBy np dd nx)), (6, .int nx), (0, .ref co), (1, .int x), (2, .long steps), (4, .int nx), (5, .int k)]) (fun hl => lv_istore X.1 X.2.1 d_Course_travel_65 hl (by decide) rfl) ?_
        refine V.rd (pc' := 69) (fun hl => lv_iload X.1 X.2.1 d_Course_travel_67 (lv_at hl 0 rfl)) ?_
        refine V.go (pc' := 70) (lv_iconst (v := (-1)) X.1 X.2.1 d_Course_travel_69 (by decide)) ?_
        refine V.bn (pc' := 73) (tgt := 82) (P := (sp_performedBy np dd nx) = (-1)) (lv_icmp_ne X.1 X.2.1 d_Course_travel_70 (by decide)) (fun c_144 => ?_) (fun c_144 => ?_)
        · have i_145 := congrArg Int32.toInt c_144
          refine V.rd (pc' := 74) (fun hl => lv_aload_n X.1 X.2.1 d_Course_travel_73 rfl (lv_at hl 2 rfl)) ?_
          refine V.rd (pc' := 76) (fun hl => lv_iload X.1 X.2.1 d_Course_travel_74 (lv_at hl 1 rfl)) ?_
          refine V.callV (pc' := 79) X hK (c_doing  (co := co) (pg := pg) (ce := ce) (pi := pi) (ra := ra) (va := va) (dg := dg) (gg := gg) (tg0 := tg0) (ln := ln) (en := en2) (np := np) (ns := ns) (dd := dd) (f := g) (x := nx)   h_141 h_131 h_140 h_132 h_133  ) h_141 rfl (cwG (n := 1) X (mcs wd_159) (mcs wd_160) (mcs wd_161) (mcs wd_92) wd_162 (by decide +kernel) (by decide) (by decide)) rfl rfl (Nat.le_of_ble_eq_true rfl) d_Course_travel_76 ⟨by decide, by decide⟩ rfl (st1 := [.int (sp_doing np dd g nx)]) rfl (fun M_146 ⟨h_147, h_148, fr_149⟩ => ?_)
          have h_150 : M_146 ce = some (.inr (0, [.ref va])) := (fr_149 _ (ne_k h_131 h_140 (i := 0) (j := 100016) rfl rfl (by decide)) (ne_k h_131 h_141 (i := 0) (j := 1) rfl rfl (by decide))).trans h_131
          have h_151 : M_146 pg = some (.inr (3, [.ref dg, .ref gg, .ref tg0, .int np, .int ns])) := (fr_149 _ (ne_k h_132 h_140 (i := 3) (j := 100016) rfl rfl (by decide)) (ne_k h_132 h_141 (i := 3) (j := 1) rfl rfl (by decide))).trans h_132
          have h_152 : M_146 dg = some (.inl (cI, 60, .inl dd)) := (fr_149 _ (ne_k h_133 h_140 (i := 1060) (j := 100016) rfl rfl (by decide)) (ne_k h_133 h_141 (i := 1060) (j := 1) rfl rfl (by decide))).trans h_133
          have h_153 : M_146 gg = some (.inl (cI, 60, .inl gd)) := (fr_149 _ (ne_k h_134 h_140 (i := 1060) (j := 100016) rfl rfl (by decide)) (ne_k h_134 h_141 (i := 1060) (j := 1) rfl rfl (by decide))).trans h_134
          have h_154 : M_146 tg0 = some (.inl (cQ, 60, .inr (.inr (.inr (.inr (tdOf ns sa)))))) := (fr_149 _ (ne_k h_135 h_140 (i := 10000060) (j := 100016) rfl rfl (by decide)) (ne_k h_135 h_141 (i := 10000060) (j := 1) rfl rfl (by decide))).trans h_135
          have h_155 : M_146 la = some (.inl (cQ, 100, .inr (.inr (.inr (.inr (lq lo2 sa)))))) := (fr_149 _ (ne_k h_136 h_140 (i := 10000100) (j := 100016) rfl rfl (by decide)) (ne_k h_136 h_141 (i := 10000100) (j := 1) rfl rfl (by decide))).trans h_136
          have h_156 : M_146 pe = some (.inl (cI, 100, .inl pd2)) := (fr_149 _ (ne_k h_137 h_140 (i := 1100) (j := 100016) rfl rfl (by decide)) (ne_k h_137 h_141 (i := 1100) (j := 1) rfl rfl (by decide))).trans h_137
          have h_157 : M_146 tu = some (.inl (cI, 100, .inl ud2)) := (fr_149 _ (ne_k h_138 h_140 (i := 1100) (j := 100016) rfl rfl (by decide)) (ne_k h_138 h_141 (i := 1100) (j := 1) rfl rfl (by decide))).trans h_138
          have h_158 : M_146 pi = some (.inr (2, [.ref la, .ref pe, .ref tu, .int h2, .int hi2])) := (fr_149 _ (ne_k h_139 h_140 (i := 2) (j := 100016) rfl rfl (by decide)) (ne_k h_139 h_141 (i := 2) (j := 1) rfl rfl (by decide))).trans h_139
          have h_159 : M_146 ra = some (.inl (cI, 0, .inl (sp_note0_ra rd2 k nx))) := (fr_149 _ (ne_k h_129 h_140 (i := 1000) (j := 100016) rfl rfl (by decide)) (ne_k h_129 h_141 (i := 1000) (j := 1) rfl rfl (by decide))).trans h_129
          have hp_160 := hp_142.keep (M' := M_146) (fun q e he ht => fr_149 q (ne_p he ht h_140 (j := 100016) rfl (by decide)) (ne_p he ht h_141 (j := 1) rfl (by decide)))
          refine V.go (pc' := 90) (lv_goto X.1 X.2.1 d_Course_travel_79 (by decide)) ?_
          refine V.wr (pc' := 92) (lv' := [(4, .int (sp_doing np dd g nx)), (7, .int (sp_performedBy np dd nx)), (6, .int nx), (0, .ref co), (1, .int x), (2, .long steps), (5, .int k)]) (fun hl => lv_istore X.1 X.2.1 d_Course_travel_90 hl (by decide) rfl) ?_
          refine V.rd (pc' := 94) (fun hl => lv_iload X.1 X.2.1 d_Course_travel_92 (lv_at hl 0 rfl)) ?_
          refine V.go (pc' := 95) (lv_iconst (v := (-1)) X.1 X.2.1 d_Course_travel_94 (by decide)) ?_
          refine V.bn (pc' := 98) (tgt := 106) (P := (sp_doing np dd g nx) = (-1)) (lv_icmp_ne X.1 X.2.1 d_Course_travel_95 (by decide)) (fun c_161 => ?_) (fun c_161 => ?_)
          · have i_162 := congrArg Int32.toInt c_161
            refine V.rd (pc' := 99) (fun hl => lv_aload_n X.1 X.2.1 d_Course_travel_98 rfl (lv_at hl 3 rfl)) ?_
            refine V.rd (pc' := 101) (fun hl => lv_iload X.1 X.2.1 d_Course_travel_99 (lv_at hl 2 rfl)) ?_
            refine V.callV (pc' := 104) X hK (c_behindDoing  (co := co) (pg := pg) (ce := ce) (pi := pi) (ra := ra) (va := va) (dg := dg) (gg := gg) (tg0 := tg0) (la := la) (pe := pe) (tu := tu) (ln := ln) (en := sp_doing_co_5 en2 np dd g nx) (np := np) (ns := ns) (hh := h2) (hi := hi2) (gd := gd) (f := sp_doing_va np dd g nx) (lo := lo2) (pd := pd2) (ud := ud2) (x := nx)  ne0 h_148 h_150 h_147 h_151 h_153 h_158 h_155 h_156 h_157 hp_160 hσ hlo2) h_148 rfl (cwG (n := 1) X (mcs wd_163) (mcs wd_164) (mcs wd_165) (mcs wd_92) wd_166 (by decide +kernel) (by decide) (by decide)) rfl rfl (Nat.le_of_ble_eq_true rfl) d_Course_travel_101 ⟨by decide, by decide⟩ rfl (st1 := [.int (lp_behindDoing np gd lo2 pd2 σ 101 nx 0 (sp_doing_va np dd g nx) h2 ud2)]) rfl (fun M_163 ⟨h_164, h_165, h_166, h_167, fr_168⟩ => ?_)
            have h_169 : M_163 ce = some (.inr (0, [.ref va])) := (fr_168 _ (ne_k h_150 h_148 (i := 0) (j := 1) rfl rfl (by decide)) (ne_k h_150 h_157 (i := 0) (j := 1100) rfl rfl (by decide)) (ne_k h_150 h_147 (i := 0) (j := 100016) rfl rfl (by decide)) (ne_k h_150 h_158 (i := 0) (j := 2) rfl rfl (by decide))).trans h_150
            have h_170 : M_163 pg = some (.inr (3, [.ref dg, .ref gg, .ref tg0, .int np, .int ns])) := (fr_168 _ (ne_k h_151 h_148 (i := 3) (j := 1) rfl rfl (by decide)) (ne_k h_151 h_157 (i := 3) (j := 1100) rfl rfl (by decide)) (ne_k h_151 h_147 (i := 3) (j := 100016) rfl rfl (by decide)) (ne_k h_151 h_158 (i := 3) (j := 2) rfl rfl (by decide))).trans h_151
            have h_171 : M_163 dg = some (.inl (cI, 60, .inl dd)) := (fr_168 _ (ne_k h_152 h_148 (i := 1060) (j := 1) rfl rfl (by decide)) (ne_k h_152 h_157 (i := 1060) (j := 1100) rfl rfl (by decide)) (ne_k h_152 h_147 (i := 1060) (j := 100016) rfl rfl (by decide)) (ne_k h_152 h_158 (i := 1060) (j := 2) rfl rfl (by decide))).trans h_152
            have h_172 : M_163 gg = some (.inl (cI, 60, .inl gd)) := (fr_168 _ (ne_k h_153 h_148 (i := 1060) (j := 1) rfl rfl (by decide)) (ne_k h_153 h_157 (i := 1060) (j := 1100) rfl rfl (by decide)) (ne_k h_153 h_147 (i := 1060) (j := 100016) rfl rfl (by decide)) (ne_k h_153 h_158 (i := 1060) (j := 2) rfl rfl (by decide))).trans h_153
            have h_173 : M_163 tg0 = some (.inl (cQ, 60, .inr (.inr (.inr (.inr (tdOf ns sa)))))) := (fr_168 _ (ne_k h_154 h_148 (i := 10000060) (j := 1) rfl rfl (by decide)) (ne_k h_154 h_157 (i := 10000060) (j := 1100) rfl rfl (by decide)) (ne_k h_154 h_147 (i := 10000060) (j := 100016) rfl rfl (by decide)) (ne_k h_154 h_158 (i := 10000060) (j := 2) rfl rfl (by decide))).trans h_154
            have h_174 : M_163 la = some (.inl (cQ, 100, .inr (.inr (.inr (.inr (lq lo2 sa)))))) := (fr_168 _ (ne_k h_155 h_148 (i := 10000100) (j := 1) rfl rfl (by decide)) (ne_k h_155 h_157 (i := 10000100) (j := 1100) rfl rfl (by decide)) (ne_k h_155 h_147 (i := 10000100) (j := 100016) rfl rfl (by decide)) (ne_k h_155 h_158 (i := 10000100) (j := 2) rfl rfl (by decide))).trans h_155
            have h_175 : M_163 pe = some (.inl (cI, 100, .inl pd2)) := (fr_168 _ (ne_k h_156 h_148 (i := 1100) (j := 1) rfl rfl (by decide)) ne0 (ne_k h_156 h_147 (i := 1100) (j := 100016) rfl rfl (by decide)) (ne_k h_156 h_158 (i := 1100) (j := 2) rfl rfl (by decide))).trans h_156
            have h_176 : M_163 ra = some (.inl (cI, 0, .inl (sp_note0_ra rd2 k nx))) := (fr_168 _ (ne_k h_159 h_148 (i := 1000) (j := 1) rfl rfl (by decide)) (ne_k h_159 h_157 (i := 1000) (j := 1100) rfl rfl (by decide)) (ne_k h_159 h_147 (i := 1000) (j := 100016) rfl rfl (by decide)) (ne_k h_159 h_158 (i := 1000) (j := 2) rfl rfl (by decide))).trans h_159
            have hp_177 := hp_160.keep (M' := M_163) (fun q e he ht => fr_168 q (ne_p he ht h_148 (j := 1) rfl (by decide)) (ne_p he ht h_157 (j := 1100) rfl (by decide)) (ne_p he ht h_147 (j := 100016) rfl (by decide)) (ne_p he ht h_158 (j := 2) rfl (by decide)))
            refine V.wr (pc' := 106) (lv' := [(4, .int (lp_behindDoing np gd lo2 pd2 σ 101 nx 0 (sp_doing_va np dd g nx) h2 ud2)), (7, .int (sp_performedBy np dd nx)), (6, .int nx), (0, .ref co), (1, .int x), (2, .long steps), (5, .int k)]) (fun hl => lv_istore X.1 X.2.1 d_Course_travel_104 hl (by decide) rfl) ?_
            refine V.wr (pc' := 109) (lv' := [(5, .int (k + 1)), (4, .int (lp_behindDoing np gd lo2 pd2 σ 101 nx 0 (sp_doing_va np dd g nx) h2 ud2)), (7, .int (sp_performedBy np dd nx)), (6, .int nx), (0, .ref co), (1, .int x), (2, .long steps)]) (fun hl => lv_iinc (k := 6) (v := k + 1) X.1 X.2.1 d_Course_travel_106 hl rfl rfl (by decide) rfl) ?_
            have s_178 : (k + 1).toInt = k.toInt + (1) := i32_add1 (by omega)
            refine V.go (pc' := 31) (lv_goto X.1 X.2.1 d_Course_travel_109 (by decide)) ?_
            refine V.pick [4, 5, 6, 1, 0] rfl ?_
            exact ih_63 n_62 (by omega) () _ _ ⟨(lp_behindDoing np gd lo2 pd2 σ 101 nx 0 (sp_doing_va np dd g nx) h2 ud2), (k + 1), (lp_behindDoing_va np gd lo2 pd2 σ 101 nx 0 (sp_doing_va np dd g nx) h2 ud2), (lp_behindDoing_pi_3 np gd lo2 pd2 σ 101 nx 0 (sp_doing_va np dd g nx) h2 ud2), hi2, (lp_behindDoing_co_5 (sp_doing_co_5 en2 np dd g nx) np gd lo2 pd2 σ 101 nx 0 (sp_doing_va np dd g nx) h2 ud2), (lp_behindDoing_tu np gd lo2 pd2 σ 101 nx 0 (sp_doing_va np dd g nx) h2 ud2), pd2, lo2, (sp_note0_ra rd2 k nx), rfl, h_169, h_170, h_171, h_172, h_173, h_176, h_174, h_175, h_165, h_167, h_166, h_164, hp_177, (fun q n0_ n1_ n2_ n3_ n4_ n5_ n6_ => (fr_168 q n2_ n3_ n0_ n1_).trans ((fr_149 q n0_ n2_).trans ((fr_130 q n6_).trans ((fr_66 q n0_ n1_ n2_ n3_ n4_ n5_ n6_))))), (by omega), (by omega), hlo2, (by rw [← e_68, lp_travel0]; simp only [if_neg c_78, if_neg c_96, if_pos c_144, if_pos c_161]), (by rw [← e_69, lp_travel0_pi_3]; simp only [if_neg c_78, if_neg c_96, if_pos c_144, if_pos c_161]), (by rw [← e_70, lp_travel0_pi_4]; simp only [if_neg c_78, if_neg c_96, if_pos c_144, if_pos c_161]), (by rw [← e_71, lp_travel0_co_4]; simp only [if_neg c_78, if_neg c_96, if_pos c_144, if_pos c_161]), (by rw [← e_72, lp_travel0_co_5]; simp only [if_neg c_78, if_neg c_96, if_pos c_144, if_pos c_161]), (by rw [← e_73, lp_travel0_la]; simp only [if_neg c_78, if_neg c_96, if_pos c_144, if_pos c_161]), (by rw [← e_74, lp_travel0_pe]; simp only [if_neg c_78, if_neg c_96, if_pos c_144, if_pos c_161]), (by rw [← e_75, lp_travel0_tu]; simp only [if_neg c_78, if_neg c_96, if_pos c_144, if_pos c_161]), (by rw [← e_76, lp_travel0_va]; simp only [if_neg c_78, if_neg c_96, if_pos c_144, if_pos c_161]), (by rw [← e_77, lp_travel0_ra]; simp only [if_neg c_78, if_neg c_96, if_pos c_144, if_pos c_161])⟩
          · have i_179 := mt Int32.toInt_inj.mp c_161
            refine V.wr (pc' := 109) (lv' := [(5, .int (k + 1)), (4, .int (sp_doing np dd g nx)), (7, .int (sp_performedBy np dd nx)), (6, .int nx), (0, .ref co), (1, .int x), (2, .long steps)]) (fun hl => lv_iinc (k := 6) (v := k + 1) X.1 X.2.1 d_Course_travel_106 hl rfl rfl (by decide) rfl) ?_
            have s_180 : (k + 1).toInt = k.toInt + (1) := i32_add1 (by omega)
            refine V.go (pc' := 31) (lv_goto X.1 X.2.1 d_Course_travel_109 (by decide)) ?_
            refine V.pick [4, 5, 6, 1, 0] rfl ?_
            exact ih_63 n_62 (by omega) () _ _ ⟨(sp_doing np dd g nx), (k + 1), (sp_doing_va np dd g nx), h2, hi2, (sp_doing_co_5 en2 np dd g nx), ud2, pd2, lo2, (sp_note0_ra rd2 k nx), rfl, h_150, h_151, h_152, h_153, h_154, h_159, h_155, h_156, h_157, h_158, h_147, h_148, hp_160, (fun q n0_ n1_ n2_ n3_ n4_ n5_ n6_ => (fr_149 q n0_ n2_).trans ((fr_130 q n6_).trans ((fr_66 q n0_ n1_ n2_ n3_ n4_ n5_ n6_)))), (by omega), (by omega), hlo2, (by rw [← e_68, lp_travel0]; simp only [if_neg c_78, if_neg c_96, if_pos c_144, if_neg c_161]), (by rw [← e_69, lp_travel0_pi_3]; simp only [if_neg c_78, if_neg c_96, if_pos c_144, if_neg c_161]), (by rw [← e_70, lp_travel0_pi_4]; simp only [if_neg c_78, if_neg c_96, if_pos c_144, if_neg c_161]), (by rw [← e_71, lp_travel0_co_4]; simp only [if_neg c_78, if_neg c_96, if_pos c_144, if_neg c_161]), (by rw [← e_72, lp_travel0_co_5]; simp only [if_neg c_78, if_neg c_96, if_pos c_144, if_neg c_161]), (by rw [← e_73, lp_travel0_la]; simp only [if_neg c_78, if_neg c_96, if_pos c_144, if_neg c_161]), (by rw [← e_74, lp_travel0_pe]; simp only [if_neg c_78, if_neg c_96, if_pos c_144, if_neg c_161]), (by rw [← e_75, lp_travel0_tu]; simp only [if_neg c_78, if_neg c_96, if_pos c_144, if_neg c_161]), (by rw [← e_76, lp_travel0_va]; simp only [if_neg c_78, if_neg c_96, if_pos c_144, if_neg c_161]), (by rw [← e_77, lp_travel0_ra]; simp only [if_neg c_78, if_neg c_96, if_pos c_144, if_neg c_161])⟩
        · have i_181 := mt Int32.toInt_inj.mp c_144
          refine V.rd (pc' := 83) (fun hl => lv_aload_n X.1 X.2.1 d_Course_travel_82 rfl (lv_at hl 2 rfl)) ?_
          refine V.rd (pc' := 85) (fun hl => lv_iload X.1 X.2.1 d_Course_travel_83 (lv_at hl 0 rfl)) ?_
          refine V.rd (pc' := 87) (fun hl => lv_iload X.1 X.2.1 d_Course_travel_85 (lv_at hl 1 rfl)) ?_
          refine V.callV (pc' := 90) X hK (c_performing  (co := co) (pg := pg) (ce := ce) (pi := pi) (ra := ra) (va := va) (dg := dg) (gg := gg) (tg0 := tg0) (la := la) (pe := pe) (tu := tu) (ln := ln) (en := en2) (np := np) (ns := ns) (hh := h2) (hi := hi2) (f := g) (lo := lo2) (pd := pd2) (ud := ud2) (x := sp_performedBy np dd nx) (y := nx)  ne0 h_141 h_131 h_140 h_132 h_135 h_139 h_136 h_137 h_138 hp_142 hσ) h_141 rfl (cwG (n := 2) X (mcs wd_146) (mcs wd_147) (mcs wd_148) (mcs wd_92) wd_149 (by decide +kernel) (by decide) (by decide)) rfl rfl (Nat.le_of_ble_eq_true rfl) d_Course_travel_87 ⟨by decide, by decide⟩ rfl (st1 := [.int (sp_performing ns h2 g (sp_performedBy np dd nx) σ)]) rfl (fun M_182 ⟨h_183, h_184, h_185, h_186, h_187, h_188, fr_189⟩ => ?_)
          have h_190 : M_182 ce = some (.inr (0, [.ref va])) := (fr_189 _ (ne_k h_131 h_141 (i := 0) (j := 1) rfl rfl (by decide)) (ne_k h_131 h_136 (i := 0) (j := 10000100) rfl rfl (by decide)) (ne_k h_131 h_137 (i := 0) (j := 1100) rfl rfl (by decide)) (ne_k h_131 h_138 (i := 0) (j := 1100) rfl rfl (by decide)) (ne_k h_131 h_139 (i := 0) (j := 2) rfl rfl (by decide)) (ne_k h_131 h_140 (i := 0) (j := 100016) rfl rfl (by decide))).trans h_131
          have h_191 : M_182 pg = some (.inr (3, [.ref dg, .ref gg, .ref tg0, .int np, .int ns])) := (fr_189 _ (ne_k h_132 h_141 (i := 3) (j := 1) rfl rfl (by decide)) (ne_k h_132 h_136 (i := 3) (j := 10000100) rfl rfl (by decide)) (ne_k h_132 h_137 (i := 3) (j := 1100) rfl rfl (by decide)) (ne_k h_132 h_138 (i := 3) (j := 1100) rfl rfl (by decide)) (ne_k h_132 h_139 (i := 3) (j := 2) rfl rfl (by decide)) (ne_k h_132 h_140 (i := 3) (j := 100016) rfl rfl (by decide))).trans h_132
          have h_192 : M_182 dg = some (.inl (cI, 60, .inl dd)) := (fr_189 _ (ne_k h_133 h_141 (i := 1060) (j := 1) rfl rfl (by decide)) (ne_k h_133 h_136 (i := 1060) (j := 10000100) rfl rfl (by decide)) (ne_k h_133 h_137 (i := 1060) (j := 1100) rfl rfl (by decide)) (ne_k h_133 h_138 (i := 1060) (j := 1100) rfl rfl (by decide)) (ne_k h_133 h_139 (i := 1060) (j := 2) rfl rfl (by decide)) (ne_k h_133 h_140 (i := 1060) (j := 100016) rfl rfl (by decide))).trans h_133
          have h_193 : M_182 gg = some (.inl (cI, 60, .inl gd)) := (fr_189 _ (ne_k h_134 h_141 (i := 1060) (j := 1) rfl rfl (by decide)) (ne_k h_134 h_136 (i := 1060) (j := 10000100) rfl rfl (by decide)) (ne_k h_134 h_137 (i := 1060) (j := 1100) rfl rfl (by decide)) (ne_k h_134 h_138 (i := 1060) (j := 1100) rfl rfl (by decide)) (ne_k h_134 h_139 (i := 1060) (j := 2) rfl rfl (by decide)) (ne_k h_134 h_140 (i := 1060) (j := 100016) rfl rfl (by decide))).trans h_134
          have h_194 : M_182 tg0 = some (.inl (cQ, 60, .inr (.inr (.inr (.inr (tdOf ns sa)))))) := (fr_189 _ (ne_k h_135 h_141 (i := 10000060) (j := 1) rfl rfl (by decide)) (ne_k h_135 h_136 (i := 10000060) (j := 10000100) rfl rfl (by decide)) (ne_k h_135 h_137 (i := 10000060) (j := 1100) rfl rfl (by decide)) (ne_k h_135 h_138 (i := 10000060) (j := 1100) rfl rfl (by decide)) (ne_k h_135 h_139 (i := 10000060) (j := 2) rfl rfl (by decide)) (ne_k h_135 h_140 (i := 10000060) (j := 100016) rfl rfl (by decide))).trans h_135
          have h_195 : M_182 ra = some (.inl (cI, 0, .inl (sp_note0_ra rd2 k nx))) := (fr_189 _ (ne_k h_129 h_141 (i := 1000) (j := 1) rfl rfl (by decide)) (ne_k h_129 h_136 (i := 1000) (j := 10000100) rfl rfl (by decide)) (ne_k h_129 h_137 (i := 1000) (j := 1100) rfl rfl (by decide)) (ne_k h_129 h_138 (i := 1000) (j := 1100) rfl rfl (by decide)) (ne_k h_129 h_139 (i := 1000) (j := 2) rfl rfl (by decide)) (ne_k h_129 h_140 (i := 1000) (j := 100016) rfl rfl (by decide))).trans h_129
          have hp_196 := hp_142.keep (M' := M_182) (fun q e he ht => fr_189 q (ne_p he ht h_141 (j := 1) rfl (by decide)) (ne_p he ht h_136 (j := 10000100) rfl (by decide)) (ne_p he ht h_137 (j := 1100) rfl (by decide)) (ne_p he ht h_138 (j := 1100) rfl (by decide)) (ne_p he ht h_139 (j := 2) rfl (by decide)) (ne_p he ht h_140 (j := 100016) rfl (by decide)))
          have hlo_197 : ∀ k j : Nat, (sp_performing_la ns h2 lo2 (sp_performedBy np dd nx) σ) k = some j → (j : Int) < ns.toInt := perf_lo hlo2
          refine V.wr (pc' := 92) (lv' := [(4, .int (sp_performing ns h2 g (sp_performedBy np dd nx) σ)), (7, .int (sp_performedBy np dd nx)), (6, .int nx), (0, .ref co), (1, .int x), (2, .long steps), (5, .int k)]) (fun hl => lv_istore X.1 X.2.1 d_Course_travel_90 hl (by decide) rfl) ?_
          refine V.rd (pc' := 94) (fun hl => lv_iload X.1 X.2.1 d_Course_travel_92 (lv_at hl 0 rfl)) ?_
          refine V.go (pc' := 95) (lv_iconst (v := (-1)) X.1 X.2.1 d_Course_travel_94 (by decide)) ?_
          refine V.bn (pc' := 98) (tgt := 106) (P := (sp_performing ns h2 g (sp_performedBy np dd nx) σ) = (-1)) (lv_icmp_ne X.1 X.2.1 d_Course_travel_95 (by decide)) (fun c_198 => ?_) (fun c_198 => ?_)
          · have i_199 := congrArg Int32.toInt c_198
            refine V.rd (pc' := 99) (fun hl => lv_aload_n X.1 X.2.1 d_Course_travel_98 rfl (lv_at hl 3 rfl)) ?_
            refine V.rd (pc' := 101) (fun hl => lv_iload X.1 X.2.1 d_Course_travel_99 (lv_at hl 2 rfl)) ?_
            refine V.callV (pc' := 104) X hK (c_behindDoing  (co := co) (pg := pg) (ce := ce) (pi := pi) (ra := ra) (va := va) (dg := dg) (gg := gg) (tg0 := tg0) (la := la) (pe := pe) (tu := tu) (ln := ln) (en := sp_performing_co_5 en2 ns h2 (sp_performedBy np dd nx) σ) (np := np) (ns := ns) (hh := sp_performing_pi_3 ns h2 g (sp_performedBy np dd nx) σ) (hi := sp_performing_pi_4 ns h2 hi2 g (sp_performedBy np dd nx) σ) (gd := gd) (f := sp_performing_va ns h2 g (sp_performedBy np dd nx) σ) (lo := (sp_performing_la ns h2 lo2 (sp_performedBy np dd nx) σ)) (pd := sp_performing_pe ns h2 pd2 (sp_performedBy np dd nx) nx σ) (ud := sp_performing_tu ns h2 ud2 (sp_performedBy np dd nx) σ) (x := nx)  ne0 h_183 h_190 h_188 h_191 h_193 h_187 h_184 h_185 h_186 hp_196 hσ hlo_197) h_183 rfl (cwG (n := 1) X (mcs wd_163) (mcs wd_164) (mcs wd_165) (mcs wd_92) wd_166 (by decide +kernel) (by decide) (by decide)) rfl rfl (Nat.le_of_ble_eq_true rfl) d_Course_travel_101 ⟨by decide, by decide⟩ rfl (st1 := [.int (lp_behindDoing np gd (sp_performing_la ns h2 lo2 (sp_performedBy np dd nx) σ) (sp_performing_pe ns h2 pd2 (sp_performedBy np dd nx) nx σ) σ 101 nx 0 (sp_performing_va ns h2 g (sp_performedBy np dd nx) σ) (sp_performing_pi_3 ns h2 g (sp_performedBy np dd nx) σ) (sp_performing_tu ns h2 ud2 (sp_performedBy np dd nx) σ))]) rfl (fun M_200 ⟨h_201, h_202, h_203, h_204, fr_205⟩ => ?_)
            have h_206 : M_200 ce = some (.inr (0, [.ref va])) := (fr_205 _ (ne_k h_190 h_183 (i := 0) (j := 1) rfl rfl (by decide)) (ne_k h_190 h_186 (i := 0) (j := 1100) rfl rfl (by decide)) (ne_k h_190 h_188 (i := 0) (j := 100016) rfl rfl (by decide)) (ne_k h_190 h_187 (i := 0) (j := 2) rfl rfl (by decide))).trans h_190
            have h_207 : M_200 pg = some (.inr (3, [.ref dg, .ref gg, .ref tg0, .int np, .int ns])) := (fr_205 _ (ne_k h_191 h_183 (i := 3) (j := 1) rfl rfl (by decide)) (ne_k h_191 h_186 (i := 3) (j := 1100) rfl rfl (by decide)) (ne_k h_191 h_188 (i := 3) (j := 100016) rfl rfl (by decide)) (ne_k h_191 h_187 (i := 3) (j := 2) rfl rfl (by decide))).trans h_191
            have h_208 : M_200 dg = some (.inl (cI, 60, .inl dd)) := (fr_205 _ (ne_k h_192 h_183 (i := 1060) (j := 1) rfl rfl (by decide)) (ne_k h_192 h_186 (i := 1060) (j := 1100) rfl rfl (by decide)) (ne_k h_192 h_188 (i := 1060) (j := 100016) rfl rfl (by decide)) (ne_k h_192 h_187 (i := 1060) (j := 2) rfl rfl (by decide))).trans h_192
            have h_209 : M_200 gg = some (.inl (cI, 60, .inl gd)) := (fr_205 _ (ne_k h_193 h_183 (i := 1060) (j := 1) rfl rfl (by decide)) (ne_k h_193 h_186 (i := 1060) (j := 1100) rfl rfl (by decide)) (ne_k h_193 h_188 (i := 1060) (j := 100016) rfl rfl (by decide)) (ne_k h_193 h_187 (i := 1060) (j := 2) rfl rfl (by decide))).trans h_193
            have h_210 : M_200 tg0 = some (.inl (cQ, 60, .inr (.inr (.inr (.inr (tdOf ns sa)))))) := (fr_205 _ (ne_k h_194 h_183 (i := 10000060) (j := 1) rfl rfl (by decide)) (ne_k h_194 h_186 (i := 10000060) (j := 1100) rfl rfl (by decide)) (ne_k h_194 h_188 (i := 10000060) (j := 100016) rfl rfl (by decide)) (ne_k h_194 h_187 (i := 10000060) (j := 2) rfl rfl (by decide))).trans h_194
            have h_211 : M_200 ra = some (.inl (cI, 0, .inl (sp_note0_ra rd2 k nx))) := (fr_205 _ (ne_k h_195 h_183 (i := 1000) (j := 1) rfl rfl (by decide)) (ne_k h_195 h_186 (i := 1000) (j := 1100) rfl rfl (by decide)) (ne_k h_195 h_188 (i := 1000) (j := 100016) rfl rfl (by decide)) (ne_k h_195 h_187 (i := 1000) (j := 2) rfl rfl (by decide))).trans h_195
            have h_212 : M_200 la = some (.inl (cQ, 100, .inr (.inr (.inr (.inr (lq (sp_performing_la ns h2 lo2 (sp_performedBy np dd nx) σ) sa)))))) := (fr_205 _ (ne_k h_184 h_183 (i := 10000100) (j := 1) rfl rfl (by decide)) (ne_k h_184 h_186 (i := 10000100) (j := 1100) rfl rfl (by decide)) (ne_k h_184 h_188 (i := 10000100) (j := 100016) rfl rfl (by decide)) (ne_k h_184 h_187 (i := 10000100) (j := 2) rfl rfl (by decide))).trans h_184
            have h_213 : M_200 pe = some (.inl (cI, 100, .inl (sp_performing_pe ns h2 pd2 (sp_performedBy np dd nx) nx σ))) := (fr_205 _ (ne_k h_185 h_183 (i := 1100) (j := 1) rfl rfl (by decide)) ne0 (ne_k h_185 h_188 (i := 1100) (j := 100016) rfl rfl (by decide)) (ne_k h_185 h_187 (i := 1100) (j := 2) rfl rfl (by decide))).trans h_185
            have hp_214 := hp_196.keep (M' := M_200) (fun q e he ht => fr_205 q (ne_p he ht h_183 (j := 1) rfl (by decide)) (ne_p he ht h_186 (j := 1100) rfl (by decide)) (ne_p he ht h_188 (j := 100016) rfl (by decide)) (ne_p he ht h_187 (j := 2) rfl (by decide)))
            refine V.wr (pc' := 106) (lv' := [(4, .int (lp_behindDoing np gd (sp_performing_la ns h2 lo2 (sp_performedBy np dd nx) σ) (sp_performing_pe ns h2 pd2 (sp_performedBy np dd nx) nx σ) σ 101 nx 0 (sp_performing_va ns h2 g (sp_performedBy np dd nx) σ) (sp_performing_pi_3 ns h2 g (sp_performedBy np dd nx) σ) (sp_performing_tu ns h2 ud2 (sp_performedBy np dd nx) σ))), (7, .int (sp_performedBy np dd nx)), (6, .int nx), (0, .ref co), (1, .int x), (2, .long steps), (5, .int k)]) (fun hl => lv_istore X.1 X.2.1 d_Course_travel_104 hl (by decide) rfl) ?_
            refine V.wr (pc' := 109) (lv' := [(5, .int (k + 1)), (4, .int (lp_behindDoing np gd (sp_performing_la ns h2 lo2 (sp_performedBy np dd nx) σ) (sp_performing_pe ns h2 pd2 (sp_performedBy np dd nx) nx σ) σ 101 nx 0 (sp_performing_va ns h2 g (sp_performedBy np dd nx) σ) (sp_performing_pi_3 ns h2 g (sp_performedBy np dd nx) σ) (sp_performing_tu ns h2 ud2 (sp_performedBy np dd nx) σ))), (7, .int (sp_performedBy np dd nx)), (6, .int nx), (0, .ref co), (1, .int x), (2, .long steps)]) (fun hl => lv_iinc (k := 6) (v := k + 1) X.1 X.2.1 d_Course_travel_106 hl rfl rfl (by decide) rfl) ?_
            have s_215 : (k + 1).toInt = k.toInt + (1) := i32_add1 (by omega)
            refine V.go (pc' := 31) (lv_goto X.1 X.2.1 d_Course_travel_109 (by decide)) ?_
            refine V.pick [4, 5, 6, 1, 0] rfl ?_
            exact ih_63 n_62 (by omega) () _ _ ⟨(lp_behindDoing np gd (sp_performing_la ns h2 lo2 (sp_performedBy np dd nx) σ) (sp_performing_pe ns h2 pd2 (sp_performedBy np dd nx) nx σ) σ 101 nx 0 (sp_performing_va ns h2 g (sp_performedBy np dd nx) σ) (sp_performing_pi_3 ns h2 g (sp_performedBy np dd nx) σ) (sp_performing_tu ns h2 ud2 (sp_performedBy np dd nx) σ)), (k + 1), (lp_behindDoing_va np gd (sp_performing_la ns h2 lo2 (sp_performedBy np dd nx) σ) (sp_performing_pe ns h2 pd2 (sp_performedBy np dd nx) nx σ) σ 101 nx 0 (sp_performing_va ns h2 g (sp_performedBy np dd nx) σ) (sp_performing_pi_3 ns h2 g (sp_performedBy np dd nx) σ) (sp_performing_tu ns h2 ud2 (sp_performedBy np dd nx) σ)), (lp_behindDoing_pi_3 np gd (sp_performing_la ns h2 lo2 (sp_performedBy np dd nx) σ) (sp_performing_pe ns h2 pd2 (sp_performedBy np dd nx) nx σ) σ 101 nx 0 (sp_performing_va ns h2 g (sp_performedBy np dd nx) σ) (sp_performing_pi_3 ns h2 g (sp_performedBy np dd nx) σ) (sp_performing_tu ns h2 ud2 (sp_performedBy np dd nx) σ)), (sp_performing_pi_4 ns h2 hi2 g (sp_performedBy np dd nx) σ), (lp_behindDoing_co_5 (sp_performing_co_5 en2 ns h2 (sp_performedBy np dd nx) σ) np gd (sp_performing_la ns h2 lo2 (sp_performedBy np dd nx) σ) (sp_performing_pe ns h2 pd2 (sp_performedBy np dd nx) nx σ) σ 101 nx 0 (sp_performing_va ns h2 g (sp_performedBy np dd nx) σ) (sp_performing_pi_3 ns h2 g (sp_performedBy np dd nx) σ) (sp_performing_tu ns h2 ud2 (sp_performedBy np dd nx) σ)), (lp_behindDoing_tu np gd (sp_performing_la ns h2 lo2 (sp_performedBy np dd nx) σ) (sp_performing_pe ns h2 pd2 (sp_performedBy np dd nx) nx σ) σ 101 nx 0 (sp_performing_va ns h2 g (sp_performedBy np dd nx) σ) (sp_performing_pi_3 ns h2 g (sp_performedBy np dd nx) σ) (sp_performing_tu ns h2 ud2 (sp_performedBy np dd nx) σ)), (sp_performing_pe ns h2 pd2 (sp_performedBy np dd nx) nx σ), (sp_performing_la ns h2 lo2 (sp_performedBy np dd nx) σ), (sp_note0_ra rd2 k nx), rfl, h_206, h_207, h_208, h_209, h_210, h_211, h_212, h_213, h_202, h_204, h_203, h_201, hp_214, (fun q n0_ n1_ n2_ n3_ n4_ n5_ n6_ => (fr_205 q n2_ n3_ n0_ n1_).trans ((fr_189 q n2_ n5_ n4_ n3_ n1_ n0_).trans ((fr_130 q n6_).trans ((fr_66 q n0_ n1_ n2_ n3_ n4_ n5_ n6_))))), (by omega), (by omega), hlo_197, (by rw [← e_68, lp_travel0]; simp only [if_neg c_78, if_neg c_96, if_neg c_144, if_pos c_198]), (by rw [← e_69, lp_travel0_pi_3]; simp only [if_neg c_78, if_neg c_96, if_neg c_144, if_pos c_198]), (by rw [← e_70, lp_travel0_pi_4]; simp only [if_neg c_78, if_neg c_96, if_neg c_144, if_pos c_198]), (by rw [← e_71, lp_travel0_co_4]; simp only [if_neg c_78, if_neg c_96, if_neg c_144, if_pos c_198]), (by rw [← e_72, lp_travel0_co_5]; simp only [if_neg c_78, if_neg c_96, if_neg c_144, if_pos c_198]), (by rw [← e_73, lp_travel0_la]; simp only [if_neg c_78, if_neg c_96, if_neg c_144, if_pos c_198]), (by rw [← e_74, lp_travel0_pe]; simp only [if_neg c_78, if_neg c_96, if_neg c_144, if_pos c_198]), (by rw [← e_75, lp_travel0_tu]; simp only [if_neg c_78, if_neg c_96, if_neg c_144, if_pos c_198]), (by rw [← e_76, lp_travel0_va]; simp only [if_neg c_78, if_neg c_96, if_neg c_144, if_pos c_198]), (by rw [← e_77, lp_travel0_ra]; simp only [if_neg c_78, if_neg c_96, if_neg c_144, if_pos c_198])⟩
          · have i_216 := mt Int32.toInt_inj.mp c_198
            refine V.wr (pc' := 109) (lv' := [(5, .int (k + 1)), (4, .int (sp_performing ns h2 g (sp_performedBy np dd nx) σ)), (7, .int (sp_performedBy np dd nx)), (6, .int nx), (0, .ref co), (1, .int x), (2, .long steps)]) (fun hl => lv_iinc (k := 6) (v := k + 1) X.1 X.2.1 d_Course_travel_106 hl rfl rfl (by decide) rfl) ?_
            have s_217 : (k + 1).toInt = k.toInt + (1) := i32_add1 (by omega)
            refine V.go (pc' := 31) (lv_goto X.1 X.2.1 d_Course_travel_109 (by decide)) ?_
            refine V.pick [4, 5, 6, 1, 0] rfl ?_
            exact ih_63 n_62 (by omega) () _ _ ⟨(sp_performing ns h2 g (sp_performedBy np dd nx) σ), (k + 1), (sp_performing_va ns h2 g (sp_performedBy np dd nx) σ), (sp_performing_pi_3 ns h2 g (sp_performedBy np dd nx) σ), (sp_performing_pi_4 ns h2 hi2 g (sp_performedBy np dd nx) σ), (sp_performing_co_5 en2 ns h2 (sp_performedBy np dd nx) σ), (sp_performing_tu ns h2 ud2 (sp_performedBy np dd nx) σ), (sp_performing_pe ns h2 pd2 (sp_performedBy np dd nx) nx σ), (sp_performing_la ns h2 lo2 (sp_performedBy np dd nx) σ), (sp_note0_ra rd2 k nx), rfl, h_190, h_191, h_192, h_193, h_194, h_195, h_184, h_185, h_186, h_187, h_188, h_183, hp_196, (fun q n0_ n1_ n2_ n3_ n4_ n5_ n6_ => (fr_189 q n2_ n5_ n4_ n3_ n1_ n0_).trans ((fr_130 q n6_).trans ((fr_66 q n0_ n1_ n2_ n3_ n4_ n5_ n6_)))), (by omega), (by omega), hlo_197, (by rw [← e_68, lp_travel0]; simp only [if_neg c_78, if_neg c_96, if_neg c_144, if_neg c_198]), (by rw [← e_69, lp_travel0_pi_3]; simp only [if_neg c_78, if_neg c_96, if_neg c_144, if_neg c_198]), (by rw [← e_70, lp_travel0_pi_4]; simp only [if_neg c_78, if_neg c_96, if_neg c_144, if_neg c_198]), (by rw [← e_71, lp_travel0_co_4]; simp only [if_neg c_78, if_neg c_96, if_neg c_144, if_neg c_198]), (by rw [← e_72, lp_travel0_co_5]; simp only [if_neg c_78, if_neg c_96, if_neg c_144, if_neg c_198]), (by rw [← e_73, lp_travel0_la]; simp only [if_neg c_78, if_neg c_96, if_neg c_144, if_neg c_198]), (by rw [← e_74, lp_travel0_pe]; simp only [if_neg c_78, if_neg c_96, if_neg c_144, if_neg c_198]), (by rw [← e_75, lp_travel0_tu]; simp only [if_neg c_78, if_neg c_96, if_neg c_144, if_neg c_198]), (by rw [← e_76, lp_travel0_va]; simp only [if_neg c_78, if_neg c_96, if_neg c_144, if_neg c_198]), (by rw [← e_77, lp_travel0_ra]; simp only [if_neg c_78, if_neg c_96, if_neg c_144, if_neg c_198])⟩
  · have i_218 := mt Int32.toInt_inj.mp c_32
    refine V.go (pc' := 29) (lv_iconst (v := 0) X.1 X.2.1 d_Course_travel_28 (by decide)) ?_
    refine V.wr (pc' := 31) (lv' := [(5, .int 0), (4, .int (sp_performing ns 0 f x σ)), (0, .ref co), (1, .int x), (2, .long steps)]) (fun hl => lv_istore X.1 X.2.1 d_Course_travel_29 hl (by decide) rfl) ?_
    obtain ⟨ze_238, hze_238⟩ : ∃ z, z = lp_travel0 np ns dd gd steps σ 4097 (sp_performing ns 0 f x σ) 0 (sp_performing_va ns 0 f x σ) (sp_performing_pi_3 ns 0 f x σ) (sp_performing_pi_4 ns 0 hi f x σ) (sp_performing_co_5 en ns 0 x σ) (sp_performing_tu ns 0 ud x σ) (sp_performing_pe ns 0 pd x 0 σ) (sp_performing_la ns 0 lo x σ) rd := ⟨_, rfl⟩
    obtain ⟨ze_239, hze_239⟩ : ∃ z, z = lp_travel0_pi_3 np ns dd gd steps σ 4097 (sp_performing ns 0 f x σ) 0 (sp_performing_va ns 0 f x σ) (sp_performing_pi_3 ns 0 f x σ) (sp_performing_pi_4 ns 0 hi f x σ) (sp_performing_co_5 en ns 0 x σ) (sp_performing_tu ns 0 ud x σ) (sp_performing_pe ns 0 pd x 0 σ) (sp_performing_la ns 0 lo x σ) rd := ⟨_, rfl⟩
    obtain ⟨ze_240, hze_240⟩ : ∃ z, z = lp_travel0_pi_4 np ns dd gd steps σ 4097 (sp_performing ns 0 f x σ) 0 (sp_performing_va ns 0 f x σ) (sp_performing_pi_3 ns 0 f x σ) (sp_performing_pi_4 ns 0 hi f x σ) (sp_performing_co_5 en ns 0 x σ) (sp_performing_tu ns 0 ud x σ) (sp_performing_pe ns 0 pd x 0 σ) (sp_performing_la ns 0 lo x σ) rd := ⟨_, rfl⟩
    obtain ⟨ze_241, hze_241⟩ : ∃ z, z = lp_travel0_co_4 ln np ns dd gd steps σ 4097 (sp_performing ns 0 f x σ) 0 (sp_performing_va ns 0 f x σ) (sp_performing_pi_3 ns 0 f x σ) (sp_performing_pi_4 ns 0 hi f x σ) (sp_performing_co_5 en ns 0 x σ) (sp_performing_tu ns 0 ud x σ) (sp_performing_pe ns 0 pd x 0 σ) (sp_performing_la ns 0 lo x σ) rd := ⟨_, rfl⟩
    obtain ⟨ze_242, hze_242⟩ : ∃ z, z = lp_travel0_co_5 np ns dd gd steps σ 4097 (sp_performing ns 0 f x σ) 0 (sp_performing_va ns 0 f x σ) (sp_performing_pi_3 ns 0 f x σ) (sp_performing_pi_4 ns 0 hi f x σ) (sp_performing_co_5 en ns 0 x σ) (sp_performing_tu ns 0 ud x σ) (sp_performing_pe ns 0 pd x 0 σ) (sp_performing_la ns 0 lo x σ) rd := ⟨_, rfl⟩
    obtain ⟨ze_243, hze_243⟩ : ∃ z, z = lp_travel0_la np ns dd gd steps σ 4097 (sp_performing ns 0 f x σ) 0 (sp_performing_va ns 0 f x σ) (sp_performing_pi_3 ns 0 f x σ) (sp_performing_pi_4 ns 0 hi f x σ) (sp_performing_co_5 en ns 0 x σ) (sp_performing_tu ns 0 ud x σ) (sp_performing_pe ns 0 pd x 0 σ) (sp_performing_la ns 0 lo x σ) rd := ⟨_, rfl⟩
    obtain ⟨ze_244, hze_244⟩ : ∃ z, z = lp_travel0_pe np ns dd gd steps σ 4097 (sp_performing ns 0 f x σ) 0 (sp_performing_va ns 0 f x σ) (sp_performing_pi_3 ns 0 f x σ) (sp_performing_pi_4 ns 0 hi f x σ) (sp_performing_co_5 en ns 0 x σ) (sp_performing_tu ns 0 ud x σ) (sp_performing_pe ns 0 pd x 0 σ) (sp_performing_la ns 0 lo x σ) rd := ⟨_, rfl⟩
    obtain ⟨ze_245, hze_245⟩ : ∃ z, z = lp_travel0_tu np ns dd gd steps σ 4097 (sp_performing ns 0 f x σ) 0 (sp_performing_va ns 0 f x σ) (sp_performing_pi_3 ns 0 f x σ) (sp_performing_pi_4 ns 0 hi f x σ) (sp_performing_co_5 en ns 0 x σ) (sp_performing_tu ns 0 ud x σ) (sp_performing_pe ns 0 pd x 0 σ) (sp_performing_la ns 0 lo x σ) rd := ⟨_, rfl⟩
    obtain ⟨ze_246, hze_246⟩ : ∃ z, z = lp_travel0_va np ns dd gd steps σ 4097 (sp_performing ns 0 f x σ) 0 (sp_performing_va ns 0 f x σ) (sp_performing_pi_3 ns 0 f x σ) (sp_performing_pi_4 ns 0 hi f x σ) (sp_performing_co_5 en ns 0 x σ) (sp_performing_tu ns 0 ud x σ) (sp_performing_pe ns 0 pd x 0 σ) (sp_performing_la ns 0 lo x σ) rd := ⟨_, rfl⟩
    obtain ⟨ze_247, hze_247⟩ : ∃ z, z = lp_travel0_ra np ns dd gd steps σ 4097 (sp_performing ns 0 f x σ) 0 (sp_performing_va ns 0 f x σ) (sp_performing_pi_3 ns 0 f x σ) (sp_performing_pi_4 ns 0 hi f x σ) (sp_performing_co_5 en ns 0 x σ) (sp_performing_tu ns 0 ud x σ) (sp_performing_pe ns 0 pd x 0 σ) (sp_performing_la ns 0 lo x σ) rd := ⟨_, rfl⟩
    refine V.pick [2, 3, 4, 1, 0] rfl ?_
    refine V.ind (α := Unit) (x0 := ()) (n0 := 4097) (I := fun nn_ _ M' lv' => ∃ (nx : Int32) (k : Int32) (g : Nat → Int64) (h2 : Int32) (hi2 : Int32) (en2 : Int32) (ud2 : Nat → Int32) (pd2 : Nat → Int32) (lo2 : Nat → Option Nat) (rd2 : Nat → Int32), lv' = [(0, .ref co), (1, .int x), (2, .long steps), (4, .int nx), (5, .int k)] ∧ M' ce = some (.inr (0, [.ref va])) ∧ M' pg = some (.inr (3, [.ref dg, .ref gg, .ref tg0, .int np, .int ns])) ∧ M' dg = some (.inl (cI, 60, .inl dd)) ∧ M' gg = some (.inl (cI, 60, .inl gd)) ∧ M' tg0 = some (.inl (cQ, 60, .inr (.inr (.inr (.inr (tdOf ns sa)))))) ∧ M' ra = some (.inl (cI, 0, .inl rd2)) ∧ M' co = some (.inr (1, [.ref pg, .ref ce, .ref pi, .ref ra, .int ln, .int en2])) ∧ M' la = some (.inl (cQ, 100, .inr (.inr (.inr (.inr (lq lo2 sa)))))) ∧ M' pe = some (.inl (cI, 100, .inl pd2)) ∧ M' tu = some (.inl (cI, 100, .inl ud2)) ∧ M' pi = some (.inr (2, [.ref la, .ref pe, .ref tu, .int h2, .int hi2])) ∧ M' va = some (.inl (cL, 16, .inr (.inl g))) ∧ SP cI cL M' ns sa u1 u2 u3 u4 u5 σ ∧ (∀ q, q ≠ va → q ≠ pi → q ≠ co → q ≠ tu → q ≠ pe → q ≠ la → q ≠ ra → M' q = M_16 q) ∧ (0 ≤ k.toInt ∧ k.toInt ≤ 4096) ∧ (k.toInt + nn_ = 4097) ∧ (∀ k j : Nat, lo2 k = some j → (j : Int) < ns.toInt) ∧ lp_travel0 np ns dd gd steps σ nn_ nx k g h2 hi2 en2 ud2 pd2 lo2 rd2 = ze_238 ∧ lp_travel0_pi_3 np ns dd gd steps σ nn_ nx k g h2 hi2 en2 ud2 pd2 lo2 rd2 = ze_239 ∧ lp_travel0_pi_4 np ns dd gd steps σ nn_ nx k g h2 hi2 en2 ud2 pd2 lo2 rd2 = ze_240 ∧ lp_travel0_co_4 ln np ns dd gd steps σ nn_ nx k g h2 hi2 en2 ud2 pd2 lo2 rd2 = ze_241 ∧ lp_travel0_co_5 np ns dd gd steps σ nn_ nx k g h2 hi2 en2 ud2 pd2 lo2 rd2 = ze_242 ∧ lp_travel0_la np ns dd gd steps σ nn_ nx k g h2 hi2 en2 ud2 pd2 lo2 rd2 = ze_243 ∧ lp_travel0_pe np ns dd gd steps σ nn_ nx k g h2 hi2 en2 ud2 pd2 lo2 rd2 = ze_244 ∧ lp_travel0_tu np ns dd gd steps σ nn_ nx k g h2 hi2 en2 ud2 pd2 lo2 rd2 = ze_245 ∧ lp_travel0_va np ns dd gd steps σ nn_ nx k g h2 hi2 en2 ud2 pd2 lo2 rd2 = ze_246 ∧ lp_travel0_ra np ns dd gd steps σ nn_ nx k g h2 hi2 en2 ud2 pd2 lo2 rd2 = ze_247) ⟨(sp_performing ns 0 f x σ), 0, (sp_performing_va ns 0 f x σ), (sp_performing_pi_3 ns 0 f x σ), (sp_performing_pi_4 ns 0 hi f x σ), (sp_performing_co_5 en ns 0 x σ), (sp_performing_tu ns 0 ud x σ), (sp_performing_pe ns 0 pd x 0 σ), (sp_performing_la ns 0 lo x σ), rd, rfl, h_24, h_25, h_26, h_27, h_28, h_29, h_17, h_18, h_19, h_20, h_21, h_22, hp_30, (fun q _ _ _ _ _ _ _ => rfl), (by omega), (by omega), hlo_31, hze_238.symm, hze_239.symm, hze_240.symm, hze_241.symm, hze_242.symm, hze_243.symm, hze_244.symm, hze_245.symm, hze_246.symm, hze_247.symm⟩ (fun n_232 ih_233 _ M_231 lv_234 hI_235 => ?_)
    obtain ⟨nx, k, g, h2, hi2, en2, ud2, pd2, lo2, rd2, rfl, h_219, h_220, h_221, h_222, h_223, h_224, h_225, h_226, h_227, h_228, h_229, h_230, hp_237, fr_236, j1, j2, hlo2, e_238, e_239, e_240, e_241, e_242, e_243, e_244, e_245, e_246, e_247⟩ := hI_235
    obtain ⟨n_232, rfl⟩ : ∃ j, n_232 = j + 1 := ⟨n_232 - 1, by omega⟩
    refine V.rd (pc' := 33) (fun hl => lv_iload X.1 X.2.1 d_Course_travel_31 (lv_at hl 3 rfl)) ?_
    refine V.br (pc' := 36) (tgt := 112) (P := nx = 0) (lv_if_eq X.1 X.2.1 d_Course_travel_33 (by decide)) (fun c_248 => ?_) (fun c_248 => ?_)
    · have i_249 := congrArg Int32.toInt c_248
      refine V.rd (pc' := 114) (fun hl => lv_iload X.1 X.2.1 d_Course_travel_112 (lv_at hl 3 rfl)) ?_
      refine V.brT (pc' := 117) (tgt := 123) (lv_if_eq X.1 X.2.1 d_Course_travel_114 (by decide)) c_248 ?_
      refine V.rd (pc' := 124) (fun hl => lv_aload_n X.1 X.2.1 d_Course_travel_123 rfl (lv_at hl 0 rfl)) ?_
      refine V.rd (pc' := 126) (fun hl => lv_iload X.1 X.2.1 d_Course_travel_124 (lv_at hl 4 rfl)) ?_
      refine V.put (pc' := 129) X hK h_225 uw_Course t_Course tok_Course nm_Course rfl 4 (by decide) (mcs wd_150) rfl rfl rfl (Nat.le_of_ble_eq_true rfl) (fs' := [.ref pg, .ref ce, .ref pi, .ref ra, .int k, .int en2]) rfl d_Course_travel_126 rfl (fun M_250 h_251 fr_252 => ?_)
      have h_253 : M_250 ce = some (.inr (0, [.ref va])) := (fr_252 _ (ne_k h_219 h_225 (i := 0) (j := 1) rfl rfl (by decide))).trans h_219
      have h_254 : M_250 pg = some (.inr (3, [.ref dg, .ref gg, .ref tg0, .int np, .int ns])) := (fr_252 _ (ne_k h_220 h_225 (i := 3) (j := 1) rfl rfl (by decide))).trans h_220
      have h_255 : M_250 dg = some (.inl (cI, 60, .inl dd)) := (fr_252 _ (ne_k h_221 h_225 (i := 1060) (j := 1) rfl rfl (by decide))).trans h_221
      have h_256 : M_250 gg = some (.inl (cI, 60, .inl gd)) := (fr_252 _ (ne_k h_222 h_225 (i := 1060) (j := 1) rfl rfl (by decide))).trans h_222
      have h_257 : M_250 tg0 = some (.inl (cQ, 60, .inr (.inr (.inr (.inr (tdOf ns sa)))))) := (fr_252 _ (ne_k h_223 h_225 (i := 10000060) (j := 1) rfl rfl (by decide))).trans h_223
      have h_258 : M_250 ra = some (.inl (cI, 0, .inl rd2)) := (fr_252 _ (ne_k h_224 h_225 (i := 1000) (j := 1) rfl rfl (by decide))).trans h_224
      have h_259 : M_250 la = some (.inl (cQ, 100, .inr (.inr (.inr (.inr (lq lo2 sa)))))) := (fr_252 _ (ne_k h_226 h_225 (i := 10000100) (j := 1) rfl rfl (by decide))).trans h_226
      have h_260 : M_250 pe = some (.inl (cI, 100, .inl pd2)) := (fr_252 _ (ne_k h_227 h_225 (i := 1100) (j := 1) rfl rfl (by decide))).trans h_227
      have h_261 : M_250 tu = some (.inl (cI, 100, .inl ud2)) := (fr_252 _ (ne_k h_228 h_225 (i := 1100) (j := 1) rfl rfl (by decide))).trans h_228
      have h_262 : M_250 pi = some (.inr (2, [.ref la, .ref pe, .ref tu, .int h2, .int hi2])) := (fr_252 _ (ne_k h_229 h_225 (i := 2) (j := 1) rfl rfl (by decide))).trans h_229
      have h_263 : M_250 va = some (.inl (cL, 16, .inr (.inl g))) := (fr_252 _ (ne_k h_230 h_225 (i := 100016) (j := 1) rfl rfl (by decide))).trans h_230
      have hp_264 := hp_237.keep (M' := M_250) (fun q e he ht => fr_252 q (ne_p he ht h_225 (j := 1) rfl (by decide)))
      refine V.rd (pc' := 131) (fun hl => lv_iload X.1 X.2.1 d_Course_travel_129 (lv_at hl 4 rfl)) ?_
      rw [lp_travel0] at e_238
      simp only [if_pos c_248] at e_238
      rw [lp_travel0_pi_3] at e_239
      simp only [if_pos c_248] at e_239
      rw [lp_travel0_pi_4] at e_240
      simp only [if_pos c_248] at e_240
      rw [lp_travel0_co_4] at e_241
      simp only [if_pos c_248] at e_241
      rw [lp_travel0_co_5] at e_242
      simp only [if_pos c_248] at e_242
      rw [lp_travel0_la] at e_243
      simp only [if_pos c_248] at e_243
      rw [lp_travel0_pe] at e_244
      simp only [if_pos c_248] at e_244
      rw [lp_travel0_tu] at e_245
      simp only [if_pos c_248] at e_245
      rw [lp_travel0_va] at e_246
      simp only [if_pos c_248] at e_246
      rw [lp_travel0_ra] at e_247
      simp only [if_pos c_248] at e_247
      exact V.iret X hr hlk ⟨(by simp only [sp_travel0, if_neg c_32]; exact congrArg (fun z => some (Value.int z)) (e_238.trans hze_238)), (by simp only [sp_travel0_pi_3, sp_travel0_pi_4, if_neg c_32]; rw [← hze_239, ← e_239]; rw [← hze_240, ← e_240]; exact h_262), (by simp only [sp_travel0_co_4, sp_travel0_co_5, if_neg c_32]; rw [← hze_241, ← e_241]; rw [← hze_242, ← e_242]; exact h_251), (by simp only [sp_travel0_la, if_neg c_32]; rw [← hze_243, ← e_243]; exact h_259), (by simp only [sp_travel0_pe, if_neg c_32]; rw [← hze_244, ← e_244]; exact h_260), (by simp only [sp_travel0_tu, if_neg c_32]; rw [← hze_245, ← e_245]; exact h_261), (by simp only [sp_travel0_va, if_neg c_32]; rw [← hze_246, ← e_246]; exact h_263), (by simp only [sp_travel0_ra, if_neg c_32]; rw [← hze_247, ← e_247]; exact h_258), (fun q n0_ n1_ n2_ n3_ n4_ n5_ n6_ => (fr_252 q n1_).trans ((fr_236 q n5_ n0_ n1_ n4_ n3_ n2_ n6_).trans ((fr_23 q n1_ n2_ n3_ n4_ n0_ n5_).trans ((fr_3 q n0_)))))⟩ d_Course_travel_131
    · have i_265 := mt Int32.toInt_inj.mp c_248
      refine V.rd (pc' := 38) (fun hl => lv_iload X.1 X.2.1 d_Course_travel_36 (lv_at hl 4 rfl)) ?_
      refine V.go (pc' := 39) (lv_i2l X.1 X.2.1 d_Course_travel_38 rfl) ?_
      refine V.rd (pc' := 40) (fun hl => lv_lload_n X.1 X.2.1 d_Course_travel_39 rfl (lv_at hl 2 rfl)) ?_
      refine V.go (pc' := 41) (W.lcmp X.1 X.2.1 d_Course_travel_40) ?_
      refine V.br (pc' := 44) (tgt := 112) (P := 0 ≤ (lg_cmp k.toInt64 steps)) (lv_if_ge X.1 X.2.1 d_Course_travel_41 (by decide)) (fun c_266 => ?_) (fun c_266 => ?_)
      · refine V.rd (pc' := 114) (fun hl => lv_iload X.1 X.2.1 d_Course_travel_112 (lv_at hl 3 rfl)) ?_
        refine V.brF (pc' := 117) (tgt := 123) (lv_if_eq X.1 X.2.1 d_Course_travel_114 (by decide)) c_248 ?_
        refine V.rd (pc' := 118) (fun hl => lv_aload_n X.1 X.2.1 d_Course_travel_117 rfl (lv_at hl 0 rfl)) ?_
        refine V.go (pc' := 119) (lv_iconst (v := 1) X.1 X.2.1 d_Course_travel_118 (by decide)) ?_
        refine V.callV (pc' := 122) X hK (c_Course_end  (co := co) (pg := pg) (ce := ce) (pi := pi) (ra := ra) (ln := ln) (en := en2) (x := 1)   h_225  ) h_225 rfl (cwG (n := 1) X (mcs wd_89) (mcs wd_90) (mcs wd_91) (mcs wd_92) wd_93 (by decide +kernel) (by decide) (by decide)) rfl rfl (Nat.le_of_ble_eq_true rfl) d_Course_travel_119 ⟨by decide, by decide⟩ rfl (st1 := [.int 0]) rfl (fun M_267 ⟨h_268, fr_269⟩ => ?_)
        have h_270 : M_267 ce = some (.inr (0, [.ref va])) := (fr_269 _ (ne_k h_219 h_225 (i := 0) (j := 1) rfl rfl (by decide))).trans h_219
        have h_271 : M_267 pg = some (.inr (3, [.ref dg, .ref gg, .ref tg0, .int np, .int ns])) := (fr_269 _ (ne_k h_220 h_225 (i := 3) (j := 1) rfl rfl (by decide))).trans h_220
        have h_272 : M_267 dg = some (.inl (cI, 60, .inl dd)) := (fr_269 _ (ne_k h_221 h_225 (i := 1060) (j := 1) rfl rfl (by decide))).trans h_221
        have h_273 : M_267 gg = some (.inl (cI, 60, .inl gd)) := (fr_269 _ (ne_k h_222 h_225 (i := 1060) (j := 1) rfl rfl (by decide))).trans h_222
        have h_274 : M_267 tg0 = some (.inl (cQ, 60, .inr (.inr (.inr (.inr (tdOf ns sa)))))) := (fr_269 _ (ne_k h_223 h_225 (i := 10000060) (j := 1) rfl rfl (by decide))).trans h_223
        have h_275 : M_267 ra = some (.inl (cI, 0, .inl rd2)) := (fr_269 _ (ne_k h_224 h_225 (i := 1000) (j := 1) rfl rfl (by decide))).trans h_224
        have h_276 : M_267 la = some (.inl (cQ, 100, .inr (.inr (.inr (.inr (lq lo2 sa)))))) := (fr_269 _ (ne_k h_226 h_225 (i := 10000100) (j := 1) rfl rfl (by decide))).trans h_226
        have h_277 : M_267 pe = some (.inl (cI, 100, .inl pd2)) := (fr_269 _ (ne_k h_227 h_225 (i := 1100) (j := 1) rfl rfl (by decide))).trans h_227
        have h_278 : M_267 tu = some (.inl (cI, 100, .inl ud2)) := (fr_269 _ (ne_k h_228 h_225 (i := 1100) (j := 1) rfl rfl (by decide))).trans h_228
        have h_279 : M_267 pi = some (.inr (2, [.ref la, .ref pe, .ref tu, .int h2, .int hi2])) := (fr_269 _ (ne_k h_229 h_225 (i := 2) (j := 1) rfl rfl (by decide))).trans h_229
        have h_280 : M_267 va = some (.inl (cL, 16, .inr (.inl g))) := (fr_269 _ (ne_k h_230 h_225 (i := 100016) (j := 1) rfl rfl (by decide))).trans h_230
        have hp_281 := hp_237.keep (M' := M_267) (fun q e he ht => fr_269 q (ne_p he ht h_225 (j := 1) rfl (by decide)))
        refine V.go (pc' := 123) (lv_pop X.1 X.2.1 d_Course_travel_122 rfl) ?_
        refine V.rd (pc' := 124) (fun hl => lv_aload_n X.1 X.2.1 d_Course_travel_123 rfl (lv_at hl 0 rfl)) ?_
        refine V.rd (pc' := 126) (fun hl => lv_iload X.1 X.2.1 d_Course_travel_124 (lv_at hl 4 rfl)) ?_
        refine V.put (pc' := 129) X hK h_268 uw_Course t_Course tok_Course nm_Course rfl 4 (by decide) (mcs wd_150) rfl rfl rfl (Nat.le_of_ble_eq_true rfl) (fs' := [.ref pg, .ref ce, .ref pi, .ref ra, .int k, .int 1]) rfl d_Course_travel_126 rfl (fun M_282 h_283 fr_284 => ?_)
        have h_285 : M_282 ce = some (.inr (0, [.ref va])) := (fr_284 _ (ne_k h_270 h_268 (i := 0) (j := 1) rfl rfl (by decide))).trans h_270
        have h_286 : M_282 pg = some (.inr (3, [.ref dg, .ref gg, .ref tg0, .int np, .int ns])) := (fr_284 _ (ne_k h_271 h_268 (i := 3) (j := 1) rfl rfl (by decide))).trans h_271
        have h_287 : M_282 dg = some (.inl (cI, 60, .inl dd)) := (fr_284 _ (ne_k h_272 h_268 (i := 1060) (j := 1) rfl rfl (by decide))).trans h_272
        have h_288 : M_282 gg = some (.inl (cI, 60, .inl gd)) := (fr_284 _ (ne_k h_273 h_268 (i := 1060) (j := 1) rfl rfl (by decide))).trans h_273
        have h_289 : M_282 tg0 = some (.inl (cQ, 60, .inr (.inr (.inr (.inr (tdOf ns sa)))))) := (fr_284 _ (ne_k h_274 h_268 (i := 10000060) (j := 1) rfl rfl (by decide))).trans h_274
        have h_290 : M_282 ra = some (.inl (cI, 0, .inl rd2)) := (fr_284 _ (ne_k h_275 h_268 (i := 1000) (j := 1) rfl rfl (by decide))).trans h_275
        have h_291 : M_282 la = some (.inl (cQ, 100, .inr (.inr (.inr (.inr (lq lo2 sa)))))) := (fr_284 _ (ne_k h_276 h_268 (i := 10000100) (j := 1) rfl rfl (by decide))).trans h_276
        have h_292 : M_282 pe = some (.inl (cI, 100, .inl pd2)) := (fr_284 _ (ne_k h_277 h_268 (i := 1100) (j := 1) rfl rfl (by decide))).trans h_277
        have h_293 : M_282 tu = some (.inl (cI, 100, .inl ud2)) := (fr_284 _ (ne_k h_278 h_268 (i := 1100) (j := 1) rfl rfl (by decide))).trans h_278
        have h_294 : M_282 pi = some (.inr (2, [.ref la, .ref pe, .ref tu, .int h2, .int hi2])) := (fr_284 _ (ne_k h_279 h_268 (i := 2) (j := 1) rfl rfl (by decide))).trans h_279
        have h_295 : M_282 va = some (.inl (cL, 16, .inr (.inl g))) := (fr_284 _ (ne_k h_280 h_268 (i := 100016) (j := 1) rfl rfl (by decide))).trans h_280
        have hp_296 := hp_281.keep (M' := M_282) (fun q e he ht => fr_284 q (ne_p he ht h_268 (j := 1) rfl (by decide)))
        refine V.rd (pc' := 131) (fun hl => lv_iload X.1 X.2.1 d_Course_travel_129 (lv_at hl 4 rfl)) ?_
        rw [lp_travel0] at e_238
        simp only [if_neg c_248, if_pos c_266] at e_238
        rw [lp_travel0_pi_3] at e_239
        simp only [if_neg c_248, if_pos c_266] at e_239
        rw [lp_travel0_pi_4] at e_240
        simp only [if_neg c_248, if_pos c_266] at e_240
        rw [lp_travel0_co_4] at e_241
        simp only [if_neg c_248, if_pos c_266] at e_241
        rw [lp_travel0_co_5] at e_242
        simp only [if_neg c_248, if_pos c_266] at e_242
        rw [lp_travel0_la] at e_243
        simp only [if_neg c_248, if_pos c_266] at e_243
        rw [lp_travel0_pe] at e_244
        simp only [if_neg c_248, if_pos c_266] at e_244
        rw [lp_travel0_tu] at e_245
        simp only [if_neg c_248, if_pos c_266] at e_245
        rw [lp_travel0_va] at e_246
        simp only [if_neg c_248, if_pos c_266] at e_246
        rw [lp_travel0_ra] at e_247
        simp only [if_neg c_248, if_pos c_266] at e_247
        exact V.iret X hr hlk ⟨(by simp only [sp_travel0, if_neg c_32]; exact congrArg (fun z => some (Value.int z)) (e_238.trans hze_238)), (by simp only [sp_travel0_pi_3, sp_travel0_pi_4, if_neg c_32]; rw [← hze_239, ← e_239]; rw [← hze_240, ← e_240]; exact h_294), (by simp only [sp_travel0_co_4, sp_travel0_co_5, if_neg c_32]; rw [← hze_241, ← e_241]; rw [← hze_242, ← e_242]; exact h_283), (by simp only [sp_travel0_la, if_neg c_32]; rw [← hze_243, ← e_243]; exact h_291), (by simp only [sp_travel0_pe, if_neg c_32]; rw [← hze_244, ← e_244]; exact h_292), (by simp only [sp_travel0_tu, if_neg c_32]; rw [← hze_245, ← e_245]; exact h_293), (by simp only [sp_travel0_va, if_neg c_32]; rw [← hze_246, ← e_246]; exact h_295), (by simp only [sp_travel0_ra, if_neg c_32]; rw [← hze_247, ← e_247]; exact h_290), (fun q n0_ n1_ n2_ n3_ n4_ n5_ n6_ => (fr_284 q n1_).trans ((fr_269 q n1_).trans ((fr_236 q n5_ n0_ n1_ n4_ n3_ n2_ n6_).trans ((fr_23 q n1_ n2_ n3_ n4_ n0_ n5_).trans ((fr_3 q n0_))))))⟩ d_Course_travel_131
      · have i_297 := lcmp_lt c_266
        refine V.rd (pc' := 46) (fun hl => lv_iload X.1 X.2.1 d_Course_travel_44 (lv_at hl 3 rfl)) ?_
        refine V.wr (pc' := 48) (lv' := [(6, .int nx), (0, .ref co), (1, .int x), (2, .long steps), (4, .int nx), (5, .int k)]) (fun hl => lv_istore X.1 X.2.1 d_Course_travel_46 hl (by decide) rfl) ?_
        refine V.rd (pc' := 49) (fun hl => lv_aload_n X.1 X.2.1 d_Course_travel_48 rfl (lv_at hl 1 rfl)) ?_
        refine V.rd (pc' := 51) (fun hl => lv_iload X.1 X.2.1 d_Course_travel_49 (lv_at hl 5 rfl)) ?_
        refine V.rd (pc' := 53) (fun hl => lv_iload X.1 X.2.1 d_Course_travel_51 (lv_at hl 0 rfl)) ?_
        refine V.callV (pc' := 56) X hK (c_note0  (co := co) (pg := pg) (ce := ce) (pi := pi) (ra := ra) (ln := ln) (en := en2) (rd := rd2) (x := k) (y := nx)   h_225 h_224  ) h_225 rfl (cwG (n := 2) X (mcs wd_151) (mcs wd_152) (mcs wd_153) (mcs wd_92) wd_154 (by decide +kernel) (by decide) (by decide)) rfl rfl (Nat.le_of_ble_eq_true rfl) d_Course_travel_53 ⟨by decide, by decide⟩ rfl (st1 := []) rfl (fun M_298 ⟨h_299, fr_300⟩ => ?_)
        have h_301 : M_298 ce = some (.inr (0, [.ref va])) := (fr_300 _ (ne_k h_219 h_224 (i := 0) (j := 1000) rfl rfl (by decide))).trans h_219
        have h_302 : M_298 pg = some (.inr (3, [.ref dg, .ref gg, .ref tg0, .int np, .int ns])) := (fr_300 _ (ne_k h_220 h_224 (i := 3) (j := 1000) rfl rfl (by decide))).trans h_220
        have h_303 : M_298 dg = some (.inl (cI, 60, .inl dd)) := (fr_300 _ (ne_k h_221 h_224 (i := 1060) (j := 1000) rfl rfl (by decide))).trans h_221
        have h_304 : M_298 gg = some (.inl (cI, 60, .inl gd)) := (fr_300 _ (ne_k h_222 h_224 (i := 1060) (j := 1000) rfl rfl (by decide))).trans h_222
        have h_305 : M_298 tg0 = some (.inl (cQ, 60, .inr (.inr (.inr (.inr (tdOf ns sa)))))) := (fr_300 _ (ne_k h_223 h_224 (i := 10000060) (j := 1000) rfl rfl (by decide))).trans h_223
        have h_306 : M_298 co = some (.inr (1, [.ref pg, .ref ce, .ref pi, .ref ra, .int ln, .int en2])) := (fr_300 _ (ne_k h_225 h_224 (i := 1) (j := 1000) rfl rfl (by decide))).trans h_225
        have h_307 : M_298 la = some (.inl (cQ, 100, .inr (.inr (.inr (.inr (lq lo2 sa)))))) := (fr_300 _ (ne_k h_226 h_224 (i := 10000100) (j := 1000) rfl rfl (by decide))).trans h_226
        have h_308 : M_298 pe = some (.inl (cI, 100, .inl pd2)) := (fr_300 _ (ne_k h_227 h_224 (i := 1100) (j := 1000) rfl rfl (by decide))).trans h_227
        have h_309 : M_298 tu = some (.inl (cI, 100, .inl ud2)) := (fr_300 _ (ne_k h_228 h_224 (i := 1100) (j := 1000) rfl rfl (by decide))).trans h_228
        have h_310 : M_298 pi = some (.inr (2, [.ref la, .ref pe, .ref tu, .int h2, .int hi2])) := (fr_300 _ (ne_k h_229 h_224 (i := 2) (j := 1000) rfl rfl (by decide))).trans h_229
        have h_311 : M_298 va = some (.inl (cL, 16, .inr (.inl g))) := (fr_300 _ (ne_k h_230 h_224 (i := 100016) (j := 1000) rfl rfl (by decide))).trans h_230
        have hp_312 := hp_237.keep (M' := M_298) (fun q e he ht => fr_300 q (ne_p he ht h_224 (j := 1000) rfl (by decide)))
        refine V.rd (pc' := 57) (fun hl => lv_aload_n X.1 X.2.1 d_Course_travel_56 rfl (lv_at hl 1 rfl)) ?_
        refine V.get (pc' := 60) X hK h_306 uw_Course rfl 0 (by decide) (mcs wd_87) rfl d_Course_travel_57 rfl ?_
        refine V.rd (pc' := 62) (fun hl => lv_iload X.1 X.2.1 d_Course_travel_60 (lv_at hl 0 rfl)) ?_
        refine V.callV0 (pc' := 65) X hK (c_performedBy  (pg := pg) (dg := dg) (gg := gg) (tg0 := tg0) (np := np) (ns := ns) (dd := dd) (x := nx)   h_302 h_303  ) h_302 rfl (cwG (n := 1) X (mcs wd_155) (mcs wd_156) (mcs wd_157) (mcs wd_7) wd_158 (by decide +kernel) (by decide) (by decide)) rfl rfl (Nat.le_of_ble_eq_true rfl) d_Course_travel_62 ⟨by decide, by decide⟩ rfl (st1 := [.int (sp_performedBy np dd nx)]) rfl ?_
        refine V.wr (pc' := 67) (lv' := [(7, .int (sp_performedBy np dd nx)), (6, .int nx), (0, .ref co), (1, .int x), (2, .long steps), (4, .int nx), (5, .int k)]) (fun hl => lv_istore X.1 X.2.1 d_Course_travel_65 hl (by decide) rfl) ?_
        refine V.rd (pc' := 69) (fun hl => lv_iload X.1 X.2.1 d_Course_travel_67 (lv_at hl 0 rfl)) ?_
        refine V.go (pc' := 70) (lv_iconst (v := (-1)) X.1 X.2.1 d_Course_travel_69 (by decide)) ?_
        refine V.bn (pc' := 73) (tgt := 82) (P := (sp_performedBy np dd nx) = (-1)) (lv_icmp_ne X.1 X.2.1 d_Course_travel_70 (by decide)) (fun c_314 => ?_) (fun c_314 => ?_)
        · have i_315 := congrArg Int32.toInt c_314
          refine V.rd (pc' := 74) (fun hl => lv_aload_n X.1 X.2.1 d_Course_travel_73 rfl (lv_at hl 2 rfl)) ?_
          refine V.rd (pc' := 76) (fun hl => lv_iload X.1 X.2.1 d_Course_travel_74 (lv_at hl 1 rfl)) ?_
          refine V.callV (pc' := 79) X hK (c_doing  (co := co) (pg := pg) (ce := ce) (pi := pi) (ra := ra) (va := va) (dg := dg) (gg := gg) (tg0 := tg0) (ln := ln) (en := en2) (np := np) (ns := ns) (dd := dd) (f := g) (x := nx)   h_306 h_301 h_311 h_302 h_303  ) h_306 rfl (cwG (n := 1) X (mcs wd_159) (mcs wd_160) (mcs wd_161) (mcs wd_92) wd_162 (by decide +kernel) (by decide) (by decide)) rfl rfl (Nat.le_of_ble_eq_true rfl) d_Course_travel_76 ⟨by decide, by decide⟩ rfl (st1 := [.int (sp_doing np dd g nx)]) rfl (fun M_316 ⟨h_317, h_318, fr_319⟩ => ?_)
          have h_320 : M_316 ce = some (.inr (0, [.ref va])) := (fr_319 _ (ne_k h_301 h_311 (i := 0) (j := 100016) rfl rfl (by decide)) (ne_k h_301 h_306 (i := 0) (j := 1) rfl rfl (by decide))).trans h_301
          have h_321 : M_316 pg = some (.inr (3, [.ref dg, .ref gg, .ref tg0, .int np, .int ns])) := (fr_319 _ (ne_k h_302 h_311 (i := 3) (j := 100016) rfl rfl (by decide)) (ne_k h_302 h_306 (i := 3) (j := 1) rfl rfl (by decide))).trans h_302
          have h_322 : M_316 dg = some (.inl (cI, 60, .inl dd)) := (fr_319 _ (ne_k h_303 h_311 (i := 1060) (j := 100016) rfl rfl (by decide)) (ne_k h_303 h_306 (i := 1060) (j := 1) rfl rfl (by decide))).trans h_303
          have h_323 : M_316 gg = some (.inl (cI, 60, .inl gd)) := (fr_319 _ (ne_k h_304 h_311 (i := 1060) (j := 100016) rfl rfl (by decide)) (ne_k h_304 h_306 (i := 1060) (j := 1) rfl rfl (by decide))).trans h_304
          have h_324 : M_316 tg0 = some (.inl (cQ, 60, .inr (.inr (.inr (.inr (tdOf ns sa)))))) := (fr_319 _ (ne_k h_305 h_311 (i := 10000060) (j := 100016) rfl rfl (by decide)) (ne_k h_305 h_306 (i := 10000060) (j := 1) rfl rfl (by decide))).trans h_305
          have h_325 : M_316 la = some (.inl (cQ, 100, .inr (.inr (.inr (.inr (lq lo2 sa)))))) := (fr_319 _ (ne_k h_307 h_311 (i := 10000100) (j := 100016) rfl rfl (by decide)) (ne_k h_307 h_306 (i := 10000100) (j := 1) rfl rfl (by decide))).trans h_307
          have h_326 : M_316 pe = some (.inl (cI, 100, .inl pd2)) := (fr_319 _ (ne_k h_308 h_311 (i := 1100) (j := 100016) rfl rfl (by decide)) (ne_k h_308 h_306 (i := 1100) (j := 1) rfl rfl (by decide))).trans h_308
          have h_327 : M_316 tu = some (.inl (cI, 100, .inl ud2)) := (fr_319 _ (ne_k h_309 h_311 (i := 1100) (j := 100016) rfl rfl (by decide)) (ne_k h_309 h_306 (i := 1100) (j := 1) rfl rfl (by decide))).trans h_309
          have h_328 : M_316 pi = some (.inr (2, [.ref la, .ref pe, .ref tu, .int h2, .int hi2])) := (fr_319 _ (ne_k h_310 h_311 (i := 2) (j := 100016) rfl rfl (by decide)) (ne_k h_310 h_306 (i := 2) (j := 1) rfl rfl (by decide))).trans h_310
          have h_329 : M_316 ra = some (.inl (cI, 0, .inl (sp_note0_ra rd2 k nx))) := (fr_319 _ (ne_k h_299 h_311 (i := 1000) (j := 100016) rfl rfl (by decide)) (ne_k h_299 h_306 (i := 1000) (j := 1) rfl rfl (by decide))).trans h_299
          have hp_330 := hp_312.keep (M' := M_316) (fun q e he ht => fr_319 q (ne_p he ht h_311 (j := 100016) rfl (by decide)) (ne_p he ht h_306 (j := 1) rfl (by decide)))
          refine V.go (pc' := 90) (lv_goto X.1 X.2.1 d_Course_travel_79 (by decide)) ?_
          refine V.wr (pc' := 92) (lv' := [(4, .int (sp_doing np dd g nx)), (7, .int (sp_performedBy np dd nx)), (6, .int nx), (0, .ref co), (1, .int x), (2, .long steps), (5, .int k)]) (fun hl => lv_istore X.1 X.2.1 d_Course_travel_90 hl (by decide) rfl) ?_
          refine V.rd (pc' := 94) (fun hl => lv_iload X.1 X.2.1 d_Course_travel_92 (lv_at hl 0 rfl)) ?_
          refine V.go (pc' := 95) (lv_iconst (v := (-1)) X.1 X.2.1 d_Course_travel_94 (by decide)) ?_
          refine V.bn (pc' := 98) (tgt := 106) (P := (sp_doing np dd g nx) = (-1)) (lv_icmp_ne X.1 X.2.1 d_Course_travel_95 (by decide)) (fun c_331 => ?_) (fun c_331 => ?_)
          · have i_332 := congrArg Int32.toInt c_331
            refine V.rd (pc' := 99) (fun hl => lv_aload_n X.1 X.2.1 d_Course_travel_98 rfl (lv_at hl 3 rfl)) ?_
            refine V.rd (pc' := 101) (fun hl => lv_iload X.1 X.2.1 d_Course_travel_99 (lv_at hl 2 rfl)) ?_
            refine V.callV (pc' := 104) X hK (c_behindDoing  (co := co) (pg := pg) (ce := ce) (pi := pi) (ra := ra) (va := va) (dg := dg) (gg := gg) (tg0 := tg0) (la := la) (pe := pe) (tu := tu) (ln := ln) (en := sp_doing_co_5 en2 np dd g nx) (np := np) (ns := ns) (hh := h2) (hi := hi2) (gd := gd) (f := sp_doing_va np dd g nx) (lo := lo2) (pd := pd2) (ud := ud2) (x := nx)  ne0 h_318 h_320 h_317 h_321 h_323 h_328 h_325 h_326 h_327 hp_330 hσ hlo2) h_318 rfl (cwG (n := 1) X (mcs wd_163) (mcs wd_164) (mcs wd_165) (mcs wd_92) wd_166 (by decide +kernel) (by decide) (by decide)) rfl rfl (Nat.le_of_ble_eq_true rfl) d_Course_travel_101 ⟨by decide, by decide⟩ rfl (st1 := [.int (lp_behindDoing np gd lo2 pd2 σ 101 nx 0 (sp_doing_va np dd g nx) h2 ud2)]) rfl (fun M_333 ⟨h_334, h_335, h_336, h_337, fr_338⟩ => ?_)
            have h_339 : M_333 ce = some (.inr (0, [.ref va])) := (fr_338 _ (ne_k h_320 h_318 (i := 0) (j := 1) rfl rfl (by decide)) (ne_k h_320 h_327 (i := 0) (j := 1100) rfl rfl (by decide)) (ne_k h_320 h_317 (i := 0) (j := 100016) rfl rfl (by decide)) (ne_k h_320 h_328 (i := 0) (j := 2) rfl rfl (by decide))).trans h_320
            have h_340 : M_333 pg = some (.inr (3, [.ref dg, .ref gg, .ref tg0, .int np, .int ns])) := (fr_338 _ (ne_k h_321 h_318 (i := 3) (j := 1) rfl rfl (by decide)) (ne_k h_321 h_327 (i := 3) (j := 1100) rfl rfl (by decide)) (ne_k h_321 h_317 (i := 3) (j := 100016) rfl rfl (by decide)) (ne_k h_321 h_328 (i := 3) (j := 2) rfl rfl (by decide))).trans h_321
            have h_341 : M_333 dg = some (.inl (cI, 60, .inl dd)) := (fr_338 _ (ne_k h_322 h_318 (i := 1060) (j := 1) rfl rfl (by decide)) (ne_k h_322 h_327 (i := 1060) (j := 1100) rfl rfl (by decide)) (ne_k h_322 h_317 (i := 1060) (j := 100016) rfl rfl (by decide)) (ne_k h_322 h_328 (i := 1060) (j := 2) rfl rfl (by decide))).trans h_322
            have h_342 : M_333 gg = some (.inl (cI, 60, .inl gd)) := (fr_338 _ (ne_k h_323 h_318 (i := 1060) (j := 1) rfl rfl (by decide)) (ne_k h_323 h_327 (i := 1060) (j := 1100) rfl rfl (by decide)) (ne_k h_323 h_317 (i := 1060) (j := 100016) rfl rfl (by decide)) (ne_k h_323 h_328 (i := 1060) (j := 2) rfl rfl (by decide))).trans h_323
            have h_343 : M_333 tg0 = some (.inl (cQ, 60, .inr (.inr (.inr (.inr (tdOf ns sa)))))) := (fr_338 _ (ne_k h_324 h_318 (i := 10000060) (j := 1) rfl rfl (by decide)) (ne_k h_324 h_327 (i := 10000060) (j := 1100) rfl rfl (by decide)) (ne_k h_324 h_317 (i := 10000060) (j := 100016) rfl rfl (by decide)) (ne_k h_324 h_328 (i := 10000060) (j := 2) rfl rfl (by decide))).trans h_324
            have h_344 : M_333 la = some (.inl (cQ, 100, .inr (.inr (.inr (.inr (lq lo2 sa)))))) := (fr_338 _ (ne_k h_325 h_318 (i := 10000100) (j := 1) rfl rfl (by decide)) (ne_k h_325 h_327 (i := 10000100) (j := 1100) rfl rfl (by decide)) (ne_k h_325 h_317 (i := 10000100) (j := 100016) rfl rfl (by decide)) (ne_k h_325 h_328 (i := 10000100) (j := 2) rfl rfl (by decide))).trans h_325
            have h_345 : M_333 pe = some (.inl (cI, 100, .inl pd2)) := (fr_338 _ (ne_k h_326 h_318 (i := 1100) (j := 1) rfl rfl (by decide)) ne0 (ne_k h_326 h_317 (i := 1100) (j := 100016) rfl rfl (by decide)) (ne_k h_326 h_328 (i := 1100) (j := 2) rfl rfl (by decide))).trans h_326
            have h_346 : M_333 ra = some (.inl (cI, 0, .inl (sp_note0_ra rd2 k nx))) := (fr_338 _ (ne_k h_329 h_318 (i := 1000) (j := 1) rfl rfl (by decide)) (ne_k h_329 h_327 (i := 1000) (j := 1100) rfl rfl (by decide)) (ne_k h_329 h_317 (i := 1000) (j := 100016) rfl rfl (by decide)) (ne_k h_329 h_328 (i := 1000) (j := 2) rfl rfl (by decide))).trans h_329
            have hp_347 := hp_330.keep (M' := M_333) (fun q e he ht => fr_338 q (ne_p he ht h_318 (j := 1) rfl (by decide)) (ne_p he ht h_327 (j := 1100) rfl (by decide)) (ne_p he ht h_317 (j := 100016) rfl (by decide)) (ne_p he ht h_328 (j := 2) rfl (by decide)))
            refine V.wr (pc' := 106) (lv' := [(4, .int (lp_behindDoing np gd lo2 pd2 σ 101 nx 0 (sp_doing_va np dd g nx) h2 ud2)), (7, .int (sp_performedBy np dd nx)), (6, .int nx), (0, .ref co), (1, .int x), (2, .long steps), (5, .int k)]) (fun hl => lv_istore X.1 X.2.1 d_Course_travel_104 hl (by decide) rfl) ?_
            refine V.wr (pc' := 109) (lv' := [(5, .int (k + 1)), (4, .int (lp_behindDoing np gd lo2 pd2 σ 101 nx 0 (sp_doing_va np dd g nx) h2 ud2)), (7, .int (sp_performedBy np dd nx)), (6, .int nx), (0, .ref co), (1, .int x), (2, .long steps)]) (fun hl => lv_iinc (k := 6) (v := k + 1) X.1 X.2.1 d_Course_travel_106 hl rfl rfl (by decide) rfl) ?_
            have s_348 : (k + 1).toInt = k.toInt + (1) := i32_add1 (by omega)
            refine V.go (pc' := 31) (lv_goto X.1 X.2.1 d_Course_travel_109 (by decide)) ?_
            refine V.pick [4, 5, 6, 1, 0] rfl ?_
            exact ih_233 n_232 (by omega) () _ _ ⟨(lp_behindDoing np gd lo2 pd2 σ 101 nx 0 (sp_doing_va np dd g nx) h2 ud2), (k + 1), (lp_behindDoing_va np gd lo2 pd2 σ 101 nx 0 (sp_doing_va np dd g nx) h2 ud2), (lp_behindDoing_pi_3 np gd lo2 pd2 σ 101 nx 0 (sp_doing_va np dd g nx) h2 ud2), hi2, (lp_behindDoing_co_5 (sp_doing_co_5 en2 np dd g nx) np gd lo2 pd2 σ 101 nx 0 (sp_doing_va np dd g nx) h2 ud2), (lp_behindDoing_tu np gd lo2 pd2 σ 101 nx 0 (sp_doing_va np dd g nx) h2 ud2), pd2, lo2, (sp_note0_ra rd2 k nx), rfl, h_339, h_340, h_341, h_342, h_343, h_346, h_334, h_344, h_345, h_335, h_337, h_336, hp_347, (fun q n0_ n1_ n2_ n3_ n4_ n5_ n6_ => (fr_338 q n2_ n3_ n0_ n1_).trans ((fr_319 q n0_ n2_).trans ((fr_300 q n6_).trans ((fr_236 q n0_ n1_ n2_ n3_ n4_ n5_ n6_))))), (by omega), (by omega), hlo2, (by rw [← e_238, lp_travel0]; simp only [if_neg c_248, if_neg c_266, if_pos c_314, if_pos c_331]), (by rw [← e_239, lp_travel0_pi_3]; simp only [if_neg c_248, if_neg c_266, if_pos c_314, if_pos c_331]), (by rw [← e_240, lp_travel0_pi_4]; simp only [if_neg c_248, if_neg c_266, if_pos c_314, if_pos c_331]), (by rw [← e_241, lp_travel0_co_4]; simp only [if_neg c_248, if_neg c_266, if_pos c_314, if_pos c_331]), (by rw [← e_242, lp_travel0_co_5]; simp only [if_neg c_248, if_neg c_266, if_pos c_314, if_pos c_331]), (by rw [← e_243, lp_travel0_la]; simp only [if_neg c_248, if_neg c_266, if_pos c_314, if_pos c_331]), (by rw [← e_244, lp_travel0_pe]; simp only [if_neg c_248, if_neg c_266, if_pos c_314, if_pos c_331]), (by rw [← e_245, lp_travel0_tu]; simp only [if_neg c_248, if_neg c_266, if_pos c_314, if_pos c_331]), (by rw [← e_246, lp_travel0_va]; simp only [if_neg c_248, if_neg c_266, if_pos c_314, if_pos c_331]), (by rw [← e_247, lp_travel0_ra]; simp only [if_neg c_248, if_neg c_266, if_pos c_314, if_pos c_331])⟩
          · have i_349 := mt Int32.toInt_inj.mp c_331
            refine V.wr (pc' := 109) (lv' := [(5, .int (k + 1)), (4, .int (sp_doing np dd g nx)), (7, .int (sp_performedBy np dd nx)), (6, .int nx), (0, .ref co), (1, .int x), (2, .long steps)]) (fun hl => lv_iinc (k := 6) (v := k + 1) X.1 X.2.1 d_Course_travel_106 hl rfl rfl (by decide) rfl) ?_
            have s_350 : (k + 1).toInt = k.toInt + (1) := i32_add1 (by omega)
            refine V.go (pc' := 31) (lv_goto X.1 X.2.1 d_Course_travel_109 (by decide)) ?_
            refine V.pick [4, 5, 6, 1, 0] rfl ?_
            exact ih_233 n_232 (by omega) () _ _ ⟨(sp_doing np dd g nx), (k + 1), (sp_doing_va np dd g nx), h2, hi2, (sp_doing_co_5 en2 np dd g nx), ud2, pd2, lo2, (sp_note0_ra rd2 k nx), rfl, h_320, h_321, h_322, h_323, h_324, h_329, h_318, h_325, h_326, h_327, h_328, h_317, hp_330, (fun q n0_ n1_ n2_ n3_ n4_ n5_ n6_ => (fr_319 q n0_ n2_).trans ((fr_300 q n6_).trans ((fr_236 q n0_ n1_ n2_ n3_ n4_ n5_ n6_)))), (by omega), (by omega), hlo2, (by rw [← e_238, lp_travel0]; simp only [if_neg c_248, if_neg c_266, if_pos c_314, if_neg c_331]), (by rw [← e_239, lp_travel0_pi_3]; simp only [if_neg c_248, if_neg c_266, if_pos c_314, if_neg c_331]), (by rw [← e_240, lp_travel0_pi_4]; simp only [if_neg c_248, if_neg c_266, if_pos c_314, if_neg c_331]), (by rw [← e_241, lp_travel0_co_4]; simp only [if_neg c_248, if_neg c_266, if_pos c_314, if_neg c_331]), (by rw [← e_242, lp_travel0_co_5]; simp only [if_neg c_248, if_neg c_266, if_pos c_314, if_neg c_331]), (by rw [← e_243, lp_travel0_la]; simp only [if_neg c_248, if_neg c_266, if_pos c_314, if_neg c_331]), (by rw [← e_244, lp_travel0_pe]; simp only [if_neg c_248, if_neg c_266, if_pos c_314, if_neg c_331]), (by rw [← e_245, lp_travel0_tu]; simp only [if_neg c_248, if_neg c_266, if_pos c_314, if_neg c_331]), (by rw [← e_246, lp_travel0_va]; simp only [if_neg c_248, if_neg c_266, if_pos c_314, if_neg c_331]), (by rw [← e_247, lp_travel0_ra]; simp only [if_neg c_248, if_neg c_266, if_pos c_314, if_neg c_331])⟩
        · have i_351 := mt Int32.toInt_inj.mp c_314
          refine V.rd (pc' := 83) (fun hl => lv_aload_n X.1 X.2.1 d_Course_travel_82 rfl (lv_at hl 2 rfl)) ?_
          refine V.rd (pc' := 85) (fun hl => lv_iload X.1 X.2.1 d_Course_travel_83 (lv_at hl 0 rfl)) ?_
          refine V.rd (pc' := 87) (fun hl => lv_iload X.1 X.2.1 d_Course_travel_85 (lv_at hl 1 rfl)) ?_
          refine V.callV (pc' := 90) X hK (c_performing  (co := co) (pg := pg) (ce := ce) (pi := pi) (ra := ra) (va := va) (dg := dg) (gg := gg) (tg0 := tg0) (la := la) (pe := pe) (tu := tu) (ln := ln) (en := en2) (np := np) (ns := ns) (hh := h2) (hi := hi2) (f := g) (lo := lo2) (pd := pd2) (ud := ud2) (x := sp_performedBy np dd nx) (y := nx)  ne0 h_306 h_301 h_311 h_302 h_305 h_310 h_307 h_308 h_309 hp_312 hσ) h_306 rfl (cwG (n := 2) X (mcs wd_146) (mcs wd_147) (mcs wd_148) (mcs wd_92) wd_149 (by decide +kernel) (by decide) (by decide)) rfl rfl (Nat.le_of_ble_eq_true rfl) d_Course_travel_87 ⟨by decide, by decide⟩ rfl (st1 := [.int (sp_performing ns h2 g (sp_performedBy np dd nx) σ)]) rfl (fun M_352 ⟨h_353, h_354, h_355, h_356, h_357, h_358, fr_359⟩ => ?_)
          have h_360 : M_352 ce = some (.inr (0, [.ref va])) := (fr_359 _ (ne_k h_301 h_306 (i := 0) (j := 1) rfl rfl (by decide)) (ne_k h_301 h_307 (i := 0) (j := 10000100) rfl rfl (by decide)) (ne_k h_301 h_308 (i := 0) (j := 1100) rfl rfl (by decide)) (ne_k h_301 h_309 (i := 0) (j := 1100) rfl rfl (by decide)) (ne_k h_301 h_310 (i := 0) (j := 2) rfl rfl (by decide)) (ne_k h_301 h_311 (i := 0) (j := 100016) rfl rfl (by decide))).trans h_301
          have h_361 : M_352 pg = some (.inr (3, [.ref dg, .ref gg, .ref tg0, .int np, .int ns])) := (fr_359 _ (ne_k h_302 h_306 (i := 3) (j := 1) rfl rfl (by decide)) (ne_k h_302 h_307 (i := 3) (j := 10000100) rfl rfl (by decide)) (ne_k h_302 h_308 (i := 3) (j := 1100) rfl rfl (by decide)) (ne_k h_302 h_309 (i := 3) (j := 1100) rfl rfl (by decide)) (ne_k h_302 h_310 (i := 3) (j := 2) rfl rfl (by decide)) (ne_k h_302 h_311 (i := 3) (j := 100016) rfl rfl (by decide))).trans h_302
          have h_362 : M_352 dg = some (.inl (cI, 60, .inl dd)) := (fr_359 _ (ne_k h_303 h_306 (i := 1060) (j := 1) rfl rfl (by decide)) (ne_k h_303 h_307 (i := 1060) (j := 10000100) rfl rfl (by decide)) (ne_k h_303 h_308 (i := 1060) (j := 1100) rfl rfl (by decide)) (ne_k h_303 h_309 (i := 1060) (j := 1100) rfl rfl (by decide)) (ne_k h_303 h_310 (i := 1060) (j := 2) rfl rfl (by decide)) (ne_k h_303 h_311 (i := 1060) (j := 100016) rfl rfl (by decide))).trans h_303
          have h_363 : M_352 gg = some (.inl (cI, 60, .inl gd)) := (fr_359 _ (ne_k h_304 h_306 (i := 1060) (j := 1) rfl rfl (by decide)) (ne_k h_304 h_307 (i := 1060) (j := 10000100) rfl rfl (by decide)) (ne_k h_304 h_308 (i := 1060) (j := 1100) rfl rfl (by decide)) (ne_k h_304 h_309 (i := 1060) (j := 1100) rfl rfl (by decide)) (ne_k h_304 h_310 (i := 1060) (j := 2) rfl rfl (by decide)) (ne_k h_304 h_311 (i := 1060) (j := 100016) rfl rfl (by decide))).trans h_304
          have h_364 : M_352 tg0 = some (.inl (cQ, 60, .inr (.inr (.inr (.inr (tdOf ns sa)))))) := (fr_359 _ (ne_k h_305 h_306 (i := 10000060) (j := 1) rfl rfl (by decide)) (ne_k h_305 h_307 (i := 10000060) (j := 10000100) rfl rfl (by decide)) (ne_k h_305 h_308 (i := 10000060) (j := 1100) rfl rfl (by decide)) (ne_k h_305 h_309 (i := 10000060) (j := 1100) rfl rfl (by decide)) (ne_k h_305 h_310 (i := 10000060) (j := 2) rfl rfl (by decide)) (ne_k h_305 h_311 (i := 10000060) (j := 100016) rfl rfl (by decide))).trans h_305
          have h_365 : M_352 ra = some (.inl (cI, 0, .inl (sp_note0_ra rd2 k nx))) := (fr_359 _ (ne_k h_299 h_306 (i := 1000) (j := 1) rfl rfl (by decide)) (ne_k h_299 h_307 (i := 1000) (j := 10000100) rfl rfl (by decide)) (ne_k h_299 h_308 (i := 1000) (j := 1100) rfl rfl (by decide)) (ne_k h_299 h_309 (i := 1000) (j := 1100) rfl rfl (by decide)) (ne_k h_299 h_310 (i := 1000) (j := 2) rfl rfl (by decide)) (ne_k h_299 h_311 (i := 1000) (j := 100016) rfl rfl (by decide))).trans h_299
          have hp_366 := hp_312.keep (M' := M_352) (fun q e he ht => fr_359 q (ne_p he ht h_306 (j := 1) rfl (by decide)) (ne_p he ht h_307 (j := 10000100) rfl (by decide)) (ne_p he ht h_308 (j := 1100) rfl (by decide)) (ne_p he ht h_309 (j := 1100) rfl (by decide)) (ne_p he ht h_310 (j := 2) rfl (by decide)) (ne_p he ht h_311 (j := 100016) rfl (by decide)))
          have hlo_367 : ∀ k j : Nat, (sp_performing_la ns h2 lo2 (sp_performedBy np dd nx) σ) k = some j → (j : Int) < ns.toInt := perf_lo hlo2
          refine V.wr (pc' := 92) (lv' := [(4, .int (sp_performing ns h2 g (sp_performedBy np dd nx) σ)), (7, .int (sp_performedBy np dd nx)), (6, .int nx), (0, .ref co), (1, .int x), (2, .long steps), (5, .int k)]) (fun hl => lv_istore X.1 X.2.1 d_Course_travel_90 hl (by decide) rfl) ?_
          refine V.rd (pc' := 94) (fun hl => lv_iload X.1 X.2.1 d_Course_travel_92 (lv_at hl 0 rfl)) ?_
          refine V.go (pc' := 95) (lv_iconst (v := (-1)) X.1 X.2.1 d_Course_travel_94 (by decide)) ?_
          refine V.bn (pc' := 98) (tgt := 106) (P := (sp_performing ns h2 g (sp_performedBy np dd nx) σ) = (-1)) (lv_icmp_ne X.1 X.2.1 d_Course_travel_95 (by decide)) (fun c_368 => ?_) (fun c_368 => ?_)
          · have i_369 := congrArg Int32.toInt c_368
            refine V.rd (pc' := 99) (fun hl => lv_aload_n X.1 X.2.1 d_Course_travel_98 rfl (lv_at hl 3 rfl)) ?_
            refine V.rd (pc' := 101) (fun hl => lv_iload X.1 X.2.1 d_Course_travel_99 (lv_at hl 2 rfl)) ?_
            refine V.callV (pc' := 104) X hK (c_behindDoing  (co := co) (pg := pg) (ce := ce) (pi := pi) (ra := ra) (va := va) (dg := dg) (gg := gg) (tg0 := tg0) (la := la) (pe := pe) (tu := tu) (ln := ln) (en := sp_performing_co_5 en2 ns h2 (sp_performedBy np dd nx) σ) (np := np) (ns := ns) (hh := sp_performing_pi_3 ns h2 g (sp_performedBy np dd nx) σ) (hi := sp_performing_pi_4 ns h2 hi2 g (sp_performedBy np dd nx) σ) (gd := gd) (f := sp_performing_va ns h2 g (sp_performedBy np dd nx) σ) (lo := (sp_performing_la ns h2 lo2 (sp_performedBy np dd nx) σ)) (pd := sp_performing_pe ns h2 pd2 (sp_performedBy np dd nx) nx σ) (ud := sp_performing_tu ns h2 ud2 (sp_performedBy np dd nx) σ) (x := nx)  ne0 h_353 h_360 h_358 h_361 h_363 h_357 h_354 h_355 h_356 hp_366 hσ hlo_367) h_353 rfl (cwG (n := 1) X (mcs wd_163) (mcs wd_164) (mcs wd_165) (mcs wd_92) wd_166 (by decide +kernel) (by decide) (by decide)) rfl rfl (Nat.le_of_ble_eq_true rfl) d_Course_travel_101 ⟨by decide, by decide⟩ rfl (st1 := [.int (lp_behindDoing np gd (sp_performing_la ns h2 lo2 (sp_performedBy np dd nx) σ) (sp_performing_pe ns h2 pd2 (sp_performedBy np dd nx) nx σ) σ 101 nx 0 (sp_performing_va ns h2 g (sp_performedBy np dd nx) σ) (sp_performing_pi_3 ns h2 g (sp_performedBy np dd nx) σ) (sp_performing_tu ns h2 ud2 (sp_performedBy np dd nx) σ))]) rfl (fun M_370 ⟨h_371, h_372, h_373, h_374, fr_375⟩ => ?_)
            have h_376 : M_370 ce = some (.inr (0, [.ref va])) := (fr_375 _ (ne_k h_360 h_353 (i := 0) (j := 1) rfl rfl (by decide)) (ne_k h_360 h_356 (i := 0) (j := 1100) rfl rfl (by decide)) (ne_k h_360 h_358 (i := 0) (j := 100016) rfl rfl (by decide)) (ne_k h_360 h_357 (i := 0) (j := 2) rfl rfl (by decide))).trans h_360
            have h_377 : M_370 pg = some (.inr (3, [.ref dg, .ref gg, .ref tg0, .int np, .int ns])) := (fr_375 _ (ne_k h_361 h_353 (i := 3) (j := 1) rfl rfl (by decide)) (ne_k h_361 h_356 (i := 3) (j := 1100) rfl rfl (by decide)) (ne_k h_361 h_358 (i := 3) (j := 100016) rfl rfl (by decide)) (ne_k h_361 h_357 (i := 3) (j := 2) rfl rfl (by decide))).trans h_361
            have h_378 : M_370 dg = some (.inl (cI, 60, .inl dd)) := (fr_375 _ (ne_k h_362 h_353 (i := 1060) (j := 1) rfl rfl (by decide)) (ne_k h_362 h_356 (i := 1060) (j := 1100) rfl rfl (by decide)) (ne_k h_362 h_358 (i := 1060) (j := 100016) rfl rfl (by decide)) (ne_k h_362 h_357 (i := 1060) (j := 2) rfl rfl (by decide))).trans h_362
            have h_379 : M_370 gg = some (.inl (cI, 60, .inl gd)) := (fr_375 _ (ne_k h_363 h_353 (i := 1060) (j := 1) rfl rfl (by decide)) (ne_k h_363 h_356 (i := 1060) (j := 1100) rfl rfl (by decide)) (ne_k h_363 h_358 (i := 1060) (j := 100016) rfl rfl (by decide)) (ne_k h_363 h_357 (i := 1060) (j := 2) rfl rfl (by decide))).trans h_363
            have h_380 : M_370 tg0 = some (.inl (cQ, 60, .inr (.inr (.inr (.inr (tdOf ns sa)))))) := (fr_375 _ (ne_k h_364 h_353 (i := 10000060) (j := 1) rfl rfl (by decide)) (ne_k h_364 h_356 (i := 10000060) (j := 1100) rfl rfl (by decide)) (ne_k h_364 h_358 (i := 10000060) (j := 100016) rfl rfl (by decide)) (ne_k h_364 h_357 (i := 10000060) (j := 2) rfl rfl (by decide))).trans h_364
            have h_381 : M_370 ra = some (.inl (cI, 0, .inl (sp_note0_ra rd2 k nx))) := (fr_375 _ (ne_k h_365 h_353 (i := 1000) (j := 1) rfl rfl (by decide)) (ne_k h_365 h_356 (i := 1000) (j := 1100) rfl rfl (by decide)) (ne_k h_365 h_358 (i := 1000) (j := 100016) rfl rfl (by decide)) (ne_k h_365 h_357 (i := 1000) (j := 2) rfl rfl (by decide))).trans h_365
            have h_382 : M_370 la = some (.inl (cQ, 100, .inr (.inr (.inr (.inr (lq (sp_performing_la ns h2 lo2 (sp_performedBy np dd nx) σ) sa)))))) := (fr_375 _ (ne_k h_354 h_353 (i := 10000100) (j := 1) rfl rfl (by decide)) (ne_k h_354 h_356 (i := 10000100) (j := 1100) rfl rfl (by decide)) (ne_k h_354 h_358 (i := 10000100) (j := 100016) rfl rfl (by decide)) (ne_k h_354 h_357 (i := 10000100) (j := 2) rfl rfl (by decide))).trans h_354
            have h_383 : M_370 pe = some (.inl (cI, 100, .inl (sp_performing_pe ns h2 pd2 (sp_performedBy np dd nx) nx σ))) := (fr_375 _ (ne_k h_355 h_353 (i := 1100) (j := 1) rfl rfl (by decide)) ne0 (ne_k h_355 h_358 (i := 1100) (j := 100016) rfl rfl (by decide)) (ne_k h_355 h_357 (i := 1100) (j := 2) rfl rfl (by decide))).trans h_355
            have hp_384 := hp_366.keep (M' := M_370) (fun q e he ht => fr_375 q (ne_p he ht h_353 (j := 1) rfl (by decide)) (ne_p he ht h_356 (j := 1100) rfl (by decide)) (ne_p he ht h_358 (j := 100016) rfl (by decide)) (ne_p he ht h_357 (j := 2) rfl (by decide)))
            refine V.wr (pc' := 106) (lv' := [(4, .int (lp_behindDoing np gd (sp_performing_la ns h2 lo2 (sp_performedBy np dd nx) σ) (sp_performing_pe ns h2 pd2 (sp_performedBy np dd nx) nx σ) σ 101 nx 0 (sp_performing_va ns h2 g (sp_performedBy np dd nx) σ) (sp_performing_pi_3 ns h2 g (sp_performedBy np dd nx) σ) (sp_performing_tu ns h2 ud2 (sp_performedBy np dd nx) σ))), (7, .int (sp_performedBy np dd nx)), (6, .int nx), (0, .ref co), (1, .int x), (2, .long steps), (5, .int k)]) (fun hl => lv_istore X.1 X.2.1 d_Course_travel_104 hl (by decide) rfl) ?_
            refine V.wr (pc' := 109) (lv' := [(5, .int (k + 1)), (4, .int (lp_behindDoing np gd (sp_performing_la ns h2 lo2 (sp_performedBy np dd nx) σ) (sp_performing_pe ns h2 pd2 (sp_performedBy np dd nx) nx σ) σ 101 nx 0 (sp_performing_va ns h2 g (sp_performedBy np dd nx) σ) (sp_performing_pi_3 ns h2 g (sp_performedBy np dd nx) σ) (sp_performing_tu ns h2 ud2 (sp_performedBy np dd nx) σ))), (7, .int (sp_performedBy np dd nx)), (6, .int nx), (0, .ref co), (1, .int x), (2, .long steps)]) (fun hl => lv_iinc (k := 6) (v := k + 1) X.1 X.2.1 d_Course_travel_106 hl rfl rfl (by decide) rfl) ?_
            have s_385 : (k + 1).toInt = k.toInt + (1) := i32_add1 (by omega)
            refine V.go (pc' := 31) (lv_goto X.1 X.2.1 d_Course_travel_109 (by decide)) ?_
            refine V.pick [4, 5, 6, 1, 0] rfl ?_
            exact ih_233 n_232 (by omega) () _ _ ⟨(lp_behindDoing np gd (sp_performing_la ns h2 lo2 (sp_performedBy np dd nx) σ) (sp_performing_pe ns h2 pd2 (sp_performedBy np dd nx) nx σ) σ 101 nx 0 (sp_performing_va ns h2 g (sp_performedBy np dd nx) σ) (sp_performing_pi_3 ns h2 g (sp_performedBy np dd nx) σ) (sp_performing_tu ns h2 ud2 (sp_performedBy np dd nx) σ)), (k + 1), (lp_behindDoing_va np gd (sp_performing_la ns h2 lo2 (sp_performedBy np dd nx) σ) (sp_performing_pe ns h2 pd2 (sp_performedBy np dd nx) nx σ) σ 101 nx 0 (sp_performing_va ns h2 g (sp_performedBy np dd nx) σ) (sp_performing_pi_3 ns h2 g (sp_performedBy np dd nx) σ) (sp_performing_tu ns h2 ud2 (sp_performedBy np dd nx) σ)), (lp_behindDoing_pi_3 np gd (sp_performing_la ns h2 lo2 (sp_performedBy np dd nx) σ) (sp_performing_pe ns h2 pd2 (sp_performedBy np dd nx) nx σ) σ 101 nx 0 (sp_performing_va ns h2 g (sp_performedBy np dd nx) σ) (sp_performing_pi_3 ns h2 g (sp_performedBy np dd nx) σ) (sp_performing_tu ns h2 ud2 (sp_performedBy np dd nx) σ)), (sp_performing_pi_4 ns h2 hi2 g (sp_performedBy np dd nx) σ), (lp_behindDoing_co_5 (sp_performing_co_5 en2 ns h2 (sp_performedBy np dd nx) σ) np gd (sp_performing_la ns h2 lo2 (sp_performedBy np dd nx) σ) (sp_performing_pe ns h2 pd2 (sp_performedBy np dd nx) nx σ) σ 101 nx 0 (sp_performing_va ns h2 g (sp_performedBy np dd nx) σ) (sp_performing_pi_3 ns h2 g (sp_performedBy np dd nx) σ) (sp_performing_tu ns h2 ud2 (sp_performedBy np dd nx) σ)), (lp_behindDoing_tu np gd (sp_performing_la ns h2 lo2 (sp_performedBy np dd nx) σ) (sp_performing_pe ns h2 pd2 (sp_performedBy np dd nx) nx σ) σ 101 nx 0 (sp_performing_va ns h2 g (sp_performedBy np dd nx) σ) (sp_performing_pi_3 ns h2 g (sp_performedBy np dd nx) σ) (sp_performing_tu ns h2 ud2 (sp_performedBy np dd nx) σ)), (sp_performing_pe ns h2 pd2 (sp_performedBy np dd nx) nx σ), (sp_performing_la ns h2 lo2 (sp_performedBy np dd nx) σ), (sp_note0_ra rd2 k nx), rfl, h_376, h_377, h_378, h_379, h_380, h_381, h_371, h_382, h_383, h_372, h_374, h_373, hp_384, (fun q n0_ n1_ n2_ n3_ n4_ n5_ n6_ => (fr_375 q n2_ n3_ n0_ n1_).trans ((fr_359 q n2_ n5_ n4_ n3_ n1_ n0_).trans ((fr_300 q n6_).trans ((fr_236 q n0_ n1_ n2_ n3_ n4_ n5_ n6_))))), (by omega), (by omega), hlo_367, (by rw [← e_238, lp_travel0]; simp only [if_neg c_248, if_neg c_266, if_neg c_314, if_pos c_368]), (by rw [← e_239, lp_travel0_pi_3]; simp only [if_neg c_248, if_neg c_266, if_neg c_314, if_pos c_368]), (by rw [← e_240, lp_travel0_pi_4]; simp only [if_neg c_248, if_neg c_266, if_neg c_314, if_pos c_368]), (by rw [← e_241, lp_travel0_co_4]; simp only [if_neg c_248, if_neg c_266, if_neg c_314, if_pos c_368]), (by rw [← e_242, lp_travel0_co_5]; simp only [if_neg c_248, if_neg c_266, if_neg c_314, if_pos c_368]), (by rw [← e_243, lp_travel0_la]; simp only [if_neg c_248, if_neg c_266, if_neg c_314, if_pos c_368]), (by rw [← e_244, lp_travel0_pe]; simp only [if_neg c_248, if_neg c_266, if_neg c_314, if_pos c_368]), (by rw [← e_245, lp_travel0_tu]; simp only [if_neg c_248, if_neg c_266, if_neg c_314, if_pos c_368]), (by rw [← e_246, lp_travel0_va]; simp only [if_neg c_248, if_neg c_266, if_neg c_314, if_pos c_368]), (by rw [← e_247, lp_travel0_ra]; simp only [if_neg c_248, if_neg c_266, if_neg c_314, if_pos c_368])⟩
          · have i_386 := mt Int32.toInt_inj.mp c_368
            refine V.wr (pc' := 109) (lv' := [(5, .int (k + 1)), (4, .int (sp_performing ns h2 g (sp_performedBy np dd nx) σ)), (7, .int (sp_performedBy np dd nx)), (6, .int nx), (0, .ref co), (1, .int x), (2, .long steps)]) (fun hl => lv_iinc (k := 6) (v := k + 1) X.1 X.2.1 d_Course_travel_106 hl rfl rfl (by decide) rfl) ?_
            have s_387 : (k + 1).toInt = k.toInt + (1) := i32_add1 (by omega)
            refine V.go (pc' := 31) (lv_goto X.1 X.2.1 d_Course_travel_109 (by decide)) ?_
            refine V.pick [4, 5, 6, 1, 0] rfl ?_
            exact ih_233 n_232 (by omega) () _ _ ⟨(sp_performing ns h2 g (sp_performedBy np dd nx) σ), (k + 1), (sp_performing_va ns h2 g (sp_performedBy np dd nx) σ), (sp_performing_pi_3 ns h2 g (sp_performedBy np dd nx) σ), (sp_performing_pi_4 ns h2 hi2 g (sp_performedBy np dd nx) σ), (sp_performing_co_5 en2 ns h2 (sp_performedBy np dd nx) σ), (sp_performing_tu ns h2 ud2 (sp_performedBy np dd nx) σ), (sp_performing_pe ns h2 pd2 (sp_performedBy np dd nx) nx σ), (sp_performing_la ns h2 lo2 (sp_performedBy np dd nx) σ), (sp_note0_ra rd2 k nx), rfl, h_360, h_361, h_362, h_363, h_364, h_365, h_353, h_354, h_355, h_356, h_357, h_358, hp_366, (fun q n0_ n1_ n2_ n3_ n4_ n5_ n6_ => (fr_359 q n2_ n5_ n4_ n3_ n1_ n0_).trans ((fr_300 q n6_).trans ((fr_236 q n0_ n1_ n2_ n3_ n4_ n5_ n6_)))), (by omega), (by omega), hlo_367, (by rw [← e_238, lp_travel0]; simp only [if_neg c_248, if_neg c_266, if_neg c_314, if_neg c_368]), (by rw [← e_239, lp_travel0_pi_3]; simp only [if_neg c_248, if_neg c_266, if_neg c_314, if_neg c_368]), (by rw [← e_240, lp_travel0_pi_4]; simp only [if_neg c_248, if_neg c_266, if_neg c_314, if_neg c_368]), (by rw [← e_241, lp_travel0_co_4]; simp only [if_neg c_248, if_neg c_266, if_neg c_314, if_neg c_368]), (by rw [← e_242, lp_travel0_co_5]; simp only [if_neg c_248, if_neg c_266, if_neg c_314, if_neg c_368]), (by rw [← e_243, lp_travel0_la]; simp only [if_neg c_248, if_neg c_266, if_neg c_314, if_neg c_368]), (by rw [← e_244, lp_travel0_pe]; simp only [if_neg c_248, if_neg c_266, if_neg c_314, if_neg c_368]), (by rw [← e_245, lp_travel0_tu]; simp only [if_neg c_248, if_neg c_266, if_neg c_314, if_neg c_368]), (by rw [← e_246, lp_travel0_va]; simp only [if_neg c_248, if_neg c_266, if_neg c_314, if_neg c_368]), (by rw [← e_247, lp_travel0_ra]; simp only [if_neg c_248, if_neg c_266, if_neg c_314, if_neg c_368])⟩

theorem d_Course_ranAs_0 : decode prog_3_method_3_code 0 = .ok (.iload_n 1, 1) := by decide +kernel
theorem d_Course_ranAs_1 : decode prog_3_method_3_code 1 = .ok (.ifCond .lt 29, 3) := by decide +kernel
theorem d_Course_ranAs_4 : decode prog_3_method_3_code 4 = .ok (.iload_n 1, 1) := by decide +kernel
theorem d_Course_ranAs_5 : decode prog_3_method_3_code 5 = .ok (.aload_n 0, 1) := by decide +kernel
theorem d_Course_ranAs_6 : decode prog_3_method_3_code 6 = .ok (.getfield 63, 3) := by decide +kernel
theorem d_Course_ranAs_9 : decode prog_3_method_3_code 9 = .ok (.if_icmp .ge 21, 3) := by decide +kernel
theorem d_Course_ranAs_12 : decode prog_3_method_3_code 12 = .ok (.iload_n 1, 1) := by decide +kernel
theorem d_Course_ranAs_13 : decode prog_3_method_3_code 13 = .ok (.aload_n 0, 1) := by decide +kernel
theorem d_Course_ranAs_14 : decode prog_3_method_3_code 14 = .ok (.getfield 33, 3) := by decide +kernel
theorem d_Course_ranAs_17 : decode prog_3_method_3_code 17 = .ok (.arraylength, 1) := by decide +kernel
theorem d_Course_ranAs_18 : decode prog_3_method_3_code 18 = .ok (.if_icmp .ge 12, 3) := by decide +kernel
theorem d_Course_ranAs_21 : decode prog_3_method_3_code 21 = .ok (.aload_n 0, 1) := by decide +kernel
theorem d_Course_ranAs_22 : decode prog_3_method_3_code 22 = .ok (.getfield 33, 3) := by decide +kernel
theorem d_Course_ranAs_25 : decode prog_3_method_3_code 25 = .ok (.iload_n 1, 1) := by decide +kernel
theorem d_Course_ranAs_26 : decode prog_3_method_3_code 26 = .ok (.iaload, 1) := by decide +kernel
theorem d_Course_ranAs_27 : decode prog_3_method_3_code 27 = .ok (.goto 4, 3) := by decide +kernel
theorem d_Course_ranAs_30 : decode prog_3_method_3_code 30 = .ok (.iconst 0, 1) := by decide +kernel
theorem d_Course_ranAs_31 : decode prog_3_method_3_code 31 = .ok (.ireturn, 1) := by decide +kernel

def sp_ranAs (ln : Int32) (rd : Nat → Int32) (x : Int32) : Int32 := if x < 0 then 0 else if ln ≤ x then 0 else if 4096 ≤ x then 0 else rd x.toNatClampNeg
set_option maxHeartbeats 4000000 in
set_option maxRecDepth 100000 in
theorem c_ranAs {l : Launch} {H0 : Heap} {D : va_G} {cI cL cQ cB : ClassId} {M : mp} {co pg ce pi ra : Nat} {ln : Int32} {en : Int32} {rd : Nat → Int32} {x : Int32} (gh0 : M co = some (.inr (1, [.ref pg, .ref ce, .ref pi, .ref ra, .int ln, .int en]))) (gh1 : M ra = some (.inl (cI, 4096, .inl rd))) : MC l H0 D cls7 (tysOf cI cL cQ cB) NW ({ cls := "PerformRanges$Course", name := "ranAs", desc := "(I)I" } : Jvm.MethodName) (Cond.code ({ cls := "PerformRanges$Course", name := "ranAs", desc := "(I)I" } : Jvm.MethodName) prog_3_method_3_code 2 (Option.some Jvm.ClassFile.FieldType.int) :: GW) ({ frames := 0, cells := 0, slots := 0, locals := 0 }) [.ref co, .int x] M (fun v M' => v = some (.int (sp_ranAs ln rd x)) ∧ M' = M) := by
  refine MC.of (cc := prog_3_method_3_code) (nL := 2) (ret := (Option.some Jvm.ClassFile.FieldType.int)) (lv := [(0, .ref co), (1, .int x)]) (by decide) rfl (Nat.le_of_ble_eq_true rfl) rfl ?_
  intro p e s m below meth c X hr hlk hnm hK
  have k0 : (0 : Int32).toInt = 0 := rfl
  refine V.rd (pc' := 1) (fun hl => lv_iload_n X.1 X.2.1 d_Course_ranAs_0 rfl (lv_at hl 1 rfl)) ?_
  refine V.br (pc' := 4) (tgt := 30) (P := x < 0) (lv_if_lt X.1 X.2.1 d_Course_ranAs_1 (by decide)) (fun c_1 => ?_) (fun c_1 => ?_)
  · have i_2 := Int32.lt_iff_toInt_lt.mp c_1
    refine V.go (pc' := 31) (lv_iconst (v := 0) X.1 X.2.1 d_Course_ranAs_30 (by decide)) ?_
    exact V.iret X hr hlk ⟨(by simp only [sp_ranAs, if_pos c_1]), rfl⟩ d_Course_ranAs_31
  · have i_3 := mt Int32.lt_iff_toInt_lt.mpr c_1
    refine V.rd (pc' := 5) (fun hl => lv_iload_n X.1 X.2.1 d_Course_ranAs_4 rfl (lv_at hl 1 rfl)) ?_
    refine V.rd (pc' := 6) (fun hl => lv_aload_n X.1 X.2.1 d_Course_ranAs_5 rfl (lv_at hl 0 rfl)) ?_
    refine V.get (pc' := 9) X hK gh0 uw_Course rfl 4 (by decide) (mcs wd_150) rfl d_Course_ranAs_6 rfl ?_
    refine V.br (pc' := 12) (tgt := 30) (P := ln ≤ x) (lv_icmp_ge X.1 X.2.1 d_Course_ranAs_9 (by decide)) (fun c_4 => ?_) (fun c_4 => ?_)
    · have i_5 := Int32.le_iff_toInt_le.mp c_4
      refine V.go (pc' := 31) (lv_iconst (v := 0) X.1 X.2.1 d_Course_ranAs_30 (by decide)) ?_
      exact V.iret X hr hlk ⟨(by simp only [sp_ranAs, if_neg c_1, if_pos c_4]), rfl⟩ d_Course_ranAs_31
    · have i_6 := mt Int32.le_iff_toInt_le.mpr c_4
      refine V.rd (pc' := 13) (fun hl => lv_iload_n X.1 X.2.1 d_Course_ranAs_12 rfl (lv_at hl 1 rfl)) ?_
      refine V.rd (pc' := 14) (fun hl => lv_aload_n X.1 X.2.1 d_Course_ranAs_13 rfl (lv_at hl 0 rfl)) ?_
      refine V.get (pc' := 17) X hK gh0 uw_Course rfl 3 (by decide) (mcs wd_141) rfl d_Course_ranAs_14 rfl ?_
      have k_7 : (4096 : Int32).toInt = 4096 := rfl
      refine V.alen (pc' := 18) X hK 0 gh1 rfl (v := 4096) rfl d_Course_ranAs_17 rfl ?_
      refine V.br (pc' := 21) (tgt := 30) (P := 4096 ≤ x) (lv_icmp_ge X.1 X.2.1 d_Course_ranAs_18 (by decide)) (fun c_8 => ?_) (fun c_8 => ?_)
      · have i_9 := Int32.le_iff_toInt_le.mp c_8
        refine V.go (pc' := 31) (lv_iconst (v := 0) X.1 X.2.1 d_Course_ranAs_30 (by decide)) ?_
        exact V.iret X hr hlk ⟨(by simp only [sp_ranAs, if_neg c_1, if_neg c_4, if_pos c_8]), rfl⟩ d_Course_ranAs_31
      · have i_10 := mt Int32.le_iff_toInt_le.mpr c_8
        refine V.rd (pc' := 22) (fun hl => lv_aload_n X.1 X.2.1 d_Course_ranAs_21 rfl (lv_at hl 0 rfl)) ?_
        refine V.get (pc' := 25) X hK gh0 uw_Course rfl 3 (by decide) (mcs wd_141) rfl d_Course_ranAs_22 rfl ?_
        refine V.rd (pc' := 26) (fun hl => lv_iload_n X.1 X.2.1 d_Course_ranAs_25 rfl (lv_at hl 1 rfl)) ?_
        refine V.iald (pc' := 27) X hK 0 gh1 rfl (vin (by omega) (by omega)) d_Course_ranAs_26 rfl ?_
        refine V.go (pc' := 31) (lv_goto X.1 X.2.1 d_Course_ranAs_27 (by decide)) ?_
        exact V.iret X hr hlk ⟨(by simp only [sp_ranAs, if_neg c_1, if_neg c_4, if_neg c_8]), rfl⟩ d_Course_ranAs_31
end
section
section VZ
variable {p : Program} {l : Launch} {e : Env} {R : Room} {s : State} {m : MethodId} {args : Array Value} {below : List Frame} {meth : Method} {c : Code} {H0 : Heap} {D : va_G} {cl : List vw_C} {tys : List (ClassId × FieldType)} {NW : List Cond} {Q : State → Prop} {nL : Nat} {M : mp} {cells slots pc pc' : Nat} {lv : List (Nat × Value)} {st : List Value} {cc : ByteArray} {own : String} {Ts : List Cond}
theorem V.zald (X : CallFix p m c cc nL s args Ts own) (hK : KK D cl tys NW s) (t0 : Nat) {cA : ClassId} {a n : Nat} {f : Nat → Int32} (ha : M a = some (.inl (cA, n, .inl f))) (ht : tys[t0]? = some (cA, .boolean)) {i : Int32} (hin : vp_in i n) (hdg : decode cc pc = .ok (.baload, 1)) (hpc : pc + 1 = pc')
    (kk : V p l e R s m args below meth c H0 D cl Q nL M cells slots pc' lv (.int (f i.toNatClampNeg) :: st)) : V p l e R s m args below meth c H0 D cl Q nL M cells slots pc lv (.int i :: .ref a :: st) := by
  subst hpc
  intro H locs ls hH hL hl
  exact va_zald X.1 X.2.1 hK.1 (hH.one ha) 0 t0 rfl ht hin hdg (kk H locs ls hH hL hl)
theorem V.zast (X : CallFix p m c cc nL s args Ts own) (hK : KK D cl tys NW s) (t0 : Nat) {cA : ClassId} {a n : Nat} {f : Nat → Int32} (ha : M a = some (.inl (cA, n, .inl f))) (ht : tys[t0]? = some (cA, .boolean)) {i x : Int32} (hin : vp_in i n) (hx : x = 0 ∨ x = 1) (hdg : decode cc pc = .ok (.bastore, 1)) (hpc : pc + 1 = pc')
    (kk : ∀ M' : mp, M' a = some (.inl (cA, n, .inl (upd f i.toNatClampNeg x))) → (∀ q, q ≠ a → M' q = M q) → V p l e R s m args below meth c H0 D cl Q nL M' cells slots pc' lv st) : V p l e R s m args below meth c H0 D cl Q nL M cells slots pc lv (.int x :: .int i :: .ref a :: st) := by
  subst hpc
  intro H locs ls hH hL hl
  obtain ⟨hB, hat⟩ := hH.2.2 a _ ha
  refine W.zast X.1 X.2.1 hat ((hK.1.2 t0 _ ht).1 n (fun j => .int (f j))) (fun q => by cases q) (by show ¬ (i < 0 ∨ (arrV _ _ _).slots.size ≤ _); rw [arrV_size]; exact hin) rfl rfl hdg fun H1 e1 z oq => ?_
  refine kk _ (va_up_self _ _ _) (fun q h => va_up_ne _ _ h) H1 _ ls (hH.set ha z oq ?_) (hL_app hL hB) hl
  show H1[a]? = some (vp_cell _ _)
  rw [e1, nb_ok hx]
  rw [vp_cell_i, vp_cell_i, arrV_store]
  congr 2
  funext q
  by_cases hq : q = i.toNatClampNeg
  · subst hq
    simp [updV, upd]
  · simp [updV, upd, hq]
end VZ
theorem ad_ne {ad : Nat → Nat} (h : ∀ i j : Nat, i < 33 → j < 33 → ad i = ad j → i = j) {i j : Nat} (hi : i < 33) (hj : j < 33) (n : i ≠ j) : ad i ≠ ad j := fun e => n (h i j hi hj e)
theorem i32_add {x y : Int32} (h1 : -2147483648 ≤ x.toInt + y.toInt) (h2 : x.toInt + y.toInt ≤ 2147483647) : (x + y).toInt = x.toInt + y.toInt := by
  rw [Int32.toInt_add]
  exact Int.bmod_eq_of_le (by omega) (by omega)
theorem i32_sub {x y : Int32} (h1 : -2147483648 ≤ x.toInt - y.toInt) (h2 : x.toInt - y.toInt ≤ 2147483647) : (x - y).toInt = x.toInt - y.toInt := by
  rw [Int32.toInt_sub]
  exact Int.bmod_eq_of_le (by omega) (by omega)
theorem i32_mul8 {x : Int32} (h1 : -268435456 ≤ x.toInt) (h2 : x.toInt ≤ 268435455) : (8 * x).toInt = 8 * x.toInt := by
  rw [Int32.toInt_mul, show (8 : Int32).toInt = 8 from rfl]
  exact Int.bmod_eq_of_le (by omega) (by omega)
theorem i32_divk {x y : Int32} (h : 0 ≤ x.toInt) (hy : 0 < y.toInt) : (x / y).toInt = x.toInt / y.toInt := lg_idiv_nonneg h hy
theorem i32_remk {x y : Int32} (h : 0 ≤ x.toInt) (hy : 0 < y.toInt) : (x - x / y * y).toInt = x.toInt % y.toInt := by
  have h1 := Int32.toInt_lt x
  have e1 := i32_divk h hy
  have e3 : x.toInt / y.toInt * y.toInt ≤ x.toInt := Int.ediv_mul_le _ (by omega)
  have e4 : 0 ≤ x.toInt / y.toInt * y.toInt := Int.mul_nonneg (Int.ediv_nonneg h (by omega)) (by omega)
  have e2 : (x / y * y).toInt = x.toInt / y.toInt * y.toInt := by
    rw [Int32.toInt_mul, e1]
    exact Int.bmod_eq_of_le (by omega) (by omega)
  rw [i32_sub (by omega) (by omega), e2, Int.emod_def, Int.mul_comm]
theorem i32_rem16 {x : Int32} (h : 0 ≤ x.toInt) : (x - x / 16 * 16).toInt = x.toInt % 16 := i32_remk h (by decide)
theorem i32_rem8 {x : Int32} (h : 0 ≤ x.toInt) : (x - x / 8 * 8).toInt = x.toInt % 8 := i32_remk h (by decide)
theorem i32_div8 {x : Int32} (h : 0 ≤ x.toInt) : (x / 8).toInt = x.toInt / 8 := i32_divk h (by decide)
theorem i32_div128 {x : Int32} (h : 0 ≤ x.toInt) : (x / 128).toInt = x.toInt / 128 := i32_divk h (by decide)
end
