section
-- ===== PART A: goes FIRST, ahead of the names: the tables' words, and 'selects' of the private methods out of them =====
/-- a private method of a class that the tables say can be made, by its rows of tables_1 -/
def lw_okq (q : MethodName × Nat) : Prop := (q.1.cls ≠ "java/lang/invoke/MethodHandle" ∧ q.1.cls ≠ "java/lang/invoke/VarHandle") ∧ Cond.instantiable q.1.cls q.2 ∈ tables_1 ∧ Cond.privateMethod q.1 ∈ tables_1 ∧ Cond.instanceMethod q.1 ∈ tables_1
theorem lw_p0 : lw_okq (⟨"PerformRanges", "canBeRun", "(IJ)Z"⟩, 3) := ⟨⟨by decide +kernel, by decide +kernel⟩, List.mem_of_getElem? (i := 14) (by decide +kernel), List.mem_of_getElem? (i := 233) (by decide +kernel), List.mem_of_getElem? (i := 234) (by decide +kernel)⟩
theorem lw_p1 : lw_okq (⟨"PerformRanges$Course", "performing", "(II)I"⟩, 6) := ⟨⟨by decide +kernel, by decide +kernel⟩, List.mem_of_getElem? (i := 49) (by decide +kernel), List.mem_of_getElem? (i := 255) (by decide +kernel), List.mem_of_getElem? (i := 256) (by decide +kernel)⟩
theorem lw_p2 : lw_okq (⟨"PerformRanges$Course", "end", "(I)I"⟩, 6) := ⟨⟨by decide +kernel, by decide +kernel⟩, List.mem_of_getElem? (i := 49) (by decide +kernel), List.mem_of_getElem? (i := 260) (by decide +kernel), List.mem_of_getElem? (i := 261) (by decide +kernel)⟩
theorem lw_p3 : lw_okq (⟨"PerformRanges$Statement", "holds", "(ILPerformRanges$Cells;)Z"⟩, 12) := ⟨⟨by decide +kernel, by decide +kernel⟩, List.mem_of_getElem? (i := 143) (by decide +kernel), List.mem_of_getElem? (i := 278) (by decide +kernel), List.mem_of_getElem? (i := 279) (by decide +kernel)⟩
theorem lw_p4 : lw_okq (⟨"PerformRanges$Statement", "takeFirstValues", "(ILPerformRanges$Cells;)V"⟩, 12) := ⟨⟨by decide +kernel, by decide +kernel⟩, List.mem_of_getElem? (i := 143) (by decide +kernel), List.mem_of_getElem? (i := 286) (by decide +kernel), List.mem_of_getElem? (i := 287) (by decide +kernel)⟩
theorem lw_p5 : lw_okq (⟨"PerformRanges$Statement", "findsTurn", "(LPerformRanges$Cells;)Z"⟩, 12) := ⟨⟨by decide +kernel, by decide +kernel⟩, List.mem_of_getElem? (i := 143) (by decide +kernel), List.mem_of_getElem? (i := 294) (by decide +kernel), List.mem_of_getElem? (i := 295) (by decide +kernel)⟩
theorem lw_p6 : lw_okq (⟨"PerformRanges$Statement", "firstLevelThatHolds", "(LPerformRanges$Cells;)I"⟩, 12) := ⟨⟨by decide +kernel, by decide +kernel⟩, List.mem_of_getElem? (i := 143) (by decide +kernel), List.mem_of_getElem? (i := 298) (by decide +kernel), List.mem_of_getElem? (i := 299) (by decide +kernel)⟩
theorem lw_p7 : lw_okq (⟨"PerformRanges$Statement", "takeStep", "(ILPerformRanges$Cells;)V"⟩, 12) := ⟨⟨by decide +kernel, by decide +kernel⟩, List.mem_of_getElem? (i := 143) (by decide +kernel), List.mem_of_getElem? (i := 302) (by decide +kernel), List.mem_of_getElem? (i := 303) (by decide +kernel)⟩
theorem lw_p8 : lw_okq (⟨"PerformRanges$Course", "note", "(II)V"⟩, 6) := ⟨⟨by decide +kernel, by decide +kernel⟩, List.mem_of_getElem? (i := 49) (by decide +kernel), List.mem_of_getElem? (i := 314) (by decide +kernel), List.mem_of_getElem? (i := 315) (by decide +kernel)⟩
theorem lw_p9 : lw_okq (⟨"PerformRanges$Course", "doing", "(I)I"⟩, 6) := ⟨⟨by decide +kernel, by decide +kernel⟩, List.mem_of_getElem? (i := 49) (by decide +kernel), List.mem_of_getElem? (i := 326) (by decide +kernel), List.mem_of_getElem? (i := 327) (by decide +kernel)⟩
theorem lw_p10 : lw_okq (⟨"PerformRanges$Course", "going", "(I)I"⟩, 6) := ⟨⟨by decide +kernel, by decide +kernel⟩, List.mem_of_getElem? (i := 49) (by decide +kernel), List.mem_of_getElem? (i := 332) (by decide +kernel), List.mem_of_getElem? (i := 333) (by decide +kernel)⟩
theorem lw_p11 : lw_okq (⟨"PerformRanges$Course", "behindDoing", "(I)I"⟩, 6) := ⟨⟨by decide +kernel, by decide +kernel⟩, List.mem_of_getElem? (i := 49) (by decide +kernel), List.mem_of_getElem? (i := 339) (by decide +kernel), List.mem_of_getElem? (i := 340) (by decide +kernel)⟩
theorem lw_p12 : lw_okq (⟨"PerformRanges$Course", "falling", "(I)I"⟩, 6) := ⟨⟨by decide +kernel, by decide +kernel⟩, List.mem_of_getElem? (i := 49) (by decide +kernel), List.mem_of_getElem? (i := 351) (by decide +kernel), List.mem_of_getElem? (i := 352) (by decide +kernel)⟩
theorem lw_p13 : lw_okq (⟨"PerformRanges$Statement", "stepsLastOpenLevel", "(LPerformRanges$Cells;)Z"⟩, 12) := ⟨⟨by decide +kernel, by decide +kernel⟩, List.mem_of_getElem? (i := 143) (by decide +kernel), List.mem_of_getElem? (i := 363) (by decide +kernel), List.mem_of_getElem? (i := 364) (by decide +kernel)⟩
theorem lw_p14 : lw_okq (⟨"java/lang/Throwable", "fillInStackTrace", "(I)Ljava/lang/Throwable;"⟩, 6) := ⟨⟨by decide +kernel, by decide +kernel⟩, List.mem_of_getElem? (i := 439) (by decide +kernel), List.mem_of_getElem? (i := 437) (by decide +kernel), List.mem_of_getElem? (i := 438) (by decide +kernel)⟩
theorem lw_p15 : lw_okq (⟨"PerformRangesModel", "isParagraph", "(I)Z"⟩, 33) := ⟨⟨by decide +kernel, by decide +kernel⟩, List.mem_of_getElem? (i := 478) (by decide +kernel), List.mem_of_getElem? (i := 597) (by decide +kernel), List.mem_of_getElem? (i := 598) (by decide +kernel)⟩
def lw_privs_1 : List (MethodName × Nat) := [(⟨"PerformRanges", "canBeRun", "(IJ)Z"⟩, 3), (⟨"PerformRanges$Course", "performing", "(II)I"⟩, 6), (⟨"PerformRanges$Course", "end", "(I)I"⟩, 6), (⟨"PerformRanges$Statement", "holds", "(ILPerformRanges$Cells;)Z"⟩, 12), (⟨"PerformRanges$Statement", "takeFirstValues", "(ILPerformRanges$Cells;)V"⟩, 12), (⟨"PerformRanges$Statement", "findsTurn", "(LPerformRanges$Cells;)Z"⟩, 12), (⟨"PerformRanges$Statement", "firstLevelThatHolds", "(LPerformRanges$Cells;)I"⟩, 12), (⟨"PerformRanges$Statement", "takeStep", "(ILPerformRanges$Cells;)V"⟩, 12), (⟨"PerformRanges$Course", "note", "(II)V"⟩, 6), (⟨"PerformRanges$Course", "doing", "(I)I"⟩, 6), (⟨"PerformRanges$Course", "going", "(I)I"⟩, 6), (⟨"PerformRanges$Course", "behindDoing", "(I)I"⟩, 6), (⟨"PerformRanges$Course", "falling", "(I)I"⟩, 6), (⟨"PerformRanges$Statement", "stepsLastOpenLevel", "(LPerformRanges$Cells;)Z"⟩, 12), (⟨"java/lang/Throwable", "fillInStackTrace", "(I)Ljava/lang/Throwable;"⟩, 6), (⟨"PerformRangesModel", "isParagraph", "(I)Z"⟩, 33)]
theorem lw_r1 : ∀ q ∈ lw_privs_1, lw_okq q := List.forall_mem_cons.mpr ⟨lw_p0, List.forall_mem_cons.mpr ⟨lw_p1, List.forall_mem_cons.mpr ⟨lw_p2, List.forall_mem_cons.mpr ⟨lw_p3, List.forall_mem_cons.mpr ⟨lw_p4, List.forall_mem_cons.mpr ⟨lw_p5, List.forall_mem_cons.mpr ⟨lw_p6, List.forall_mem_cons.mpr ⟨lw_p7, List.forall_mem_cons.mpr ⟨lw_p8, List.forall_mem_cons.mpr ⟨lw_p9, List.forall_mem_cons.mpr ⟨lw_p10, List.forall_mem_cons.mpr ⟨lw_p11, List.forall_mem_cons.mpr ⟨lw_p12, List.forall_mem_cons.mpr ⟨lw_p13, List.forall_mem_cons.mpr ⟨lw_p14, List.forall_mem_cons.mpr ⟨lw_p15, fun _ h => absurd h List.not_mem_nil⟩⟩⟩⟩⟩⟩⟩⟩⟩⟩⟩⟩⟩⟩⟩⟩
theorem lw_p16 : lw_okq (⟨"PerformRangesModel", "isStatement", "(I)Z"⟩, 33) := ⟨⟨by decide +kernel, by decide +kernel⟩, List.mem_of_getElem? (i := 478) (by decide +kernel), List.mem_of_getElem? (i := 605) (by decide +kernel), List.mem_of_getElem? (i := 606) (by decide +kernel)⟩
theorem lw_p17 : lw_okq (⟨"PerformRangesModel", "isRun", "(IJ)Z"⟩, 33) := ⟨⟨by decide +kernel, by decide +kernel⟩, List.mem_of_getElem? (i := 478) (by decide +kernel), List.mem_of_getElem? (i := 624) (by decide +kernel), List.mem_of_getElem? (i := 625) (by decide +kernel)⟩
theorem lw_p18 : lw_okq (⟨"PerformRangesModel", "isWhole", "(I)Z"⟩, 33) := ⟨⟨by decide +kernel, by decide +kernel⟩, List.mem_of_getElem? (i := 478) (by decide +kernel), List.mem_of_getElem? (i := 628) (by decide +kernel), List.mem_of_getElem? (i := 629) (by decide +kernel)⟩
theorem lw_p19 : lw_okq (⟨"PerformRangesModel", "machine", "(IJ)V"⟩, 33) := ⟨⟨by decide +kernel, by decide +kernel⟩, List.mem_of_getElem? (i := 478) (by decide +kernel), List.mem_of_getElem? (i := 633) (by decide +kernel), List.mem_of_getElem? (i := 634) (by decide +kernel)⟩
theorem lw_p20 : lw_okq (⟨"PerformRangesModel", "enter", "(II)I"⟩, 33) := ⟨⟨by decide +kernel, by decide +kernel⟩, List.mem_of_getElem? (i := 478) (by decide +kernel), List.mem_of_getElem? (i := 637) (by decide +kernel), List.mem_of_getElem? (i := 638) (by decide +kernel)⟩
theorem lw_p21 : lw_okq (⟨"PerformRangesModel", "again", "(Z)I"⟩, 33) := ⟨⟨by decide +kernel, by decide +kernel⟩, List.mem_of_getElem? (i := 478) (by decide +kernel), List.mem_of_getElem? (i := 641) (by decide +kernel), List.mem_of_getElem? (i := 642) (by decide +kernel)⟩
theorem lw_p22 : lw_okq (⟨"PerformRangesModel", "goesAgain", "(Z)Z"⟩, 33) := ⟨⟨by decide +kernel, by decide +kernel⟩, List.mem_of_getElem? (i := 478) (by decide +kernel), List.mem_of_getElem? (i := 645) (by decide +kernel), List.mem_of_getElem? (i := 646) (by decide +kernel)⟩
theorem lw_p23 : lw_okq (⟨"PerformRangesModel", "holds", "(II)Z"⟩, 33) := ⟨⟨by decide +kernel, by decide +kernel⟩, List.mem_of_getElem? (i := 478) (by decide +kernel), List.mem_of_getElem? (i := 649) (by decide +kernel), List.mem_of_getElem? (i := 650) (by decide +kernel)⟩
theorem lw_p24 : lw_okq (⟨"PerformRangesModel", "begin", "(II)V"⟩, 33) := ⟨⟨by decide +kernel, by decide +kernel⟩, List.mem_of_getElem? (i := 478) (by decide +kernel), List.mem_of_getElem? (i := 653) (by decide +kernel), List.mem_of_getElem? (i := 654) (by decide +kernel)⟩
theorem lw_p25 : lw_okq (⟨"PerformRangesModel", "goesBehind", "(I)Z"⟩, 33) := ⟨⟨by decide +kernel, by decide +kernel⟩, List.mem_of_getElem? (i := 478) (by decide +kernel), List.mem_of_getElem? (i := 657) (by decide +kernel), List.mem_of_getElem? (i := 658) (by decide +kernel)⟩
theorem lw_p26 : lw_okq (⟨"PerformRangesModel", "goOn", "(II)V"⟩, 33) := ⟨⟨by decide +kernel, by decide +kernel⟩, List.mem_of_getElem? (i := 478) (by decide +kernel), List.mem_of_getElem? (i := 661) (by decide +kernel), List.mem_of_getElem? (i := 662) (by decide +kernel)⟩
theorem lw_p27 : lw_okq (⟨"PerformRangesModel", "goesAhead", "(I)Z"⟩, 33) := ⟨⟨by decide +kernel, by decide +kernel⟩, List.mem_of_getElem? (i := 478) (by decide +kernel), List.mem_of_getElem? (i := 665) (by decide +kernel), List.mem_of_getElem? (i := 666) (by decide +kernel)⟩
theorem lw_p28 : lw_okq (⟨"PerformRangesModel", "doing", "(I)I"⟩, 33) := ⟨⟨by decide +kernel, by decide +kernel⟩, List.mem_of_getElem? (i := 478) (by decide +kernel), List.mem_of_getElem? (i := 669) (by decide +kernel), List.mem_of_getElem? (i := 670) (by decide +kernel)⟩
theorem lw_p29 : lw_okq (⟨"PerformRangesModel", "behind", "(I)I"⟩, 33) := ⟨⟨by decide +kernel, by decide +kernel⟩, List.mem_of_getElem? (i := 478) (by decide +kernel), List.mem_of_getElem? (i := 673) (by decide +kernel), List.mem_of_getElem? (i := 674) (by decide +kernel)⟩
def lw_privs_2 : List (MethodName × Nat) := [(⟨"PerformRangesModel", "isStatement", "(I)Z"⟩, 33), (⟨"PerformRangesModel", "isRun", "(IJ)Z"⟩, 33), (⟨"PerformRangesModel", "isWhole", "(I)Z"⟩, 33), (⟨"PerformRangesModel", "machine", "(IJ)V"⟩, 33), (⟨"PerformRangesModel", "enter", "(II)I"⟩, 33), (⟨"PerformRangesModel", "again", "(Z)I"⟩, 33), (⟨"PerformRangesModel", "goesAgain", "(Z)Z"⟩, 33), (⟨"PerformRangesModel", "holds", "(II)Z"⟩, 33), (⟨"PerformRangesModel", "begin", "(II)V"⟩, 33), (⟨"PerformRangesModel", "goesBehind", "(I)Z"⟩, 33), (⟨"PerformRangesModel", "goOn", "(II)V"⟩, 33), (⟨"PerformRangesModel", "goesAhead", "(I)Z"⟩, 33), (⟨"PerformRangesModel", "doing", "(I)I"⟩, 33), (⟨"PerformRangesModel", "behind", "(I)I"⟩, 33)]
theorem lw_r2 : ∀ q ∈ lw_privs_2, lw_okq q := List.forall_mem_cons.mpr ⟨lw_p16, List.forall_mem_cons.mpr ⟨lw_p17, List.forall_mem_cons.mpr ⟨lw_p18, List.forall_mem_cons.mpr ⟨lw_p19, List.forall_mem_cons.mpr ⟨lw_p20, List.forall_mem_cons.mpr ⟨lw_p21, List.forall_mem_cons.mpr ⟨lw_p22, List.forall_mem_cons.mpr ⟨lw_p23, List.forall_mem_cons.mpr ⟨lw_p24, List.forall_mem_cons.mpr ⟨lw_p25, List.forall_mem_cons.mpr ⟨lw_p26, List.forall_mem_cons.mpr ⟨lw_p27, List.forall_mem_cons.mpr ⟨lw_p28, List.forall_mem_cons.mpr ⟨lw_p29, fun _ h => absurd h List.not_mem_nil⟩⟩⟩⟩⟩⟩⟩⟩⟩⟩⟩⟩⟩⟩
def lw_privs : List (MethodName × Nat) := lw_privs_1 ++ (lw_privs_2)
def lw_tbl : List Cond := k2_sels lw_privs ++ tables_1
theorem lw_privs_ok : ∀ q ∈ lw_privs, lw_okq q := by
  show ∀ q ∈ lw_privs_1 ++ (lw_privs_2), lw_okq q
  exact List.forall_mem_append.mpr ⟨lw_r1, lw_r2⟩
def R_Cells : String := "PerformRanges$Cells"
def F_Cells : u_T := fun k => match k with
  | _ => ("PerformRanges$Cells", "values", "[J", true)
def t_Cells : Nat → FieldType := fun k => match k with
  | _ => .array .long
theorem nm_Cells : ∀ a, a < 1 → ∀ b, b < 1 → a ≠ b → (F_Cells a).2.1 ≠ (F_Cells b).2.1 := by decide +kernel
theorem tok_Cells : ∀ k, k < 1 → parseFieldDescriptor (F_Cells k).2.2.1 = some (t_Cells k) := by decide +kernel
def R_Course : String := "PerformRanges$Course"
def F_Course : u_T := fun k => match k with
  | 0 => ("PerformRanges$Course", "program", "LPerformRanges$Program;", true)
  | 1 => ("PerformRanges$Course", "cells", "LPerformRanges$Cells;", true)
  | 2 => ("PerformRanges$Course", "pile", "LPerformRanges$Pile;", true)
  | 3 => ("PerformRanges$Course", "ran", "[I", true)
  | 4 => ("PerformRanges$Course", "length", "I", false)
  | _ => ("PerformRanges$Course", "ending", "I", false)
def t_Course : Nat → FieldType := fun k => match k with
  | 0 => .object "PerformRanges$Program"
  | 1 => .object "PerformRanges$Cells"
  | 2 => .object "PerformRanges$Pile"
  | 3 => .array .int
  | 4 => .int
  | _ => .int
theorem nm_Course : ∀ a, a < 6 → ∀ b, b < 6 → a ≠ b → (F_Course a).2.1 ≠ (F_Course b).2.1 := by decide +kernel
theorem tok_Course : ∀ k, k < 6 → parseFieldDescriptor (F_Course k).2.2.1 = some (t_Course k) := by decide +kernel
def R_Pile : String := "PerformRanges$Pile"
def F_Pile : u_T := fun k => match k with
  | 0 => ("PerformRanges$Pile", "laid", "[LPerformRanges$Statement;", true)
  | 1 => ("PerformRanges$Pile", "performers", "[I", true)
  | 2 => ("PerformRanges$Pile", "turns", "[I", true)
  | 3 => ("PerformRanges$Pile", "height", "I", false)
  | _ => ("PerformRanges$Pile", "highest", "I", false)
def t_Pile : Nat → FieldType := fun k => match k with
  | 0 => .array (.object "PerformRanges$Statement")
  | 1 => .array .int
  | 2 => .array .int
  | 3 => .int
  | _ => .int
theorem nm_Pile : ∀ a, a < 5 → ∀ b, b < 5 → a ≠ b → (F_Pile a).2.1 ≠ (F_Pile b).2.1 := by decide +kernel
theorem tok_Pile : ∀ k, k < 5 → parseFieldDescriptor (F_Pile k).2.2.1 = some (t_Pile k) := by decide +kernel
def R_Program : String := "PerformRanges$Program"
def F_Program : u_T := fun k => match k with
  | 0 => ("PerformRanges$Program", "doings", "[I", true)
  | 1 => ("PerformRanges$Program", "goings", "[I", true)
  | 2 => ("PerformRanges$Program", "told", "[LPerformRanges$Statement;", true)
  | 3 => ("PerformRanges$Program", "paragraphs", "I", false)
  | _ => ("PerformRanges$Program", "statements", "I", false)
def t_Program : Nat → FieldType := fun k => match k with
  | 0 => .array .int
  | 1 => .array .int
  | 2 => .array (.object "PerformRanges$Statement")
  | 3 => .int
  | _ => .int
theorem nm_Program : ∀ a, a < 5 → ∀ b, b < 5 → a ≠ b → (F_Program a).2.1 ≠ (F_Program b).2.1 := by decide +kernel
theorem tok_Program : ∀ k, k < 5 → parseFieldDescriptor (F_Program k).2.2.1 = some (t_Program k) := by decide +kernel
def R_Statement : String := "PerformRanges$Statement"
def F_Statement : u_T := fun k => match k with
  | 0 => ("PerformRanges$Statement", "from", "I", true)
  | 1 => ("PerformRanges$Statement", "to", "I", true)
  | 2 => ("PerformRanges$Statement", "kind", "I", true)
  | 3 => ("PerformRanges$Statement", "times", "I", true)
  | 4 => ("PerformRanges$Statement", "askedFirst", "Z", false)
  | 5 => ("PerformRanges$Statement", "conditions", "I", false)
  | 6 => ("PerformRanges$Statement", "levels", "I", false)
  | 7 => ("PerformRanges$Statement", "conditionCells", "[I", true)
  | 8 => ("PerformRanges$Statement", "conditionValues", "[J", true)
  | 9 => ("PerformRanges$Statement", "levelCells", "[I", true)
  | 10 => ("PerformRanges$Statement", "firstValues", "[J", true)
  | _ => ("PerformRanges$Statement", "levelSteps", "[J", true)
def t_Statement : Nat → FieldType := fun k => match k with
  | 0 => .int
  | 1 => .int
  | 2 => .int
  | 3 => .int
  | 4 => .boolean
  | 5 => .int
  | 6 => .int
  | 7 => .array .int
  | 8 => .array .long
  | 9 => .array .int
  | 10 => .array .long
  | _ => .array .long
theorem nm_Statement : ∀ a, a < 12 → ∀ b, b < 12 → a ≠ b → (F_Statement a).2.1 ≠ (F_Statement b).2.1 := by decide +kernel
theorem tok_Statement : ∀ k, k < 12 → parseFieldDescriptor (F_Statement k).2.2.1 = some (t_Statement k) := by decide +kernel
def R_PR : String := "PerformRanges"
def F_PR : u_T := fun k => match k with
  | 0 => ("PerformRanges", "program", "LPerformRanges$Program;", true)
  | 1 => ("PerformRanges", "latest", "LPerformRanges$Course;", true)
  | _ => ("PerformRanges", "trial", "LPerformRanges$Course;", true)
def t_PR : Nat → FieldType := fun k => match k with
  | 0 => .object "PerformRanges$Program"
  | 1 => .object "PerformRanges$Course"
  | _ => .object "PerformRanges$Course"
theorem nm_PR : ∀ a, a < 3 → ∀ b, b < 3 → a ≠ b → (F_PR a).2.1 ≠ (F_PR b).2.1 := by decide +kernel
theorem tok_PR : ∀ k, k < 3 → parseFieldDescriptor (F_PR k).2.2.1 = some (t_PR k) := by decide +kernel
def R_Model : String := "PerformRangesModel"
def F_Model : u_T := fun k => match k with
  | 0 => ("PerformRangesModel", "code", "I", false)
  | 1 => ("PerformRangesModel", "cells", "[J", true)
  | 2 => ("PerformRangesModel", "kept", "[J", true)
  | 3 => ("PerformRangesModel", "paragraphs", "I", false)
  | 4 => ("PerformRangesModel", "statements", "I", false)
  | 5 => ("PerformRangesModel", "does", "[I", true)
  | 6 => ("PerformRangesModel", "gos", "[I", true)
  | 7 => ("PerformRangesModel", "froms", "[I", true)
  | 8 => ("PerformRangesModel", "tos", "[I", true)
  | 9 => ("PerformRangesModel", "kinds", "[I", true)
  | 10 => ("PerformRangesModel", "times", "[I", true)
  | 11 => ("PerformRangesModel", "conditions", "[I", true)
  | 12 => ("PerformRangesModel", "levels", "[I", true)
  | 13 => ("PerformRangesModel", "asksFirst", "[Z", true)
  | 14 => ("PerformRangesModel", "conditionCells", "[I", true)
  | 15 => ("PerformRangesModel", "varied", "[I", true)
  | 16 => ("PerformRangesModel", "least", "[J", true)
  | 17 => ("PerformRangesModel", "first", "[J", true)
  | 18 => ("PerformRangesModel", "step", "[J", true)
  | 19 => ("PerformRangesModel", "pile", "[I", true)
  | 20 => ("PerformRangesModel", "callers", "[I", true)
  | 21 => ("PerformRangesModel", "left", "[I", true)
  | 22 => ("PerformRangesModel", "size", "I", false)
  | 23 => ("PerformRangesModel", "most", "I", false)
  | 24 => ("PerformRangesModel", "ended", "I", false)
  | 25 => ("PerformRangesModel", "ran", "I", false)
  | 26 => ("PerformRangesModel", "order", "[I", true)
  | 27 => ("PerformRangesModel", "lastEnded", "I", false)
  | 28 => ("PerformRangesModel", "lastSize", "I", false)
  | 29 => ("PerformRangesModel", "lastMost", "I", false)
  | 30 => ("PerformRangesModel", "lastRan", "I", false)
  | 31 => ("PerformRangesModel", "lastOrder", "[I", true)
  | _ => ("PerformRangesModel", "lastPile", "[I", true)
def t_Model : Nat → FieldType := fun k => match k with
  | 0 => .int
  | 1 => .array .long
  | 2 => .array .long
  | 3 => .int
  | 4 => .int
  | 5 => .array .int
  | 6 => .array .int
  | 7 => .array .int
  | 8 => .array .int
  | 9 => .array .int
  | 10 => .array .int
  | 11 => .array .int
  | 12 => .array .int
  | 13 => .array .boolean
  | 14 => .array .int
  | 15 => .array .int
  | 16 => .array .long
  | 17 => .array .long
  | 18 => .array .long
  | 19 => .array .int
  | 20 => .array .int
  | 21 => .array .int
  | 22 => .int
  | 23 => .int
  | 24 => .int
  | 25 => .int
  | 26 => .array .int
  | 27 => .int
  | 28 => .int
  | 29 => .int
  | 30 => .int
  | 31 => .array .int
  | _ => .array .int
theorem nm_Model : ∀ a, a < 33 → ∀ b, b < 33 → a ≠ b → (F_Model a).2.1 ≠ (F_Model b).2.1 := by decide +kernel
theorem tok_Model : ∀ k, k < 33 → parseFieldDescriptor (F_Model k).2.2.1 = some (t_Model k) := by decide +kernel
abbrev cls7 : List vw_C := [(R_Cells, F_Cells, 1), (R_Course, F_Course, 6), (R_Pile, F_Pile, 5), (R_Program, F_Program, 5), (R_Statement, F_Statement, 12), (R_PR, F_PR, 3), (R_Model, F_Model, 33)]
abbrev NW : List Cond := [(Jvm.Cond.methodLinkNest "PerformRanges" (9 : Nat) ({ cls := "PerformRanges$Program", name := "<init>", desc := "()V" } : Jvm.MethodName) "PerformRanges"), (Jvm.Cond.arrayOver (Jvm.ClassFile.FieldType.object "PerformRanges$Statement")), (Jvm.Cond.fieldLinkNest "PerformRanges" (123 : Nat) "PerformRanges$Program" "paragraphs" "I" "PerformRanges"), (Jvm.Cond.fieldLinkNest "PerformRanges" (126 : Nat) "PerformRanges$Program" "statements" "I" "PerformRanges"), (Jvm.Cond.methodLinkNest "PerformRanges$Course" (11 : Nat) ({ cls := "PerformRanges$Cells", name := "<init>", desc := "()V" } : Jvm.MethodName) "PerformRanges"), (Jvm.Cond.methodLinkNest "PerformRanges$Course" (20 : Nat) ({ cls := "PerformRanges$Pile", name := "<init>", desc := "()V" } : Jvm.MethodName) "PerformRanges"), (Jvm.Cond.fieldLinkNest "PerformRanges" (117 : Nat) "PerformRanges$Pile" "height" "I" "PerformRanges"), (Jvm.Cond.fieldLinkNest "PerformRanges" (120 : Nat) "PerformRanges$Pile" "highest" "I" "PerformRanges"), (Jvm.Cond.fieldLinkNest "PerformRanges" (76 : Nat) "PerformRanges$Course" "cells" "LPerformRanges$Cells;" "PerformRanges"), (Jvm.Cond.fieldLinkNest "PerformRanges" (89 : Nat) "PerformRanges$Course" "pile" "LPerformRanges$Pile;" "PerformRanges"), (Jvm.Cond.fieldLinkNest "PerformRanges" (113 : Nat) "PerformRanges$Course" "ending" "I" "PerformRanges"), (Jvm.Cond.fieldLinkNest "PerformRanges$Course" (84 : Nat) "PerformRanges$Statement" "from" "I" "PerformRanges"), (Jvm.Cond.fieldLinkNest "PerformRanges$Pile" (41 : Nat) "PerformRanges$Statement" "to" "I" "PerformRanges"), (Jvm.Cond.fieldLinkNest "PerformRanges$Course" (118 : Nat) "PerformRanges$Statement" "to" "I" "PerformRanges")]
def GW : List Cond := lw_tbl.filter goodWord
theorem gw_of {w : Cond} {i : Nat} (h : lw_tbl[i]? = some w) (hg : goodWord w = true) : w ∈ GW := List.mem_filter.mpr ⟨List.mem_of_getElem? h, hg⟩
theorem mcs {x w : Cond} (h : w ∈ GW) : w ∈ x :: GW := List.mem_cons_of_mem _ h
theorem uw0_Cells : (u_ws R_Cells F_Cells 1).all (fun w => decide (w ∈ lw_tbl) && goodWord w) = true := by decide +kernel
theorem uw_Cells {x : Cond} : ∀ w ∈ u_ws R_Cells F_Cells 1, w ∈ x :: GW := fun w h => mcs (by have := List.all_eq_true.mp uw0_Cells w h; simp only [Bool.and_eq_true, decide_eq_true_eq] at this; exact List.mem_filter.mpr this)
theorem uw0_Course : (u_ws R_Course F_Course 6).all (fun w => decide (w ∈ lw_tbl) && goodWord w) = true := by decide +kernel
theorem uw_Course {x : Cond} : ∀ w ∈ u_ws R_Course F_Course 6, w ∈ x :: GW := fun w h => mcs (by have := List.all_eq_true.mp uw0_Course w h; simp only [Bool.and_eq_true, decide_eq_true_eq] at this; exact List.mem_filter.mpr this)
theorem uw0_Pile : (u_ws R_Pile F_Pile 5).all (fun w => decide (w ∈ lw_tbl) && goodWord w) = true := by decide +kernel
theorem uw_Pile {x : Cond} : ∀ w ∈ u_ws R_Pile F_Pile 5, w ∈ x :: GW := fun w h => mcs (by have := List.all_eq_true.mp uw0_Pile w h; simp only [Bool.and_eq_true, decide_eq_true_eq] at this; exact List.mem_filter.mpr this)
theorem uw0_Program : (u_ws R_Program F_Program 5).all (fun w => decide (w ∈ lw_tbl) && goodWord w) = true := by decide +kernel
theorem uw_Program {x : Cond} : ∀ w ∈ u_ws R_Program F_Program 5, w ∈ x :: GW := fun w h => mcs (by have := List.all_eq_true.mp uw0_Program w h; simp only [Bool.and_eq_true, decide_eq_true_eq] at this; exact List.mem_filter.mpr this)
theorem uw0_Statement : (u_ws R_Statement F_Statement 12).all (fun w => decide (w ∈ lw_tbl) && goodWord w) = true := by decide +kernel
theorem uw_Statement {x : Cond} : ∀ w ∈ u_ws R_Statement F_Statement 12, w ∈ x :: GW := fun w h => mcs (by have := List.all_eq_true.mp uw0_Statement w h; simp only [Bool.and_eq_true, decide_eq_true_eq] at this; exact List.mem_filter.mpr this)
theorem uw0_PR : (u_ws R_PR F_PR 3).all (fun w => decide (w ∈ lw_tbl) && goodWord w) = true := by decide +kernel
theorem uw_PR {x : Cond} : ∀ w ∈ u_ws R_PR F_PR 3, w ∈ x :: GW := fun w h => mcs (by have := List.all_eq_true.mp uw0_PR w h; simp only [Bool.and_eq_true, decide_eq_true_eq] at this; exact List.mem_filter.mpr this)
theorem uw0_Model : (u_ws R_Model F_Model 33).all (fun w => decide (w ∈ lw_tbl) && goodWord w) = true := by decide +kernel
theorem uw_Model {x : Cond} : ∀ w ∈ u_ws R_Model F_Model 33, w ∈ x :: GW := fun w h => mcs (by have := List.all_eq_true.mp uw0_Model w h; simp only [Bool.and_eq_true, decide_eq_true_eq] at this; exact List.mem_filter.mpr this)
end
section
/-! MAP WORLDS: what the heap holds is a map from addresses to contents; H0 is the heap as the law found it. -/
abbrev mp : Type := Nat → Option va_E
def hw (H0 : Heap) (D : va_G) (cl : List vw_C) (M : mp) (H : Heap) : Prop :=
  H0.size ≤ H.size ∧ (∀ q : Nat, q < H0.size → H[q]? = H0[q]?) ∧ ∀ (a : Nat) (e : va_E), M a = some e → H0.size ≤ a ∧ va_at D cl (a, e) H
theorem hw.lt {H0 H : Heap} {D : va_G} {cl : List vw_C} {M : mp} (h : hw H0 D cl M H) {a : Nat} {e : va_E} (ha : M a = some e) : a < H.size := ((h.2.2 a e ha).2).lt
theorem hw.one {H0 H : Heap} {D : va_G} {cl : List vw_C} {M : mp} (h : hw H0 D cl M H) {a : Nat} {e : va_E} (ha : M a = some e) : va_P D cl [(a, e)] H := by
  intro k q hk
  have hz : k < 1 := (List.getElem?_eq_some_iff.mp hk).1
  rw [show k = 0 by omega] at hk
  cases hk
  exact (h.2.2 a e ha).2
theorem hw.set {H0 H H1 : Heap} {D : va_G} {cl : List vw_C} {M : mp} (h : hw H0 D cl M H) {a : Nat} {e0 e : va_E} (ha : M a = some e0) (z : H1.size = H.size) (oq : ∀ q : Nat, q ≠ a → H1[q]? = H[q]?) (he : va_at D cl (a, e) H1) : hw H0 D cl (va_up M a (some e)) H1 := by
  have hB := (h.2.2 a e0 ha).1
  refine ⟨by rw [z]; exact h.1, fun q hq => (oq q (by omega)).trans (h.2.1 q hq), fun b x hx => ?_⟩
  by_cases hb : b = a
  · subst hb
    rw [va_up_self] at hx
    cases hx
    exact ⟨hB, he⟩
  · rw [va_up_ne _ _ hb] at hx
    obtain ⟨h1, h2⟩ := h.2.2 b x hx
    exact ⟨h1, h2.kept (oq b hb)⟩
theorem hw.push {H0 H H1 : Heap} {D : va_G} {cl : List vw_C} {M : mp} (h : hw H0 D cl M H) {e : va_E} (z : H1.size = H.size + 1) (oq : ∀ q : Nat, q < H.size → H1[q]? = H[q]?) (he : va_at D cl (H.size, e) H1) : hw H0 D cl (va_up M H.size (some e)) H1 := by
  have hB := h.1
  refine ⟨by omega, fun q hq => (oq q (by omega)).trans (h.2.1 q hq), fun b x hx => ?_⟩
  by_cases hb : b = H.size
  · subst hb
    rw [va_up_self] at hx
    cases hx
    exact ⟨hB, he⟩
  · rw [va_up_ne _ _ hb] at hx
    obtain ⟨h1, h2⟩ := h.2.2 b x hx
    exact ⟨h1, h2.kept (oq b h2.lt)⟩
theorem hw.fresh {H0 H : Heap} {D : va_G} {cl : List vw_C} {M : mp} (h : hw H0 D cl M H) : M H.size = none := by
  cases hm : M H.size with
  | none => rfl
  | some e => exact absurd (h.lt hm) (Nat.lt_irrefl _)
/-- the words that no list of words holds: links among nest mates, arrays over a class -/
def nw_ok (w : Cond) : Bool := match w with
  | .fieldLinkNest _ _ _ _ _ _ => true
  | .methodLinkNest _ _ _ _ => true
  | .arrayOver (.object _) => true
  | _ => false
theorem nw_moved {w : Cond} (hw : nw_ok w = true) {s U : State} (hW : s.WarmedH U.vm) (h : va_Nw w s) : va_Nw w U := by
  cases w with
  | fieldLinkNest a i b n d h9 => exact va_Nw.warmF hW h
  | methodLinkNest a i x h9 => exact va_Nw.warmM hW h
  | arrayOver t =>
    cases t with
    | object C => exact va_AO.moved (C := C) hW.alike h
    | _ => cases hw
  | _ => cases hw
/-- what the tables say: classes, array classes, nest words -/
def KK (D : va_G) (cl : List vw_C) (tys : List (ClassId × FieldType)) (NW : List Cond) (U : State) : Prop := va_K D cl tys U ∧ (∀ w ∈ NW, nw_ok w = true) ∧ ∀ w ∈ NW, va_Nw w U
theorem KK.moved {D : va_G} {cl : List vw_C} {tys : List (ClassId × FieldType)} {NW : List Cond} {s U : State} (hW : s.WarmedH U.vm) (h : KK D cl tys NW s) : KK D cl tys NW U := ⟨va_K.moved hW.alike h.1, h.2.1, fun w hw => nw_moved (h.2.1 w hw) hW (h.2.2 w hw)⟩
def imax (x y : Int32) : Int32 := if x < y then y else x
/-- the walk's judgement over map worlds: from any heap that holds M, any locals that hold lv -/
def V (p : Program) (l : Launch) (e : Env) (R : Room) (s : State) (m : MethodId) (args : Array Value) (below : List Frame) (meth : Method) (c : Code) (H0 : Heap) (D : va_G) (cl : List vw_C) (Q : State → Prop) (nL : Nat) (M : mp) (cells slots : Nat) (pc : Nat) (lv : List (Nat × Value)) (st : List Value) : Prop :=
  ∀ (H : Heap) (locs : List Loc) (ls : Array Slot), hw H0 D cl M H → (∀ q ∈ locs, H0.size ≤ q.base) → lv_has ls nL lv → W p l e R s m args below meth c H locs cells slots Q (F0 m pc ls st)
/-- a method's end over map worlds -/
def Qm (H0 : Heap) (D : va_G) (cl : List vw_C) (post : Option Value → mp → Prop) : Array Value → State → Outcome → State → Prop := fun _ _ o t => ∃ (v : Option Value) (M : mp), o = .returned v ∧ post v M ∧ hw H0 D cl M t.heap
/-- a method's contract over map worlds -/
def MC (l : Launch) (H0 : Heap) (D : va_G) (cl : List vw_C) (tys : List (ClassId × FieldType)) (NW : List Cond) (y : MethodName) (ws : List Cond) (rm : Room) (av : List Value) (M : mp) (post : Option Value → mp → Prop) : Prop :=
  Met l y ws rm (va_Pc av (fun U => hw H0 D cl M U.heap ∧ KK D cl tys NW U)) (Qm H0 D cl post) rm.cells rm.slots (fun q => H0.size ≤ q)
theorem MC.blind {H0 : Heap} {D : va_G} {cl : List vw_C} {tys : List (ClassId × FieldType)} {NW : List Cond} {av : List Value} {M : mp} : FrameBlind (va_Pc av (fun U => hw H0 D cl M U.heap ∧ KK D cl tys NW U)) := fun a U g mk q => by
  obtain ⟨q0, qP, qK⟩ := q
  exact ⟨q0, qP, va_K.moved (u := U) (U := U.calling g mk a) (Vm.Alike.refl U.vm) qK.1, qK.2.1, fun w hw => nw_moved (s := U) (U := U.calling g mk a) (qK.2.1 w hw) (State.WarmedH.refl U) (qK.2.2 w hw)⟩
section VL
variable {p : Program} {l : Launch} {e : Env} {R : Room} {s : State} {m : MethodId} {args : Array Value} {below : List Frame} {meth : Method} {c : Code} {H0 : Heap} {D : va_G} {cl : List vw_C} {tys : List (ClassId × FieldType)} {NW : List Cond} {Q : State → Prop} {nL : Nat} {M : mp} {cells slots pc pc' : Nat} {lv lv' : List (Nat × Value)} {st : List Value} {cc : ByteArray} {own : String} {Ts : List Cond}
theorem MC.of {y : MethodName} {ws ws' : List Cond} {rm : Room} {av : List Value} {post : Option Value → mp → Prop} {ret : Option FieldType} (hy : plainName y.cls = true) (hw1 : ws = Cond.code y cc nL ret :: ws') (hlen : (lg_sl av).length ≤ nL) (hlv : lv_args 0 av = lv)
    (body : ∀ p e s m below meth c, CallFix p m c cc nL s av.toArray ws y.cls → meth.sig.returnType = ret → meth.locks = false → meth.name = y.name → KK D cl tys NW s → V p l e rm s m av.toArray below meth c H0 D cl (MQ below (Qm H0 D cl post) av.toArray s rm.cells rm.slots (fun q => H0.size ≤ q)) nL M 0 0 0 lv []) : MC l H0 D cl tys NW y ws rm av M post := by
  refine Met.ofW (cc := cc) (maxL := nL) (ret := ret) hy hw1 ?_
  intro p e s m args below meth c s₁ B hml hv
  obtain ⟨rfl, hH, hK⟩ := hv
  have hl := lv_entry av (n := nL) hlen
  rw [lg_entry_eq]
  rw [hlv] at hl
  exact body p e s m below meth c ⟨B.exec, B.bytes, hml, findClass_of_methodNamed B.named, atoms_spec (ws := ws) B.pre⟩ B.returns B.notSynchronized (name_of_methodNamed B.named B.method).1 hK s.heap [] _ hH (fun q h => by cases h) hl
/-- lifts: rows that look at neither heap nor locals; rows that read the locals -/
theorem V.go {st' : List Value} (f : ∀ {H : Heap} {locs : List Loc} {ls : Array Slot}, W p l e R s m args below meth c H locs cells slots Q (F0 m pc' ls st') → W p l e R s m args below meth c H locs cells slots Q (F0 m pc ls st)) (k : V p l e R s m args below meth c H0 D cl Q nL M cells slots pc' lv st') : V p l e R s m args below meth c H0 D cl Q nL M cells slots pc lv st :=
  fun H locs ls hH hL hl => f (k H locs ls hH hL hl)
theorem V.rd {st' : List Value} (f : ∀ {H : Heap} {locs : List Loc} {ls : Array Slot}, lv_has ls nL lv → W p l e R s m args below meth c H locs cells slots Q (F0 m pc' ls st') → W p l e R s m args below meth c H locs cells slots Q (F0 m pc ls st)) (k : V p l e R s m args below meth c H0 D cl Q nL M cells slots pc' lv st') : V p l e R s m args below meth c H0 D cl Q nL M cells slots pc lv st :=
  fun H locs ls hH hL hl => f hl (k H locs ls hH hL hl)
/-- fewer locals -/
theorem V.pick (ks : List Nat) (h : lv_pick lv ks = lv') (k : V p l e R s m args below meth c H0 D cl Q nL M cells slots pc lv' st) : V p l e R s m args below meth c H0 D cl Q nL M cells slots pc lv st :=
  fun H locs ls hH hL hl => k H locs ls hH hL (lv_sub hl ks h)
theorem V.widen {k n : Nat} (h1 : cells ≤ k) (h2 : slots ≤ n) (kk : V p l e R s m args below meth c H0 D cl Q nL M k n pc lv st) : V p l e R s m args below meth c H0 D cl Q nL M cells slots pc lv st :=
  fun H locs ls hH hL hl => W.widen h1 h2 (kk H locs ls hH hL hl)
theorem V.cast {M' : mp} (h : M = M') (k : V p l e R s m args below meth c H0 D cl Q nL M' cells slots pc lv st) : V p l e R s m args below meth c H0 D cl Q nL M cells slots pc lv st := h ▸ k
/-- getfield -/
theorem V.get (X : CallFix p m c cc nL s args Ts own) (hK : KK D cl tys NW s) {C : String} {T : u_T} {N ci index a : Nat} {fs : List Value} (ha : M a = some (.inr (ci, fs))) (hin : ∀ w ∈ u_ws C T N, w ∈ Ts) (hc : cl[ci]? = some (C, T, N)) (k : Nat) (hk : k < N) (hlink : Cond.fieldLink own index (T k).1 (T k).2.1 (T k).2.2.1 ∈ Ts) {v : Value} (hv : fs[k]? = some v) (hdg : decode cc pc = .ok (.getfield index, 3)) (hpc : pc + 3 = pc')
    (kk : V p l e R s m args below meth c H0 D cl Q nL M cells slots pc' lv (v :: st)) : V p l e R s m args below meth c H0 D cl Q nL M cells slots pc lv (.ref a :: st) := by
  subst hpc
  intro H locs ls hH hL hl
  exact va_get X.1 X.2.1 X.2.2.2.2 hin X.2.2.2.1 hK.1 (hH.one ha) 0 rfl hc k hk (X.2.2.2.2 _ hlink) (fun _ h9 => h9) hv hdg (kk H locs ls hH hL hl)
/-- getfield of a nest mate's private field -/
theorem V.getN (X : CallFix p m c cc nL s args Ts own) (hK : KK D cl tys NW s) {C host : String} {T : u_T} {N ci index a : Nat} {fs : List Value} (ha : M a = some (.inr (ci, fs))) (hin : ∀ w ∈ u_ws C T N, w ∈ Ts) (hc : cl[ci]? = some (C, T, N)) (k : Nat) (hk : k < N) (hlink : Cond.fieldLinkNest own index (T k).1 (T k).2.1 (T k).2.2.1 host ∈ NW) {v : Value} (hv : fs[k]? = some v) (hdg : decode cc pc = .ok (.getfield index, 3)) (hpc : pc + 3 = pc')
    (kk : V p l e R s m args below meth c H0 D cl Q nL M cells slots pc' lv (v :: st)) : V p l e R s m args below meth c H0 D cl Q nL M cells slots pc lv (.ref a :: st) := by
  subst hpc
  intro H locs ls hH hL hl
  exact va_getN X.1 X.2.1 X.2.2.2.2 hin X.2.2.2.1 hK.1 (hH.one ha) 0 rfl hc k hk (va_Nw.use rfl (hK.2.2 _ hlink)) (fun _ h9 => h9) hv hdg (kk H locs ls hH hL hl)
/-- putfield, not final -/
theorem V.put (X : CallFix p m c cc nL s args Ts own) (hK : KK D cl tys NW s) {C : String} {T : u_T} {N ci index a : Nat} {fs fs' : List Value} (ha : M a = some (.inr (ci, fs))) (hin : ∀ w ∈ u_ws C T N, w ∈ Ts) (ty0 : Nat → FieldType) (hty : ∀ k, k < N → parseFieldDescriptor (T k).2.2.1 = some (ty0 k)) (hnm : ∀ a, a < N → ∀ b, b < N → a ≠ b → (T a).2.1 ≠ (T b).2.1) (hc : cl[ci]? = some (C, T, N)) (k : Nat) (hk : k < N) (hlink : Cond.fieldLink own index (T k).1 (T k).2.1 (T k).2.2.1 ∈ Ts) (hfin : (T k).2.2.2 = false) {v : Value} (hn : narrow (ty0 k) v = v) (hfit : fits (ty0 k) v = true) (hl : k < fs.length) (hfs : fs.set k v = fs') (hdg : decode cc pc = .ok (.putfield index, 3)) (hpc : pc + 3 = pc')
    (kk : ∀ M' : mp, M' a = some (.inr (ci, fs')) → (∀ q, q ≠ a → M' q = M q) → V p l e R s m args below meth c H0 D cl Q nL M' cells slots pc' lv st) : V p l e R s m args below meth c H0 D cl Q nL M cells slots pc lv (v :: .ref a :: st) := by
  subst hpc
  subst hfs
  intro H locs ls hH hL hlv
  have hap := va_apart (own := own) X.2.2.2.2 hin ty0 hty hnm hK.1 hc
  obtain ⟨hB, r, h1, cell, q1, q2, q3, q4⟩ := hH.2.2 a _ ha
  have hr : r = (C, T, N) := Option.some.inj (h1.symm.trans hc)
  subst hr
  obtain ⟨hS, hfc, kC, hkC, hkind⟩ := hK.1.1 ci _ hc
  obtain ⟨cf, kf, fi, f, hi, hsl⟩ := hS k hk
  have hlay := X.2.2.2.2 _ (hin _ (u_in_lay hk))
  unfold u_lay at hlay
  rw [if_neg (by rw [hfin]; decide)] at hlay
  have hst := (u_facts hfc hkC (u_lays X.2.2.2.2 hin hk) hi).1
  have h6 := u_store hfc hkC hkind hlay hi (hty k hk) hn hfit
  refine W.putK X.1 X.2.1 (f := f) ⟨X.2.2.2.1, X.2.2.2.2 _ hlink, ⟨_, _, _, hi⟩, hst⟩ (by rw [q2]; exact h6) q1 q3 (by rw [hsl]; exact k2_hasslot (q4 k hk)) rfl rfl hdg fun H' e1 e2 e3 => ?_
  rw [hsl] at e1 ⊢
  refine kk _ (va_up_self _ _ _) (fun q h => va_up_ne _ _ h) H' _ ls (hH.set ha e2 e3 ⟨_, hc, t_OB.to (V := updV (vp_V fs) k v) ⟨_, e1, q2, q3, t_set q4 hap hk v⟩ (fun j _ => vp_updV_set hl v j)⟩) (fun q hq => ?_) hlv
  rcases List.mem_append.mp hq with h | h
  · exact hL q h
  · rw [List.mem_singleton.mp h]; exact hB
/-- putfield of a final field, in its class's constructor -/
theorem V.putF (X : CallFix p m c cc nL s args Ts own) (hK : KK D cl tys NW s) (hin2 : meth.name = "<init>") {C : String} {T : u_T} {N ci index a : Nat} {fs fs' : List Value} (ha : M a = some (.inr (ci, fs))) (hin : ∀ w ∈ u_ws C T N, w ∈ Ts) (ty0 : Nat → FieldType) (hty : ∀ k, k < N → parseFieldDescriptor (T k).2.2.1 = some (ty0 k)) (hnm : ∀ a, a < N → ∀ b, b < N → a ≠ b → (T a).2.1 ≠ (T b).2.1) (hc : cl[ci]? = some (C, T, N)) (k : Nat) (hk : k < N) (hlink : Cond.fieldLink own index (T k).1 (T k).2.1 (T k).2.2.1 ∈ Ts) (hfin : (T k).2.2.2 = true) (hdecl : (T k).1 = own) {v : Value} (hn : narrow (ty0 k) v = v) (hfit : fits (ty0 k) v = true) (hl : k < fs.length) (hfs : fs.set k v = fs') (hdg : decode cc pc = .ok (.putfield index, 3)) (hpc : pc + 3 = pc')
    (kk : ∀ M' : mp, M' a = some (.inr (ci, fs')) → (∀ q, q ≠ a → M' q = M q) → V p l e R s m args below meth c H0 D cl Q nL M' cells slots pc' lv st) : V p l e R s m args below meth c H0 D cl Q nL M cells slots pc lv (v :: .ref a :: st) := by
  subst hpc
  subst hfs
  intro H locs ls hH hL hlv
  have hap := va_apart (own := own) X.2.2.2.2 hin ty0 hty hnm hK.1 hc
  obtain ⟨hB, r, h1, cell, q1, q2, q3, q4⟩ := hH.2.2 a _ ha
  have hr : r = (C, T, N) := Option.some.inj (h1.symm.trans hc)
  subst hr
  obtain ⟨hS, hfc, kC, hkC, hkind⟩ := hK.1.1 ci _ hc
  obtain ⟨cf, kf, fi, f, hi, hsl⟩ := hS k hk
  have hlay := X.2.2.2.2 _ (hin _ (u_in_lay hk))
  unfold u_lay at hlay
  rw [if_pos hfin] at hlay
  have hst := (u_facts hfc hkC (u_lays X.2.2.2.2 hin hk) hi).1
  have hcf : m.cls = cf := by
    obtain ⟨_, _, c', _, _, _, -, -, hf', -, -, -, hown2, -⟩ := Cond.laysFinal_spec hlay
    have e1 : c' = cf := by have := hi.symm.trans hf'; simp at this; exact this.1.symm
    rw [hdecl] at hown2
    rw [← e1]; exact Option.some.inj (X.2.2.2.1.symm.trans hown2)
  have h6 := u_fits hfc hkC hkind (Or.inr hlay) hi (hty k hk) hn hfit
  refine W.putFinK X.1 X.2.1 X.2.2.2.1 (X.2.2.2.2 _ hlink) hi hst hcf hin2 (by rw [q2]; exact h6) q1 q3 (by rw [hsl]; exact k2_hasslot (q4 k hk)) rfl rfl hdg fun H' e1 e2 e3 => ?_
  rw [hsl] at e1 ⊢
  refine kk _ (va_up_self _ _ _) (fun q h => va_up_ne _ _ h) H' _ ls (hH.set ha e2 e3 ⟨_, hc, t_OB.to (V := updV (vp_V fs) k v) ⟨_, e1, q2, q3, t_set q4 hap hk v⟩ (fun j _ => vp_updV_set hl v j)⟩) (fun q hq => ?_) hlv
  rcases List.mem_append.mp hq with h | h
  · exact hL q h
  · rw [List.mem_singleton.mp h]; exact hB
/-- array reads -/
theorem V.iald (X : CallFix p m c cc nL s args Ts own) (hK : KK D cl tys NW s) (t0 : Nat) {cA : ClassId} {a n : Nat} {f : Nat → Int32} (ha : M a = some (.inl (cA, n, .inl f))) (ht : tys[t0]? = some (cA, .int)) {i : Int32} (hin : vp_in i n) (hdg : decode cc pc = .ok (.iaload, 1)) (hpc : pc + 1 = pc')
    (kk : V p l e R s m args below meth c H0 D cl Q nL M cells slots pc' lv (.int (f i.toNatClampNeg) :: st)) : V p l e R s m args below meth c H0 D cl Q nL M cells slots pc lv (.int i :: .ref a :: st) := by
  subst hpc
  intro H locs ls hH hL hl
  exact va_iald X.1 X.2.1 hK.1 (hH.one ha) 0 t0 rfl ht hin hdg (kk H locs ls hH hL hl)
theorem V.lald (X : CallFix p m c cc nL s args Ts own) (hK : KK D cl tys NW s) (t0 : Nat) {cA : ClassId} {a n : Nat} {f : Nat → Int64} (ha : M a = some (.inl (cA, n, .inr (.inl f)))) (ht : tys[t0]? = some (cA, .long)) {i : Int32} (hin : vp_in i n) (hdg : decode cc pc = .ok (.laload, 1)) (hpc : pc + 1 = pc')
    (kk : V p l e R s m args below meth c H0 D cl Q nL M cells slots pc' lv (.long (f i.toNatClampNeg) :: st)) : V p l e R s m args below meth c H0 D cl Q nL M cells slots pc lv (.int i :: .ref a :: st) := by
  subst hpc
  intro H locs ls hH hL hl
  exact va_lald X.1 X.2.1 hK.1 (hH.one ha) 0 t0 rfl ht hin hdg (kk H locs ls hH hL hl)
theorem V.aald (X : CallFix p m c cc nL s args Ts own) (hK : KK D cl tys NW s) (t0 : Nat) {cA : ClassId} {C : String} {a n : Nat} {f : Nat → Option Nat} (ha : M a = some (.inl (cA, n, .inr (.inr (.inr (.inr f)))))) (ht : tys[t0]? = some (cA, .object C)) {i : Int32} (hin : vp_in i n) (hdg : decode cc pc = .ok (.aaload, 1)) (hpc : pc + 1 = pc')
    (kk : V p l e R s m args below meth c H0 D cl Q nL M cells slots pc' lv (va_rf (f i.toNatClampNeg) :: st)) : V p l e R s m args below meth c H0 D cl Q nL M cells slots pc lv (.int i :: .ref a :: st) := by
  subst hpc
  intro H locs ls hH hL hl
  exact va_aldq X.1 X.2.1 hK.1 (hH.one ha) 0 t0 rfl ht hin hdg (kk H locs ls hH hL hl)
theorem V.alen (X : CallFix p m c cc nL s args Ts own) (hK : KK D cl tys NW s) (t0 : Nat) {cA : ClassId} {a : Nat} {x : vp_A} (ha : M a = some (.inl (cA, x))) {ty : FieldType} (ht : tys[t0]? = some (cA, ty)) {v : Int32} (hv : Int32.ofNat x.1 = v) (hdg : decode cc pc = .ok (.arraylength, 1)) (hpc : pc + 1 = pc')
    (kk : V p l e R s m args below meth c H0 D cl Q nL M cells slots pc' lv (.int v :: st)) : V p l e R s m args below meth c H0 D cl Q nL M cells slots pc lv (.ref a :: st) := by
  subst hpc
  intro H locs ls hH hL hl
  exact va_alen X.1 X.2.1 hK.1 (hH.one ha) 0 t0 rfl ht hv hdg (kk H locs ls hH hL hl)
theorem hL_app {H0 : Heap} {locs : List Loc} {a k : Nat} (hL : ∀ q ∈ locs, H0.size ≤ q.base) (hB : H0.size ≤ a) : ∀ q ∈ locs ++ [(⟨a, k⟩ : Loc)], H0.size ≤ q.base := fun q hq => by
  rcases List.mem_append.mp hq with h | h
  · exact hL q h
  · rw [List.mem_singleton.mp h]; exact hB
/-- array stores -/
theorem V.iast (X : CallFix p m c cc nL s args Ts own) (hK : KK D cl tys NW s) (t0 : Nat) {cA : ClassId} {a n : Nat} {f : Nat → Int32} (ha : M a = some (.inl (cA, n, .inl f))) (ht : tys[t0]? = some (cA, .int)) {i x : Int32} (hin : vp_in i n) (hdg : decode cc pc = .ok (.iastore, 1)) (hpc : pc + 1 = pc')
    (kk : ∀ M' : mp, M' a = some (.inl (cA, n, .inl (upd f i.toNatClampNeg x))) → (∀ q, q ≠ a → M' q = M q) → V p l e R s m args below meth c H0 D cl Q nL M' cells slots pc' lv st) : V p l e R s m args below meth c H0 D cl Q nL M cells slots pc lv (.int x :: .int i :: .ref a :: st) := by
  subst hpc
  intro H locs ls hH hL hl
  obtain ⟨hB, hat⟩ := hH.2.2 a _ ha
  refine W.iast X.1 X.2.1 hat ((hK.1.2 t0 _ ht).1 n (fun j => .int (f j))) (fun q => by cases q) (by show ¬ (i < 0 ∨ (arrV _ _ _).slots.size ≤ _); rw [arrV_size]; exact hin) rfl rfl hdg fun H1 e1 z oq => ?_
  refine kk _ (va_up_self _ _ _) (fun q h => va_up_ne _ _ h) H1 _ ls (hH.set ha z oq ?_) (hL_app hL hB) hl
  show H1[a]? = some (vp_cell _ _)
  rw [e1]
  rw [vp_cell_i, vp_cell_i, arrV_store]
  congr 2
  funext q
  by_cases hq : q = i.toNatClampNeg
  · subst hq
    simp [updV, upd]
  · simp [updV, upd, hq]
theorem V.last (X : CallFix p m c cc nL s args Ts own) (hK : KK D cl tys NW s) (t0 : Nat) {cA : ClassId} {a n : Nat} {f : Nat → Int64} (ha : M a = some (.inl (cA, n, .inr (.inl f)))) (ht : tys[t0]? = some (cA, .long)) {i : Int32} {x : Int64} (hin : vp_in i n) (hdg : decode cc pc = .ok (.lastore, 1)) (hpc : pc + 1 = pc')
    (kk : ∀ M' : mp, M' a = some (.inl (cA, n, .inr (.inl (vp_updL f i.toNatClampNeg x)))) → (∀ q, q ≠ a → M' q = M q) → V p l e R s m args below meth c H0 D cl Q nL M' cells slots pc' lv st) : V p l e R s m args below meth c H0 D cl Q nL M cells slots pc lv (.long x :: .int i :: .ref a :: st) := by
  subst hpc
  intro H locs ls hH hL hl
  obtain ⟨hB, hat⟩ := hH.2.2 a _ ha
  refine W.last X.1 X.2.1 hat ((hK.1.2 t0 _ ht).1 n (fun j => .long (f j))) (fun q => by cases q) (by show ¬ (i < 0 ∨ (arrV _ _ _).slots.size ≤ _); rw [arrV_size]; exact hin) rfl rfl hdg fun H1 e1 z oq => ?_
  refine kk _ (va_up_self _ _ _) (fun q h => va_up_ne _ _ h) H1 _ ls (hH.set ha z oq ?_) (hL_app hL hB) hl
  show H1[a]? = some (vp_cell _ _)
  rw [e1]
  rw [vp_cell_l, vp_cell_l, arrV_store]
  congr 2
  funext q
  by_cases hq : q = i.toNatClampNeg
  · subst hq
    simp [updV, vp_updL]
  · simp [updV, vp_updL, hq]
theorem V.aast (X : CallFix p m c cc nL s args Ts own) (hK : KK D cl tys NW s) (t0 ci : Nat) {cA : ClassId} {r : vw_C} {a n v : Nat} {vs : List Value} {f : Nat → Option Nat} (ha : M a = some (.inl (cA, n, .inr (.inr (.inr (.inr f)))))) (ht : tys[t0]? = some (cA, .object r.1)) (hv : M v = some (.inr (ci, vs))) (hc : cl[ci]? = some r) {i : Int32} (hin : vp_in i n) (hdg : decode cc pc = .ok (.aastore, 1)) (hpc : pc + 1 = pc')
    (kk : ∀ M' : mp, M' a = some (.inl (cA, n, .inr (.inr (.inr (.inr (va_up f i.toNatClampNeg (some v))))))) → (∀ q, q ≠ a → M' q = M q) → V p l e R s m args below meth c H0 D cl Q nL M' cells slots pc' lv st) : V p l e R s m args below meth c H0 D cl Q nL M cells slots pc lv (.ref v :: .int i :: .ref a :: st) := by
  subst hpc
  intro H locs ls hH hL hl
  obtain ⟨hB, hat⟩ := hH.2.2 a _ ha
  have hlt : i.toNatClampNeg < n := Nat.not_le.mp fun q => hin (Or.inr q)
  have h0 : ¬ i < 0 := fun q => hin (Or.inl q)
  obtain ⟨-, r', hr', cellV, g1, g2, g3, -⟩ := hH.2.2 v _ hv
  have hcls := (hK.1.1 ci r hc).2
  obtain ⟨kA, comp, k1, k2, k3, -⟩ := (hK.1.2 t0 _ ht).2
  have hcomp : comp = D.1 ci := Option.some.inj (k3.symm.trans hcls.1)
  subst hcomp
  obtain ⟨kC, hkC, -⟩ := hcls.2
  refine W.aast X.1 X.2.1 hat (fun q h => by cases h) (fun h => by cases h) k1 k2 rfl hkC ⟨h0, by show _ < (arrV _ _ _).slots.size; rw [arrV_size]; exact hlt⟩ g1 (fun q h => by rw [g3] at h; cases h) (by rw [g2]; exact hkC) (by rw [g2]; exact va_assign hcls) rfl rfl hdg fun H1 e1 z oq => ?_
  refine kk _ (va_up_self _ _ _) (fun q h => va_up_ne _ _ h) H1 _ ls (hH.set ha z oq ?_) (hL_app hL hB) hl
  show H1[a]? = some (vp_cell _ _)
  rw [e1]
  rw [vp_cell_q, vp_cell_q, arrV_store]
  congr 2
  funext q
  by_cases hq : q = i.toNatClampNeg
  · subst hq
    simp [updV, va_up, va_rf]
  · simp [updV, va_up, hq]
/-- new -/
theorem V.new (X : CallFix p m c cc nL s args Ts own) (hK : KK D cl tys NW s) {C : String} {T : u_T} {N ci index : Nat} (hin : ∀ w ∈ u_ws C T N, w ∈ Ts) (ty0 : Nat → FieldType) (hty : ∀ k, k < N → parseFieldDescriptor (T k).2.2.1 = some (ty0 k)) (hcl : Cond.classLink own index C ∈ Ts) (hinst : Cond.instantiable C N ∈ Ts) (hini : Cond.initialized C ∈ Ts) (hc : cl[ci]? = some (C, T, N)) {fs : List Value} (hfs : ∀ j, j < N → defaultValue (ty0 j) = vp_V fs j) (hcells : cells + 1 ≤ R.cells) (hslots : slots + N ≤ R.slots) (hdg : decode cc pc = .ok (.new index, 3)) (hpc : pc + 3 = pc')
    (kk : ∀ (q : Nat) (M' : mp), M q = none → M' q = some (.inr (ci, fs)) → (∀ r, r ≠ q → M' r = M r) → V p l e R s m args below meth c H0 D cl Q nL M' (cells + 1) (slots + N) pc' lv (.ref q :: st)) : V p l e R s m args below meth c H0 D cl Q nL M cells slots pc lv st := by
  subst hpc
  intro H locs ls hH hL hl
  have hKn := hK.1.1 ci _ hc
  refine W.newcK X.1 X.2.1 X.2.2.2.1 (X.2.2.2.2 _ hcl) (X.2.2.2.2 _ hinst) (X.2.2.2.2 _ hini) rfl hdg hcells hslots hKn.2.1 rfl fun H1 kC hkC e1 z1 o1 => ?_
  exact kk H.size _ hH.fresh (va_up_self _ _ _) (fun q h => va_up_ne _ _ h) H1 locs ls (hH.push z1 o1 ⟨_, hc, (u_born ty0 X.2.2.2.2 hin hKn hkC e1 hty).to hfs⟩) hL hl
/-- new int[], new long[] -/
theorem V.newa (X : CallFix p m c cc nL s args Ts own) (hK : KK D cl tys NW s) (t0 : Nat) {atype : ArrayType} {ty : FieldType} (harr : Cond.arrayClass (newarray.typeOf atype) ∈ Ts) (hty : newarray.typeOf atype = ty) {cA : ClassId} (ht : tys[t0]? = some (cA, ty)) (hro : va_RA s cA ty = (s.vm.findClass ("[" ++ ty.toString) = some cA)) {n : Int32} {N' : Nat} {a0 : vp_A} (ha : ∀ cB : ClassId, vp_cell cB a0 = arrV cB N' (fun _ => defaultValue ty)) (hn : ¬ n < 0) (hN : n.toNatClampNeg = N') (hbytes : N' * componentBytes ty ≤ 536870912) (hcells : cells + 1 ≤ R.cells) (hslots : slots + N' ≤ R.slots) (hdg : decode cc pc = .ok (.newarray atype, 2)) (hpc : pc + 2 = pc')
    (kk : ∀ (q : Nat) (M' : mp), M q = none → M' q = some (.inl (cA, a0)) → (∀ r, r ≠ q → M' r = M r) → V p l e R s m args below meth c H0 D cl Q nL M' (cells + 1) (slots + N') pc' lv (.ref q :: st)) : V p l e R s m args below meth c H0 D cl Q nL M cells slots pc lv (.int n :: st) := by
  subst hpc
  subst hty
  intro H locs ls hH hL hl
  refine va_newaK X.1 X.2.1 (X.2.2.2.2 _ harr) rfl hdg rfl hn hN hbytes hcells hslots rfl fun H1 cB e1 z1 o1 hAr hNm => ?_
  have h2 := (hK.1.2 t0 _ ht).2
  rw [hro] at h2
  cases h2.symm.trans hNm
  refine kk H.size _ hH.fresh (va_up_self _ _ _) (fun q h => va_up_ne _ _ h) H1 locs ls (hH.push z1 o1 ?_) hL hl
  show H1[H.size]? = some (vp_cell _ _)
  rw [ha]
  exact e1
/-- new C[] -/
theorem V.newq (X : CallFix p m c cc nL s args Ts own) (hK : KK D cl tys NW s) (t0 : Nat) {C : String} {index : Nat} (hclink : Cond.classLink own index C ∈ Ts) (hover : Cond.arrayOver (.object C) ∈ NW) {cA : ClassId} (ht : tys[t0]? = some (cA, .object C)) {n : Int32} {N' : Nat} (hn : ¬ n < 0) (hN : n.toNatClampNeg = N') (hbytes : N' * 4 ≤ 536870912) (hcells : cells + 1 ≤ R.cells) (hslots : slots + N' ≤ R.slots) (hdg : decode cc pc = .ok (.anewarray index, 3)) (hpc : pc + 3 = pc')
    (kk : ∀ (q : Nat) (M' : mp), M q = none → M' q = some (.inl (cA, N', .inr (.inr (.inr (.inr (fun _ => none)))))) → (∀ r, r ≠ q → M' r = M r) → V p l e R s m args below meth c H0 D cl Q nL M' (cells + 1) (slots + N') pc' lv (.ref q :: st)) : V p l e R s m args below meth c H0 D cl Q nL M cells slots pc lv (.int n :: st) := by
  subst hpc
  subst hN
  intro H locs ls hH hL hl
  refine W.anew X.1 X.2.1 X.2.2.2.1 (X.2.2.2.2 _ hclink) (va_AO.use (hK.2.2 _ hover)) rfl hdg rfl hn hbytes hcells hslots fun cB kA comp f1 f2 f3 f4 => ?_
  obtain ⟨kA', comp', -, -, -, g4⟩ := (hK.1.2 t0 _ ht).2
  cases g4.symm.trans f1
  refine kk H.size _ hH.fresh (va_up_self _ _ _) (fun q h => va_up_ne _ _ h) _ locs ls (hH.push (by rw [Array.size_push]) (fun q hq => by rw [Array.getElem?_push, if_neg (Nat.ne_of_lt hq)]) ?_) hL hl
  show (H.push _)[H.size]? = some (vp_cell _ _)
  rw [vp_cell_q, Array.getElem?_push_size, ← arrV_new]
  rfl
/-- returns -/
theorem V.iret (X : CallFix p m c cc nL s args Ts own) {post : Option Value → mp → Prop} {v : Int32} (hr : meth.sig.returnType = some .int) (hlocks : meth.locks = false) (hp : post (some (.int v)) M) (hdg : decode cc pc = .ok (.ireturn, 1)) : V p l e R s m args below meth c H0 D cl (MQ below (Qm H0 D cl post) args s cells slots (fun q => H0.size ≤ q)) nL M cells slots pc lv [.int v] :=
  fun H locs ls hH hL hl => W.iret X.1 X.2.1 hr (fun t ht hW => ⟨_, M, rfl, hp, by rw [ht]; exact hH⟩) hL hdg hlocks
theorem V.zret (X : CallFix p m c cc nL s args Ts own) {post : Option Value → mp → Prop} {v : Int32} (hr : meth.sig.returnType = some .boolean) (hlocks : meth.locks = false) (hn : narrow .boolean (.int v) = .int v) (hp : post (some (.int v)) M) (hdg : decode cc pc = .ok (.ireturn, 1)) : V p l e R s m args below meth c H0 D cl (MQ below (Qm H0 D cl post) args s cells slots (fun q => H0.size ≤ q)) nL M cells slots pc lv [.int v] :=
  fun H locs ls hH hL hl => W.zret X.1 X.2.1 hr hn (fun t ht hW => ⟨_, M, rfl, hp, by rw [ht]; exact hH⟩) hL hdg hlocks
theorem V.lret (X : CallFix p m c cc nL s args Ts own) {post : Option Value → mp → Prop} {v : Int64} (hr : meth.sig.returnType = some .long) (hlocks : meth.locks = false) (hp : post (some (.long v)) M) (hdg : decode cc pc = .ok (.lreturn, 1)) : V p l e R s m args below meth c H0 D cl (MQ below (Qm H0 D cl post) args s cells slots (fun q => H0.size ≤ q)) nL M cells slots pc lv [.long v] :=
  fun H locs ls hH hL hl => W.lret X.1 X.2.1 hr (fun t ht hW => ⟨_, M, rfl, hp, by rw [ht]; exact hH⟩) hL hdg hlocks
theorem V.vret (X : CallFix p m c cc nL s args Ts own) {post : Option Value → mp → Prop} (hr : meth.sig.returnType = none) (hlocks : meth.locks = false) (hp : post none M) (hdg : decode cc pc = .ok (.return_, 1)) : V p l e R s m args below meth c H0 D cl (MQ below (Qm H0 D cl post) args s cells slots (fun q => H0.size ≤ q)) nL M cells slots pc lv [] :=
  fun H locs ls hH hL hl => W.vret X.1 X.2.1 hr (fun t ht hW => ⟨_, M, rfl, hp, by rw [ht]; exact hH⟩) hL hdg hlocks
theorem V.aret (X : CallFix p m c cc nL s args Ts own) {post : Option Value → mp → Prop} {v : Value} {C : String} (hr : meth.sig.returnType = some (.object C)) (hlocks : meth.locks = false) (hv : v = .null ∨ ∃ a, v = .ref a) (hp : post (some v) M) (hdg : decode cc pc = .ok (.areturn, 1)) : V p l e R s m args below meth c H0 D cl (MQ below (Qm H0 D cl post) args s cells slots (fun q => H0.size ≤ q)) nL M cells slots pc lv [v] :=
  fun H locs ls hH hL hl => W.aret X.1 X.2.1 hr (Or.inl ⟨C, rfl⟩) hv (fun t ht hW => ⟨_, M, rfl, hp, by rw [ht]; exact hH⟩) hL hdg hlocks
/-- calls -/
theorem V.run {rest st0 : List Value} {mc ms : Nat} {a : Array Value} {post : Option Value → mp → Prop} (hr : ∀ (H : Heap) (locs : List Loc) (ls : Array Slot), hw H0 D cl M H → lv_has ls nL lv → va_Run p l e R s m args below meth c H locs cells slots mc ms (F0 m pc ls st0) rest (Qm H0 D cl post a) (fun q => H0.size ≤ q)) (hpc : pc + 3 = pc')
    (kk : ∀ (v : Option Value) (M' : mp), post v M' → V p l e R s m args below meth c H0 D cl Q nL M' (cells + mc) (slots + ms) pc' lv (v.toList ++ rest)) : V p l e R s m args below meth c H0 D cl Q nL M cells slots pc lv st0 := by
  subst hpc
  intro H locs ls hH hL hl T hT X
  obtain ⟨v, st₀, t, T', L, h0, X', hL', e1, e2, ⟨v', M', hv, hp, hH'⟩, st1⟩ := hr H locs ls hH hl T hT X
  cases hv
  obtain ⟨t2, a1, b1⟩ := kk v M' hp T'.heap (locs ++ L) ls (by rw [e1]; exact hH') (fun q hq => by
    rcases List.mem_append.mp hq with h | h
    · exact hL q h
    · exact hL' q h) hl T' rfl X'
  exact ⟨t2, st1 t2 a1, b1⟩
theorem V.callV (X : CallFix p m c cc nL s args Ts own) (hK : KK D cl tys NW s) {y : MethodName} {ws : List Cond} {rm : Room} {r : Option Value} {P : mp → Prop} {bytes : ByteArray} {maxL n index ci b N : Nat} {ret : Option FieldType} {C : String} {T : u_T} {fs As rest st0 st1 : List Value} (hM : MC l H0 D cl tys NW y ws rm (.ref b :: As) M (fun v M' => v = r ∧ P M')) (hb : M b = some (.inr (ci, fs))) (hc : cl[ci]? = some (C, T, N)) (cw : CallW R s args own C index y bytes maxL ret ws rm rm.cells rm.slots n) (hn : As.length = n) (hst : st0 = As.reverse ++ .ref b :: rest) (hroom : (rest.map fun v => v.category).sum ≤ 8) (hdg : decode cc pc = .ok (.invokevirtual index, 3)) (hf : cells + rm.cells ≤ R.cells ∧ slots + rm.slots ≤ R.slots) (hpc : pc + 3 = pc') (hst1 : r.toList ++ rest = st1)
    (kk : ∀ M' : mp, P M' → V p l e R s m args below meth c H0 D cl Q nL M' (cells + rm.cells) (slots + rm.slots) pc' lv st1) : V p l e R s m args below meth c H0 D cl Q nL M cells slots pc lv st0 :=
  V.run (fun H locs ls hH hl => va_runV X hM cw ⟨MC.blind, va_recv hK.1 (hH.one hb) hc (q0 := 0) rfl, fun U hU hW => ⟨rfl, by rw [hU]; exact hH, hK.moved hW⟩⟩ rfl hn hl.1 hst (lv_room hroom) hdg hf) hpc (fun v M' h => by rw [h.1, hst1]; exact kk M' h.2)
theorem V.callV0 (X : CallFix p m c cc nL s args Ts own) (hK : KK D cl tys NW s) {y : MethodName} {ws : List Cond} {rm : Room} {r : Option Value} {bytes : ByteArray} {maxL n index ci b N : Nat} {ret : Option FieldType} {C : String} {T : u_T} {fs As rest st0 st1 : List Value} (hM : MC l H0 D cl tys NW y ws rm (.ref b :: As) M (fun v M' => v = r ∧ M' = M)) (hb : M b = some (.inr (ci, fs))) (hc : cl[ci]? = some (C, T, N)) (cw : CallW R s args own C index y bytes maxL ret ws rm rm.cells rm.slots n) (hn : As.length = n) (hst : st0 = As.reverse ++ .ref b :: rest) (hroom : (rest.map fun v => v.category).sum ≤ 8) (hdg : decode cc pc = .ok (.invokevirtual index, 3)) (hf : cells + rm.cells ≤ R.cells ∧ slots + rm.slots ≤ R.slots) (hpc : pc + 3 = pc') (hst1 : r.toList ++ rest = st1)
    (kk : V p l e R s m args below meth c H0 D cl Q nL M (cells + rm.cells) (slots + rm.slots) pc' lv st1) : V p l e R s m args below meth c H0 D cl Q nL M cells slots pc lv st0 :=
  V.run (fun H locs ls hH hl => va_runV X hM cw ⟨MC.blind, va_recv hK.1 (hH.one hb) hc (q0 := 0) rfl, fun U hU hW => ⟨rfl, by rw [hU]; exact hH, hK.moved hW⟩⟩ rfl hn hl.1 hst (lv_room hroom) hdg hf) hpc (fun v M' h => by rw [h.1, hst1]; rw [h.2]; exact kk)
theorem V.callVN (X : CallFix p m c cc nL s args Ts own) (hK : KK D cl tys NW s) {y : MethodName} {ws : List Cond} {rm : Room} {r : Option Value} {P : mp → Prop} {bytes : ByteArray} {maxL n index ci b N : Nat} {ret : Option FieldType} {C host : String} {T : u_T} {fs As rest st0 st1 : List Value} (hM : MC l H0 D cl tys NW y ws rm (.ref b :: As) M (fun v M' => v = r ∧ P M')) (hb : M b = some (.inr (ci, fs))) (hc : cl[ci]? = some (C, T, N)) (cw : va_CN R s args own index y host bytes maxL ret ws rm rm.cells rm.slots n ∧ (Cond.instanceMethod y).before args s = true ∧ (Cond.selects C y y).before args s = true) (hn : As.length = n) (hst : st0 = As.reverse ++ .ref b :: rest) (hroom : (rest.map fun v => v.category).sum ≤ 8) (hdg : decode cc pc = .ok (.invokevirtual index, 3)) (hf : cells + rm.cells ≤ R.cells ∧ slots + rm.slots ≤ R.slots) (hpc : pc + 3 = pc') (hst1 : r.toList ++ rest = st1)
    (kk : ∀ M' : mp, P M' → V p l e R s m args below meth c H0 D cl Q nL M' (cells + rm.cells) (slots + rm.slots) pc' lv st1) : V p l e R s m args below meth c H0 D cl Q nL M cells slots pc lv st0 :=
  V.run (fun H locs ls hH hl => va_runVN X hM cw ⟨MC.blind, va_recv hK.1 (hH.one hb) hc (q0 := 0) rfl, fun U hU hW => ⟨rfl, by rw [hU]; exact hH, hK.moved hW⟩⟩ rfl hn hl.1 hst (lv_room hroom) hdg hf) hpc (fun v M' h => by rw [h.1, hst1]; exact kk M' h.2)
theorem V.callVN0 (X : CallFix p m c cc nL s args Ts own) (hK : KK D cl tys NW s) {y : MethodName} {ws : List Cond} {rm : Room} {r : Option Value} {bytes : ByteArray} {maxL n index ci b N : Nat} {ret : Option FieldType} {C host : String} {T : u_T} {fs As rest st0 st1 : List Value} (hM : MC l H0 D cl tys NW y ws rm (.ref b :: As) M (fun v M' => v = r ∧ M' = M)) (hb : M b = some (.inr (ci, fs))) (hc : cl[ci]? = some (C, T, N)) (cw : va_CN R s args own index y host bytes maxL ret ws rm rm.cells rm.slots n ∧ (Cond.instanceMethod y).before args s = true ∧ (Cond.selects C y y).before args s = true) (hn : As.length = n) (hst : st0 = As.reverse ++ .ref b :: rest) (hroom : (rest.map fun v => v.category).sum ≤ 8) (hdg : decode cc pc = .ok (.invokevirtual index, 3)) (hf : cells + rm.cells ≤ R.cells ∧ slots + rm.slots ≤ R.slots) (hpc : pc + 3 = pc') (hst1 : r.toList ++ rest = st1)
    (kk : V p l e R s m args below meth c H0 D cl Q nL M (cells + rm.cells) (slots + rm.slots) pc' lv st1) : V p l e R s m args below meth c H0 D cl Q nL M cells slots pc lv st0 :=
  V.run (fun H locs ls hH hl => va_runVN X hM cw ⟨MC.blind, va_recv hK.1 (hH.one hb) hc (q0 := 0) rfl, fun U hU hW => ⟨rfl, by rw [hU]; exact hH, hK.moved hW⟩⟩ rfl hn hl.1 hst (lv_room hroom) hdg hf) hpc (fun v M' h => by rw [h.1, hst1]; rw [h.2]; exact kk)
theorem V.callS (X : CallFix p m c cc nL s args Ts own) (hK : KK D cl tys NW s) {y : MethodName} {ws : List Cond} {rm : Room} {r : Option Value} {P : mp → Prop} {bytes : ByteArray} {maxL n index : Nat} {ret : Option FieldType} {As rest st0 st1 : List Value} (hM : MC l H0 D cl tys NW y ws rm As M (fun v M' => v = r ∧ P M')) (cw : CallB R s args own index y bytes maxL ret ws rm rm.cells rm.slots n ∧ (Cond.static y).before args s = true) (hn : As.length = n) (hst : st0 = As.reverse ++ rest) (hroom : (rest.map fun v => v.category).sum ≤ 8) (hdg : decode cc pc = .ok (.invokestatic index, 3)) (hf : cells + rm.cells ≤ R.cells ∧ slots + rm.slots ≤ R.slots) (hpc : pc + 3 = pc') (hst1 : r.toList ++ rest = st1)
    (kk : ∀ M' : mp, P M' → V p l e R s m args below meth c H0 D cl Q nL M' (cells + rm.cells) (slots + rm.slots) pc' lv st1) : V p l e R s m args below meth c H0 D cl Q nL M cells slots pc lv st0 :=
  V.run (fun H locs ls hH hl => va_runS X hM cw ⟨MC.blind, fun U hU hW => ⟨rfl, by rw [hU]; exact hH, hK.moved hW⟩⟩ rfl hn hl.1 hst (lv_room hroom) hdg hf) hpc (fun v M' h => by rw [h.1, hst1]; exact kk M' h.2)
theorem V.callS0 (X : CallFix p m c cc nL s args Ts own) (hK : KK D cl tys NW s) {y : MethodName} {ws : List Cond} {rm : Room} {r : Option Value} {bytes : ByteArray} {maxL n index : Nat} {ret : Option FieldType} {As rest st0 st1 : List Value} (hM : MC l H0 D cl tys NW y ws rm As M (fun v M' => v = r ∧ M' = M)) (cw : CallB R s args own index y bytes maxL ret ws rm rm.cells rm.slots n ∧ (Cond.static y).before args s = true) (hn : As.length = n) (hst : st0 = As.reverse ++ rest) (hroom : (rest.map fun v => v.category).sum ≤ 8) (hdg : decode cc pc = .ok (.invokestatic index, 3)) (hf : cells + rm.cells ≤ R.cells ∧ slots + rm.slots ≤ R.slots) (hpc : pc + 3 = pc') (hst1 : r.toList ++ rest = st1)
    (kk : V p l e R s m args below meth c H0 D cl Q nL M (cells + rm.cells) (slots + rm.slots) pc' lv st1) : V p l e R s m args below meth c H0 D cl Q nL M cells slots pc lv st0 :=
  V.run (fun H locs ls hH hl => va_runS X hM cw ⟨MC.blind, fun U hU hW => ⟨rfl, by rw [hU]; exact hH, hK.moved hW⟩⟩ rfl hn hl.1 hst (lv_room hroom) hdg hf) hpc (fun v M' h => by rw [h.1, hst1]; rw [h.2]; exact kk)
theorem V.callI (X : CallFix p m c cc nL s args Ts own) (hK : KK D cl tys NW s) {y : MethodName} {ws : List Cond} {rm : Room} {r : Option Value} {P : mp → Prop} {bytes : ByteArray} {maxL n index b : Nat} {As rest st0 st1 : List Value} (hM : MC l H0 D cl tys NW y ws rm (.ref b :: As) M (fun v M' => v = r ∧ P M')) (cw : CallB R s args own index y bytes maxL none ws rm rm.cells rm.slots n ∧ y.name = "<init>" ∧ (Cond.instanceMethod y).before args s = true) (hn : As.length = n) (hst : st0 = As.reverse ++ .ref b :: rest) (hroom : (rest.map fun v => v.category).sum ≤ 8) (hdg : decode cc pc = .ok (.invokespecial index, 3)) (hf : cells + rm.cells ≤ R.cells ∧ slots + rm.slots ≤ R.slots) (hpc : pc + 3 = pc') (hst1 : r.toList ++ rest = st1)
    (kk : ∀ M' : mp, P M' → V p l e R s m args below meth c H0 D cl Q nL M' (cells + rm.cells) (slots + rm.slots) pc' lv st1) : V p l e R s m args below meth c H0 D cl Q nL M cells slots pc lv st0 :=
  V.run (fun H locs ls hH hl => va_runI X hM cw ⟨MC.blind, fun U hU hW => ⟨rfl, by rw [hU]; exact hH, hK.moved hW⟩⟩ rfl hn hl.1 hst (lv_room hroom) hdg hf) hpc (fun v M' h => by rw [h.1, hst1]; exact kk M' h.2)
theorem V.callI0 (X : CallFix p m c cc nL s args Ts own) (hK : KK D cl tys NW s) {y : MethodName} {ws : List Cond} {rm : Room} {r : Option Value} {bytes : ByteArray} {maxL n index b : Nat} {As rest st0 st1 : List Value} (hM : MC l H0 D cl tys NW y ws rm (.ref b :: As) M (fun v M' => v = r ∧ M' = M)) (cw : CallB R s args own index y bytes maxL none ws rm rm.cells rm.slots n ∧ y.name = "<init>" ∧ (Cond.instanceMethod y).before args s = true) (hn : As.length = n) (hst : st0 = As.reverse ++ .ref b :: rest) (hroom : (rest.map fun v => v.category).sum ≤ 8) (hdg : decode cc pc = .ok (.invokespecial index, 3)) (hf : cells + rm.cells ≤ R.cells ∧ slots + rm.slots ≤ R.slots) (hpc : pc + 3 = pc') (hst1 : r.toList ++ rest = st1)
    (kk : V p l e R s m args below meth c H0 D cl Q nL M (cells + rm.cells) (slots + rm.slots) pc' lv st1) : V p l e R s m args below meth c H0 D cl Q nL M cells slots pc lv st0 :=
  V.run (fun H locs ls hH hl => va_runI X hM cw ⟨MC.blind, fun U hU hW => ⟨rfl, by rw [hU]; exact hH, hK.moved hW⟩⟩ rfl hn hl.1 hst (lv_room hroom) hdg hf) hpc (fun v M' h => by rw [h.1, hst1]; rw [h.2]; exact kk)
/-- branches, loads, stores -/
theorem V.br {P : Prop} {tgt : Nat} {st' : List Value} (f : ∀ {H : Heap} {locs : List Loc} {ls : Array Slot}, (P → W p l e R s m args below meth c H locs cells slots Q (F0 m tgt ls st')) → (¬ P → W p l e R s m args below meth c H locs cells slots Q (F0 m pc' ls st')) → W p l e R s m args below meth c H locs cells slots Q (F0 m pc ls st)) (k1 : P → V p l e R s m args below meth c H0 D cl Q nL M cells slots tgt lv st') (k2 : ¬ P → V p l e R s m args below meth c H0 D cl Q nL M cells slots pc' lv st') : V p l e R s m args below meth c H0 D cl Q nL M cells slots pc lv st :=
  fun H locs ls hH hL hl => f (fun h => k1 h H locs ls hH hL hl) (fun h => k2 h H locs ls hH hL hl)
theorem V.wr {st' : List Value} (f : ∀ {H : Heap} {locs : List Loc} {ls : Array Slot}, lv_has ls nL lv → (∀ ls' : Array Slot, lv_has ls' nL lv' → W p l e R s m args below meth c H locs cells slots Q (F0 m pc' ls' st')) → W p l e R s m args below meth c H locs cells slots Q (F0 m pc ls st)) (k : V p l e R s m args below meth c H0 D cl Q nL M cells slots pc' lv' st') : V p l e R s m args below meth c H0 D cl Q nL M cells slots pc lv st :=
  fun H locs ls hH hL hl => f hl (fun ls' hl' => k H locs ls' hH hL hl')
theorem V.dec {P : Prop} (k1 : P → V p l e R s m args below meth c H0 D cl Q nL M cells slots pc lv st) (k2 : ¬ P → V p l e R s m args below meth c H0 D cl Q nL M cells slots pc lv st) : V p l e R s m args below meth c H0 D cl Q nL M cells slots pc lv st := (Classical.em P).elim k1 k2
theorem V.brT {P : Prop} {tgt : Nat} {st' : List Value} (f : ∀ {H : Heap} {locs : List Loc} {ls : Array Slot}, (P → W p l e R s m args below meth c H locs cells slots Q (F0 m tgt ls st')) → (¬ P → W p l e R s m args below meth c H locs cells slots Q (F0 m pc' ls st')) → W p l e R s m args below meth c H locs cells slots Q (F0 m pc ls st)) (h : P) (k : V p l e R s m args below meth c H0 D cl Q nL M cells slots tgt lv st') : V p l e R s m args below meth c H0 D cl Q nL M cells slots pc lv st := V.br f (fun _ => k) (fun n => absurd h n)
theorem V.brF {P : Prop} {tgt : Nat} {st' : List Value} (f : ∀ {H : Heap} {locs : List Loc} {ls : Array Slot}, (P → W p l e R s m args below meth c H locs cells slots Q (F0 m tgt ls st')) → (¬ P → W p l e R s m args below meth c H locs cells slots Q (F0 m pc' ls st')) → W p l e R s m args below meth c H locs cells slots Q (F0 m pc ls st)) (h : ¬ P) (k : V p l e R s m args below meth c H0 D cl Q nL M cells slots pc' lv st') : V p l e R s m args below meth c H0 D cl Q nL M cells slots pc lv st := V.br f (fun n => absurd n h) (fun _ => k)
/-- '!=' : the first goal is that of equality, which goes on behind -/
theorem V.bn {P : Prop} {tgt : Nat} {st' : List Value} (f : ∀ {H : Heap} {locs : List Loc} {ls : Array Slot}, (¬ P → W p l e R s m args below meth c H locs cells slots Q (F0 m tgt ls st')) → (P → W p l e R s m args below meth c H locs cells slots Q (F0 m pc' ls st')) → W p l e R s m args below meth c H locs cells slots Q (F0 m pc ls st)) (k1 : P → V p l e R s m args below meth c H0 D cl Q nL M cells slots pc' lv st') (k2 : ¬ P → V p l e R s m args below meth c H0 D cl Q nL M cells slots tgt lv st') : V p l e R s m args below meth c H0 D cl Q nL M cells slots pc lv st :=
  fun H locs ls hH hL hl => f (fun h => k2 h H locs ls hH hL hl) (fun h => k1 h H locs ls hH hL hl)
theorem V.bnT {P : Prop} {tgt : Nat} {st' : List Value} (f : ∀ {H : Heap} {locs : List Loc} {ls : Array Slot}, (¬ P → W p l e R s m args below meth c H locs cells slots Q (F0 m tgt ls st')) → (P → W p l e R s m args below meth c H locs cells slots Q (F0 m pc' ls st')) → W p l e R s m args below meth c H locs cells slots Q (F0 m pc ls st)) (h : P) (k : V p l e R s m args below meth c H0 D cl Q nL M cells slots pc' lv st') : V p l e R s m args below meth c H0 D cl Q nL M cells slots pc lv st := V.bn f (fun _ => k) (fun n => absurd h n)
theorem V.bnF {P : Prop} {tgt : Nat} {st' : List Value} (f : ∀ {H : Heap} {locs : List Loc} {ls : Array Slot}, (¬ P → W p l e R s m args below meth c H locs cells slots Q (F0 m tgt ls st')) → (P → W p l e R s m args below meth c H locs cells slots Q (F0 m pc' ls st')) → W p l e R s m args below meth c H locs cells slots Q (F0 m pc ls st)) (h : ¬ P) (k : V p l e R s m args below meth c H0 D cl Q nL M cells slots tgt lv st') : V p l e R s m args below meth c H0 D cl Q nL M cells slots pc lv st := V.bn f (fun n => absurd n h) (fun _ => k)
/-- a reference that may be null: the two roads -/
theorem V.sp {o : Option Nat} {g : Nat → Nat} (k1 : o = none → V p l e R s m args below meth c H0 D cl Q nL M cells slots pc lv (.null :: st)) (k2 : ∀ i : Nat, o = some i → V p l e R s m args below meth c H0 D cl Q nL M cells slots pc lv (.ref (g i) :: st)) : V p l e R s m args below meth c H0 D cl Q nL M cells slots pc lv (va_rf (Option.map g o) :: st) := by
  cases o with
  | none => exact k1 rfl
  | some i => exact k2 i rfl
theorem V.spN {o : Option Nat} {g : Nat → Nat} (h : o = none) (k : V p l e R s m args below meth c H0 D cl Q nL M cells slots pc lv (.null :: st)) : V p l e R s m args below meth c H0 D cl Q nL M cells slots pc lv (va_rf (Option.map g o) :: st) := by
  subst h
  exact k
theorem V.spS {o : Option Nat} {g : Nat → Nat} {i : Nat} (h : o = some i) (k : V p l e R s m args below meth c H0 D cl Q nL M cells slots pc lv (.ref (g i) :: st)) : V p l e R s m args below meth c H0 D cl Q nL M cells slots pc lv (va_rf (Option.map g o) :: st) := by
  subst h
  exact k
/-- a loop: an invariant with a number that falls -/
theorem V.ind {α : Type} (I : Nat → α → mp → List (Nat × Value) → Prop) {n0 : Nat} {x0 : α} (h0 : I n0 x0 M lv) (step : ∀ n : Nat, (∀ k : Nat, k < n → ∀ (x : α) (M' : mp) (lv' : List (Nat × Value)), I k x M' lv' → V p l e R s m args below meth c H0 D cl Q nL M' cells slots pc lv' st) → ∀ (x : α) (M' : mp) (lv' : List (Nat × Value)), I n x M' lv' → V p l e R s m args below meth c H0 D cl Q nL M' cells slots pc lv' st) : V p l e R s m args below meth c H0 D cl Q nL M cells slots pc lv st := by
  have key : ∀ (n : Nat) (x : α) (M' : mp) (lv' : List (Nat × Value)), I n x M' lv' → V p l e R s m args below meth c H0 D cl Q nL M' cells slots pc lv' st := fun n => Nat.strongRecOn n step
  exact key n0 x0 M lv h0
/-- Math.max -/
theorem V.mmax (X : CallFix p m c cc nL s args Ts own) {index : Nat} {x y : Int32} (hlink : Cond.methodLink own index Lib.Math.max.name ∈ Ts) (hstat : Cond.static Lib.Math.max.name ∈ Ts) (hini : Cond.initialized "java/lang/Math" ∈ Ts) (hcode : Cond.code Lib.Math.max.name Lib.Math.max.code 2 (some .int) ∈ Ts) (hst : (st.map fun v => v.category).sum ≤ 8) (hframes : 1 ≤ R.frames) (hlocals : 21 ≤ R.locals) (hc : cells ≤ R.cells) (hs : slots ≤ R.slots) (hdg : decode cc pc = .ok (.invokestatic index, 3)) (hpc : pc + 3 = pc')
    (kk : V p l e R s m args below meth c H0 D cl Q nL M cells slots pc' lv (.int (imax x y) :: st)) : V p l e R s m args below meth c H0 D cl Q nL M cells slots pc lv (.int y :: .int x :: st) := by
  subst hpc
  intro H locs ls hH hL hl
  exact va_mmax X.1 X.2.1 (X.2.2.1.trans hl.1.symm) X.2.2.2.1 (X.2.2.2.2 _ hlink) (X.2.2.2.2 _ hstat) (X.2.2.2.2 _ hini) (X.2.2.2.2 _ hcode) hframes (by omega) hc hs hdg (kk H locs ls hH hL hl)
/-- Object.<init> -/
theorem V.obj (X : CallFix p m c cc nL s args Ts own) {idx a : Nat} (hlink : Cond.methodLink own idx objectInit ∈ Ts) (hinst : Cond.instanceMethod objectInit ∈ Ts) (hcode : Cond.code objectInit ⟨#[0xb1]⟩ 1 none ∈ Ts) (hst : (st.map fun v => v.category).sum ≤ 8) (hdg : decode cc pc = .ok (.invokespecial idx, 3)) (hframes : 1 ≤ R.frames) (hlocals : 20 ≤ R.locals) (hpc : pc + 3 = pc')
    (kk : V p l e R s m args below meth c H0 D cl Q nL M cells slots pc' lv st) : V p l e R s m args below meth c H0 D cl Q nL M cells slots pc lv (.ref a :: st) := by
  subst hpc
  intro H locs ls hH hL hl
  have h8 := lv_room (m := m) (pc := pc) (ls := ls) (rest := .ref a :: st) hst
  exact W.objInit X.1 X.2.1 X.2.2.2.1 (X.2.2.2.2 _ hlink) (X.2.2.2.2 _ hinst) (X.2.2.2.2 _ hcode) rfl (by rw [X.2.2.1]; exact hl.1) rfl hdg hframes (by omega) (kk H locs ls hH hL hl)
end VL
/-- the kind of a content: contents of different kinds lie apart -/
def tg (x : va_E) : Nat := match x with
  | .inr (ci, _) => ci
  | .inl (_, n, .inl _) => 1000 + n
  | .inl (_, n, .inr (.inl _)) => 100000 + n
  | .inl (_, n, .inr (.inr (.inr (.inr _)))) => 10000000 + n
  | .inl (_, _, _) => 999999999
theorem ne_k {M : mp} {a b : Nat} {x y : va_E} (ha : M a = some x) (hb : M b = some y) {i j : Nat} (hi : tg x = i) (hj : tg y = j) (h : i ≠ j) : a ≠ b := by
  intro e
  rw [e, hb] at ha
  cases ha
  exact h (hi.symm.trans hj)
theorem ne_z {M : mp} {a b : Nat} {x : va_E} (ha : M a = some x) (hb : M b = none) : a ≠ b := by
  intro e
  rw [e, hb] at ha
  cases ha
def oc {α : Type} (o : Option Nat) (a : α) (f : Nat → α) : α := match o with
  | none => a
  | some i => f i
theorem oc_none {α : Type} (a : α) (f : Nat → α) : oc none a f = a := rfl
theorem oc_some {α : Type} (i : Nat) (a : α) (f : Nat → α) : oc (some i) a f = f i := rfl
theorem vin {i : Int32} {n : Nat} (h1 : 0 ≤ i.toInt) (h2 : i.toInt < (n : Int)) : vp_in i n := vp_in_iff.mpr ⟨h1, h2⟩
theorem i32_add1 {x : Int32} (h : x.toInt < 2147483647) : (x + 1).toInt = x.toInt + 1 := by
  have h1 := Int32.le_toInt x
  rw [Int32.toInt_add, show (1 : Int32).toInt = 1 from rfl]
  exact Int.bmod_eq_of_le (by omega) (by omega)
theorem i32_addm1 {x : Int32} (h : -2147483648 < x.toInt) : (x + (-1)).toInt = x.toInt + (-1) := by
  have h1 := Int32.toInt_lt x
  rw [Int32.toInt_add, show (-1 : Int32).toInt = -1 from rfl]
  exact Int.bmod_eq_of_le (by omega) (by omega)
theorem i32_sub1 {x : Int32} (h : -2147483648 < x.toInt) : (x - 1).toInt = x.toInt - 1 := by
  have h1 := Int32.toInt_lt x
  rw [Int32.toInt_sub, show (1 : Int32).toInt = 1 from rfl]
  exact Int.bmod_eq_of_le (by omega) (by omega)
/-! the statements of a program: a pool -/
def Stm : Type := Int32 × Int32 × Int32 × Int32 × Int32 × Int32 × Int32 × (Nat → Int32) × (Nat → Int64) × (Nat → Int32) × (Nat → Int64) × (Nat → Int64)
def st_f (x : Stm) : Int32 := x.1
def st_t (x : Stm) : Int32 := x.2.1
def st_k (x : Stm) : Int32 := x.2.2.1
def st_n (x : Stm) : Int32 := x.2.2.2.1
def st_a (x : Stm) : Int32 := x.2.2.2.2.1
def st_c (x : Stm) : Int32 := x.2.2.2.2.2.1
def st_l (x : Stm) : Int32 := x.2.2.2.2.2.2.1
def st_kc (x : Stm) : Nat → Int32 := x.2.2.2.2.2.2.2.1
def st_kv (x : Stm) : Nat → Int64 := x.2.2.2.2.2.2.2.2.1
def st_lc (x : Stm) : Nat → Int32 := x.2.2.2.2.2.2.2.2.2.1
def st_fv (x : Stm) : Nat → Int64 := x.2.2.2.2.2.2.2.2.2.2.1
def st_lz (x : Stm) : Nat → Int64 := x.2.2.2.2.2.2.2.2.2.2.2
def SP (cI cL : ClassId) (M : mp) (ns : Int32) (sa c1 c2 c3 c4 c5 : Nat → Nat) (σ : Nat → Stm) : Prop := ∀ i : Nat, (i : Int) < ns.toInt →
  M (sa i) = some (.inr (4, [.int (st_f (σ i)), .int (st_t (σ i)), .int (st_k (σ i)), .int (st_n (σ i)), .int (st_a (σ i)), .int (st_c (σ i)), .int (st_l (σ i)), .ref (c1 i), .ref (c2 i), .ref (c3 i), .ref (c4 i), .ref (c5 i)])) ∧
  M (c1 i) = some (.inl (cI, 7, .inl (st_kc (σ i)))) ∧ M (c2 i) = some (.inl (cL, 7, .inr (.inl (st_kv (σ i))))) ∧ M (c3 i) = some (.inl (cI, 7, .inl (st_lc (σ i)))) ∧ M (c4 i) = some (.inl (cL, 7, .inr (.inl (st_fv (σ i))))) ∧ M (c5 i) = some (.inl (cL, 7, .inr (.inl (st_lz (σ i)))))
def pt (j : Nat) : Bool := j == 4 || j == 1007 || j == 100007
theorem SP.keep {cI cL : ClassId} {M M' : mp} {ns : Int32} {sa c1 c2 c3 c4 c5 : Nat → Nat} {σ : Nat → Stm} (h : SP cI cL M ns sa c1 c2 c3 c4 c5 σ) (hk : ∀ (q : Nat) (e : va_E), M q = some e → pt (tg e) = true → M' q = M q) : SP cI cL M' ns sa c1 c2 c3 c4 c5 σ := by
  intro i hi
  obtain ⟨h0, h1, h2, h3, h4, h5⟩ := h i hi
  exact ⟨(hk _ _ h0 rfl).trans h0, (hk _ _ h1 rfl).trans h1, (hk _ _ h2 rfl).trans h2, (hk _ _ h3 rfl).trans h3, (hk _ _ h4 rfl).trans h4, (hk _ _ h5 rfl).trans h5⟩
theorem ne_p {M : mp} {q a : Nat} {e x : va_E} (hq : M q = some e) (ht : pt (tg e) = true) (ha : M a = some x) {j : Nat} (hj : tg x = j) (hn : pt j = false) : q ≠ a := by
  intro h
  rw [h, ha] at hq
  cases hq
  rw [hj, hn] at ht
  cases ht
abbrev tysOf (cI cL cQ cB : ClassId) : List (ClassId × FieldType) := [(cI, .int), (cL, .long), (cQ, .object "PerformRanges$Statement"), (cB, .boolean)]
theorem gw_good {z y : Cond} (hy : y ∈ GW) : GoodIn (z :: GW) (y :: GW) := by
  intro w hw
  have h1 : w ∈ GW := by
    rcases List.mem_cons.mp hw with h | h
    · rw [h]; exact hy
    · exact h
  exact ⟨mcs h1, good_of_word (List.mem_filter.mp h1).2⟩
section CG
variable {p : Program} {m : MethodId} {c : Code} {cc bytes : ByteArray} {nL maxL n index : Nat} {s : State} {args : Array Value} {own C : String} {z : Cond} {R rm : Room} {y : MethodName} {ret : Option FieldType}
theorem cwG (X : CallFix p m c cc nL s args (z :: GW) own) (h1 : Cond.methodLink own index y ∈ z :: GW) (h2 : Cond.instanceMethod y ∈ z :: GW) (h3 : Cond.selects C y y ∈ z :: GW) (h4 : Cond.initialized y.cls ∈ z :: GW) (h5 : Cond.code y bytes maxL ret ∈ GW)
    (hd : y.cls ≠ "java/lang/invoke/MethodHandle" ∧ y.cls ≠ "java/lang/invoke/VarHandle" ∧ (parseMethodDescriptor y.desc).map (fun d => d.parameters.length) = some n) (hR1 : rm.frames + 1 ≤ R.frames) (hR2 : 8 + (maxL + 11) + rm.locals ≤ R.locals) : CallW R s args own C index y bytes maxL ret (Cond.code y bytes maxL ret :: GW) rm rm.cells rm.slots n :=
  ⟨callB_of n X.2.2.2.2 (gw_good h5) rfl rfl rfl (X.2.2.2.2 _ h4) (X.2.2.2.2 _ h1) hd ⟨hR1, hR2⟩, X.2.2.2.2 _ h2, X.2.2.2.2 _ h3⟩
theorem csG (X : CallFix p m c cc nL s args (z :: GW) own) (h1 : Cond.methodLink own index y ∈ z :: GW) (h2 : Cond.static y ∈ z :: GW) (h4 : Cond.initialized y.cls ∈ z :: GW) (h5 : Cond.code y bytes maxL ret ∈ GW)
    (hd : y.cls ≠ "java/lang/invoke/MethodHandle" ∧ y.cls ≠ "java/lang/invoke/VarHandle" ∧ (parseMethodDescriptor y.desc).map (fun d => d.parameters.length) = some n) (hR1 : rm.frames + 1 ≤ R.frames) (hR2 : 8 + (maxL + 11) + rm.locals ≤ R.locals) : CallB R s args own index y bytes maxL ret (Cond.code y bytes maxL ret :: GW) rm rm.cells rm.slots n ∧ (Cond.static y).before args s = true :=
  ⟨callB_of n X.2.2.2.2 (gw_good h5) rfl rfl rfl (X.2.2.2.2 _ h4) (X.2.2.2.2 _ h1) hd ⟨hR1, hR2⟩, X.2.2.2.2 _ h2⟩
theorem ciG (X : CallFix p m c cc nL s args (z :: GW) own) (h1 : Cond.methodLink own index y ∈ z :: GW) (h2 : Cond.instanceMethod y ∈ z :: GW) (h4 : Cond.initialized y.cls ∈ z :: GW) (h5 : Cond.code y bytes maxL none ∈ GW) (hy : y.name = "<init>")
    (hd : y.cls ≠ "java/lang/invoke/MethodHandle" ∧ y.cls ≠ "java/lang/invoke/VarHandle" ∧ (parseMethodDescriptor y.desc).map (fun d => d.parameters.length) = some n) (hR1 : rm.frames + 1 ≤ R.frames) (hR2 : 8 + (maxL + 11) + rm.locals ≤ R.locals) : CallB R s args own index y bytes maxL none (Cond.code y bytes maxL none :: GW) rm rm.cells rm.slots n ∧ y.name = "<init>" ∧ (Cond.instanceMethod y).before args s = true :=
  ⟨callB_of n X.2.2.2.2 (gw_good h5) rfl rfl rfl (X.2.2.2.2 _ h4) (X.2.2.2.2 _ h1) hd ⟨hR1, hR2⟩, hy, X.2.2.2.2 _ h2⟩
end CG
end
