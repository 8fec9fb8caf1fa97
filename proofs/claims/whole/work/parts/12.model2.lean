theorem wd_197 : (Jvm.Cond.methodLink "PerformRangesModel" (101 : Nat) ({ cls := "PerformRangesModel", name := "holds", desc := "(II)Z" } : Jvm.MethodName)) ∈ GW := gw_of (i := 678) (by decide +kernel) (by decide +kernel)
theorem wd_198 : (Jvm.Cond.instanceMethod ({ cls := "PerformRangesModel", name := "holds", desc := "(II)Z" } : Jvm.MethodName)) ∈ GW := gw_of (i := 680) (by decide +kernel) (by decide +kernel)
theorem wd_199 : (Jvm.Cond.selects "PerformRangesModel" ({ cls := "PerformRangesModel", name := "holds", desc := "(II)Z" } : Jvm.MethodName) ({ cls := "PerformRangesModel", name := "holds", desc := "(II)Z" } : Jvm.MethodName)) ∈ GW := gw_of (i := 23) (by decide +kernel) (by decide +kernel)
theorem wd_200 : (Jvm.Cond.code ({ cls := "PerformRangesModel", name := "holds", desc := "(II)Z" } : Jvm.MethodName) prog_8_method_12_code (4 : Nat) (Option.some Jvm.ClassFile.FieldType.boolean)) ∈ GW := gw_of (i := 681) (by decide +kernel) (by decide +kernel)
theorem wd_201 : (Jvm.Cond.methodLink "PerformRangesModel" (105 : Nat) ({ cls := "PerformRangesModel", name := "goOn", desc := "(II)V" } : Jvm.MethodName)) ∈ GW := gw_of (i := 690) (by decide +kernel) (by decide +kernel)
theorem wd_202 : (Jvm.Cond.instanceMethod ({ cls := "PerformRangesModel", name := "goOn", desc := "(II)V" } : Jvm.MethodName)) ∈ GW := gw_of (i := 692) (by decide +kernel) (by decide +kernel)
theorem wd_203 : (Jvm.Cond.selects "PerformRangesModel" ({ cls := "PerformRangesModel", name := "goOn", desc := "(II)V" } : Jvm.MethodName) ({ cls := "PerformRangesModel", name := "goOn", desc := "(II)V" } : Jvm.MethodName)) ∈ GW := gw_of (i := 26) (by decide +kernel) (by decide +kernel)
theorem wd_204 : (Jvm.Cond.code ({ cls := "PerformRangesModel", name := "goOn", desc := "(II)V" } : Jvm.MethodName) prog_8_method_14_code (3 : Nat) (Option.none : Option Jvm.ClassFile.FieldType)) ∈ GW := gw_of (i := 693) (by decide +kernel) (by decide +kernel)
theorem wd_205 : (Jvm.Cond.methodLink "PerformRangesModel" (109 : Nat) ({ cls := "PerformRangesModel", name := "begin", desc := "(II)V" } : Jvm.MethodName)) ∈ GW := gw_of (i := 682) (by decide +kernel) (by decide +kernel)
theorem wd_206 : (Jvm.Cond.instanceMethod ({ cls := "PerformRangesModel", name := "begin", desc := "(II)V" } : Jvm.MethodName)) ∈ GW := gw_of (i := 684) (by decide +kernel) (by decide +kernel)
theorem wd_207 : (Jvm.Cond.selects "PerformRangesModel" ({ cls := "PerformRangesModel", name := "begin", desc := "(II)V" } : Jvm.MethodName) ({ cls := "PerformRangesModel", name := "begin", desc := "(II)V" } : Jvm.MethodName)) ∈ GW := gw_of (i := 24) (by decide +kernel) (by decide +kernel)
theorem wd_208 : (Jvm.Cond.code ({ cls := "PerformRangesModel", name := "begin", desc := "(II)V" } : Jvm.MethodName) prog_8_method_13_code (3 : Nat) (Option.none : Option Jvm.ClassFile.FieldType)) ∈ GW := gw_of (i := 685) (by decide +kernel) (by decide +kernel)
theorem wd_209 : (Jvm.Cond.fieldLink "PerformRangesModel" (60 : Nat) "PerformRangesModel" "pile" "[I") ∈ GW := gw_of (i := 532) (by decide +kernel) (by decide +kernel)
theorem wd_210 : (Jvm.Cond.fieldLink "PerformRangesModel" (112 : Nat) "PerformRangesModel" "size" "I") ∈ GW := gw_of (i := 535) (by decide +kernel) (by decide +kernel)
theorem wd_211 : (Jvm.Cond.fieldLink "PerformRangesModel" (66 : Nat) "PerformRangesModel" "left" "[I") ∈ GW := gw_of (i := 534) (by decide +kernel) (by decide +kernel)
theorem wd_212 : (Jvm.Cond.methodLink "PerformRangesModel" (115 : Nat) ({ cls := "PerformRangesModel", name := "goesBehind", desc := "(I)Z" } : Jvm.MethodName)) ∈ GW := gw_of (i := 686) (by decide +kernel) (by decide +kernel)
theorem wd_213 : (Jvm.Cond.instanceMethod ({ cls := "PerformRangesModel", name := "goesBehind", desc := "(I)Z" } : Jvm.MethodName)) ∈ GW := gw_of (i := 688) (by decide +kernel) (by decide +kernel)
theorem wd_214 : (Jvm.Cond.selects "PerformRangesModel" ({ cls := "PerformRangesModel", name := "goesBehind", desc := "(I)Z" } : Jvm.MethodName) ({ cls := "PerformRangesModel", name := "goesBehind", desc := "(I)Z" } : Jvm.MethodName)) ∈ GW := gw_of (i := 25) (by decide +kernel) (by decide +kernel)
theorem wd_215 : (Jvm.Cond.code ({ cls := "PerformRangesModel", name := "goesBehind", desc := "(I)Z" } : Jvm.MethodName) prog_8_method_16_code (4 : Nat) (Option.some Jvm.ClassFile.FieldType.boolean)) ∈ GW := gw_of (i := 689) (by decide +kernel) (by decide +kernel)
theorem wd_216 : (Jvm.Cond.methodLink "PerformRangesModel" (118 : Nat) ({ cls := "PerformRangesModel", name := "goesAhead", desc := "(I)Z" } : Jvm.MethodName)) ∈ GW := gw_of (i := 694) (by decide +kernel) (by decide +kernel)
theorem wd_217 : (Jvm.Cond.instanceMethod ({ cls := "PerformRangesModel", name := "goesAhead", desc := "(I)Z" } : Jvm.MethodName)) ∈ GW := gw_of (i := 696) (by decide +kernel) (by decide +kernel)
theorem wd_218 : (Jvm.Cond.selects "PerformRangesModel" ({ cls := "PerformRangesModel", name := "goesAhead", desc := "(I)Z" } : Jvm.MethodName) ({ cls := "PerformRangesModel", name := "goesAhead", desc := "(I)Z" } : Jvm.MethodName)) ∈ GW := gw_of (i := 27) (by decide +kernel) (by decide +kernel)
theorem wd_219 : (Jvm.Cond.code ({ cls := "PerformRangesModel", name := "goesAhead", desc := "(I)Z" } : Jvm.MethodName) prog_8_method_15_code (5 : Nat) (Option.some Jvm.ClassFile.FieldType.boolean)) ∈ GW := gw_of (i := 697) (by decide +kernel) (by decide +kernel)
def PK (vfrom vkind vlev : Nat → Int32) (v : Int32) : Prop := 0 ≤ v.toInt ∧ v.toInt ≤ 60 ∧ (1 ≤ v.toInt → 1 ≤ (vfrom v.toNatClampNeg).toInt ∧ (¬ vkind v.toNatClampNeg = 0 → ¬ vkind v.toNatClampNeg = 1 → ¬ vkind v.toNatClampNeg = 2 → 1 ≤ (vlev v.toNatClampNeg).toInt))
theorem PK.r {vfrom vkind vlev f : Nat → Int32} (h : ∀ k : Nat, PK vfrom vkind vlev (f k)) (k : Nat) : 0 ≤ (f k).toInt ∧ (f k).toInt ≤ 60 := ⟨(h k).1, (h k).2.1⟩
theorem d_Model_goesAhead_0 : decode prog_8_method_15_code 0 = .ok (.iconst 0, 1) := by decide +kernel
theorem d_Model_goesAhead_1 : decode prog_8_method_15_code 1 = .ok (.istore_n 2, 1) := by decide +kernel
theorem d_Model_goesAhead_2 : decode prog_8_method_15_code 2 = .ok (.iload_n 2, 1) := by decide +kernel
theorem d_Model_goesAhead_3 : decode prog_8_method_15_code 3 = .ok (.sipush 1000, 3) := by decide +kernel
theorem d_Model_goesAhead_6 : decode prog_8_method_15_code 6 = .ok (.if_icmp .ge 95, 3) := by decide +kernel
theorem d_Model_goesAhead_9 : decode prog_8_method_15_code 9 = .ok (.iconst 0, 1) := by decide +kernel
theorem d_Model_goesAhead_10 : decode prog_8_method_15_code 10 = .ok (.istore_n 3, 1) := by decide +kernel
theorem d_Model_goesAhead_11 : decode prog_8_method_15_code 11 = .ok (.aload_n 0, 1) := by decide +kernel
theorem d_Model_goesAhead_12 : decode prog_8_method_15_code 12 = .ok (.getfield 38, 3) := by decide +kernel
theorem d_Model_goesAhead_15 : decode prog_8_method_15_code 15 = .ok (.iload_n 1, 1) := by decide +kernel
theorem d_Model_goesAhead_16 : decode prog_8_method_15_code 16 = .ok (.iaload, 1) := by decide +kernel
theorem d_Model_goesAhead_17 : decode prog_8_method_15_code 17 = .ok (.istore 4, 2) := by decide +kernel
theorem d_Model_goesAhead_19 : decode prog_8_method_15_code 19 = .ok (.iload 4, 2) := by decide +kernel
theorem d_Model_goesAhead_21 : decode prog_8_method_15_code 21 = .ok (.ifCond .le 26, 3) := by decide +kernel
theorem d_Model_goesAhead_24 : decode prog_8_method_15_code 24 = .ok (.aload_n 0, 1) := by decide +kernel
theorem d_Model_goesAhead_25 : decode prog_8_method_15_code 25 = .ok (.iload_n 1, 1) := by decide +kernel
theorem d_Model_goesAhead_26 : decode prog_8_method_15_code 26 = .ok (.iload 4, 2) := by decide +kernel
theorem d_Model_goesAhead_28 : decode prog_8_method_15_code 28 = .ok (.invokevirtual 101, 3) := by decide +kernel
theorem d_Model_goesAhead_31 : decode prog_8_method_15_code 31 = .ok (.ifCond .eq 8, 3) := by decide +kernel
theorem d_Model_goesAhead_34 : decode prog_8_method_15_code 34 = .ok (.iload 4, 2) := by decide +kernel
theorem d_Model_goesAhead_36 : decode prog_8_method_15_code 36 = .ok (.goto 4, 3) := by decide +kernel
theorem d_Model_goesAhead_39 : decode prog_8_method_15_code 39 = .ok (.iload_n 3, 1) := by decide +kernel
theorem d_Model_goesAhead_40 : decode prog_8_method_15_code 40 = .ok (.istore_n 3, 1) := by decide +kernel
theorem d_Model_goesAhead_41 : decode prog_8_method_15_code 41 = .ok (.iinc 4 (-1), 3) := by decide +kernel
theorem d_Model_goesAhead_44 : decode prog_8_method_15_code 44 = .ok (.goto (-25), 3) := by decide +kernel
theorem d_Model_goesAhead_47 : decode prog_8_method_15_code 47 = .ok (.iload_n 3, 1) := by decide +kernel
theorem d_Model_goesAhead_48 : decode prog_8_method_15_code 48 = .ok (.ifCond .ne 5, 3) := by decide +kernel
theorem d_Model_goesAhead_51 : decode prog_8_method_15_code 51 = .ok (.iconst 1, 1) := by decide +kernel
theorem d_Model_goesAhead_52 : decode prog_8_method_15_code 52 = .ok (.ireturn, 1) := by decide +kernel
theorem d_Model_goesAhead_53 : decode prog_8_method_15_code 53 = .ok (.iload_n 3, 1) := by decide +kernel
theorem d_Model_goesAhead_54 : decode prog_8_method_15_code 54 = .ok (.iconst 1, 1) := by decide +kernel
theorem d_Model_goesAhead_55 : decode prog_8_method_15_code 55 = .ok (.if_icmp .ne 5, 3) := by decide +kernel
theorem d_Model_goesAhead_58 : decode prog_8_method_15_code 58 = .ok (.iconst 0, 1) := by decide +kernel
theorem d_Model_goesAhead_59 : decode prog_8_method_15_code 59 = .ok (.ireturn, 1) := by decide +kernel
theorem d_Model_goesAhead_60 : decode prog_8_method_15_code 60 = .ok (.aload_n 0, 1) := by decide +kernel
theorem d_Model_goesAhead_61 : decode prog_8_method_15_code 61 = .ok (.iload_n 1, 1) := by decide +kernel
theorem d_Model_goesAhead_62 : decode prog_8_method_15_code 62 = .ok (.iload_n 3, 1) := by decide +kernel
theorem d_Model_goesAhead_63 : decode prog_8_method_15_code 63 = .ok (.iconst 1, 1) := by decide +kernel
theorem d_Model_goesAhead_64 : decode prog_8_method_15_code 64 = .ok (.isub, 1) := by decide +kernel
theorem d_Model_goesAhead_65 : decode prog_8_method_15_code 65 = .ok (.invokevirtual 105, 3) := by decide +kernel
theorem d_Model_goesAhead_68 : decode prog_8_method_15_code 68 = .ok (.iload_n 3, 1) := by decide +kernel
theorem d_Model_goesAhead_69 : decode prog_8_method_15_code 69 = .ok (.istore 4, 2) := by decide +kernel
theorem d_Model_goesAhead_71 : decode prog_8_method_15_code 71 = .ok (.iload 4, 2) := by decide +kernel
theorem d_Model_goesAhead_73 : decode prog_8_method_15_code 73 = .ok (.aload_n 0, 1) := by decide +kernel
theorem d_Model_goesAhead_74 : decode prog_8_method_15_code 74 = .ok (.getfield 38, 3) := by decide +kernel
theorem d_Model_goesAhead_77 : decode prog_8_method_15_code 77 = .ok (.iload_n 1, 1) := by decide +kernel
theorem d_Model_goesAhead_78 : decode prog_8_method_15_code 78 = .ok (.iaload, 1) := by decide +kernel
theorem d_Model_goesAhead_79 : decode prog_8_method_15_code 79 = .ok (.if_icmp .gt 16, 3) := by decide +kernel
theorem d_Model_goesAhead_82 : decode prog_8_method_15_code 82 = .ok (.aload_n 0, 1) := by decide +kernel
theorem d_Model_goesAhead_83 : decode prog_8_method_15_code 83 = .ok (.iload_n 1, 1) := by decide +kernel
theorem d_Model_goesAhead_84 : decode prog_8_method_15_code 84 = .ok (.iload 4, 2) := by decide +kernel
theorem d_Model_goesAhead_86 : decode prog_8_method_15_code 86 = .ok (.invokevirtual 109, 3) := by decide +kernel
theorem d_Model_goesAhead_89 : decode prog_8_method_15_code 89 = .ok (.iinc 4 1, 3) := by decide +kernel
theorem d_Model_goesAhead_92 : decode prog_8_method_15_code 92 = .ok (.goto (-21), 3) := by decide +kernel
theorem d_Model_goesAhead_95 : decode prog_8_method_15_code 95 = .ok (.iinc 2 1, 3) := by decide +kernel
theorem d_Model_goesAhead_98 : decode prog_8_method_15_code 98 = .ok (.goto (-96), 3) := by decide +kernel
theorem d_Model_goesAhead_101 : decode prog_8_method_15_code 101 = .ok (.iconst 0, 1) := by decide +kernel
theorem d_Model_goesAhead_102 : decode prog_8_method_15_code 102 = .ok (.ireturn, 1) := by decide +kernel

def il_M_goesAhead_19_hd (vcc : Nat → Int32) (vleast : Nat → Int64) (x : Int32) (g : Nat → Int64) : Nat → Int32 → Int32 → Int32
  | 0, hd, _ => hd
  | n_ + 1, hd, j => if j ≤ 0 then hd else if (sp_M_holds g vcc vleast x j) = 0 then il_M_goesAhead_19_hd vcc vleast x g n_ hd (j + (-1)) else il_M_goesAhead_19_hd vcc vleast x g n_ j (j + (-1))
def il_M_goesAhead_19_j (vcc : Nat → Int32) (vleast : Nat → Int64) (x : Int32) (g : Nat → Int64) : Nat → Int32 → Int32 → Int32
  | 0, _, j => j
  | n_ + 1, hd, j => if j ≤ 0 then j else if (sp_M_holds g vcc vleast x j) = 0 then il_M_goesAhead_19_j vcc vleast x g n_ hd (j + (-1)) else il_M_goesAhead_19_j vcc vleast x g n_ j (j + (-1))
def il_M_goesAhead_71_j (vlev : Nat → Int32) (vvar : Nat → Int32) (vfirst : Nat → Int64) (x : Int32) : Nat → Int32 → (Nat → Int64) → Int32
  | 0, j, _ => j
  | n_ + 1, j, g3 => if (vlev x.toNatClampNeg) < j then j else il_M_goesAhead_71_j vlev vvar vfirst x n_ (j + 1) (vp_updL g3 (vvar (((8 * (x - 1)) + j) - 1).toNatClampNeg).toNatClampNeg (vfirst (((8 * (x - 1)) + j) - 1).toNatClampNeg))
def il_M_goesAhead_71_g3 (vlev : Nat → Int32) (vvar : Nat → Int32) (vfirst : Nat → Int64) (x : Int32) : Nat → Int32 → (Nat → Int64) → Nat → Int64
  | 0, _, g3 => g3
  | n_ + 1, j, g3 => if (vlev x.toNatClampNeg) < j then g3 else il_M_goesAhead_71_g3 vlev vvar vfirst x n_ (j + 1) (vp_updL g3 (vvar (((8 * (x - 1)) + j) - 1).toNatClampNeg).toNatClampNeg (vfirst (((8 * (x - 1)) + j) - 1).toNatClampNeg))
def lp_M_goesAhead (vlev : Nat → Int32) (vcc : Nat → Int32) (vvar : Nat → Int32) (vleast : Nat → Int64) (vfirst : Nat → Int64) (vstep : Nat → Int64) (x : Int32) : Nat → Int32 → (Nat → Int64) → Int32
  | 0, _, _ => 0
  | n_ + 1, k, g => if 1000 ≤ k then 0 else if (il_M_goesAhead_19_hd vcc vleast x g 9 0 (vlev x.toNatClampNeg)) = 0 then 1 else if (il_M_goesAhead_19_hd vcc vleast x g 9 0 (vlev x.toNatClampNeg)) = 1 then 0 else lp_M_goesAhead vlev vcc vvar vleast vfirst vstep x n_ (k + 1) (il_M_goesAhead_71_g3 vlev vvar vfirst x 9 (il_M_goesAhead_19_hd vcc vleast x g 9 0 (vlev x.toNatClampNeg)) (vp_updL g (vvar (((8 * (x - 1)) + ((il_M_goesAhead_19_hd vcc vleast x g 9 0 (vlev x.toNatClampNeg)) - 1)) - 1).toNatClampNeg).toNatClampNeg ((g (vvar (((8 * (x - 1)) + ((il_M_goesAhead_19_hd vcc vleast x g 9 0 (vlev x.toNatClampNeg)) - 1)) - 1).toNatClampNeg).toNatClampNeg) + (vstep (((8 * (x - 1)) + ((il_M_goesAhead_19_hd vcc vleast x g 9 0 (vlev x.toNatClampNeg)) - 1)) - 1).toNatClampNeg))))
def lp_M_goesAhead_ad1 (vlev : Nat → Int32) (vcc : Nat → Int32) (vvar : Nat → Int32) (vleast : Nat → Int64) (vfirst : Nat → Int64) (vstep : Nat → Int64) (x : Int32) : Nat → Int32 → (Nat → Int64) → Nat → Int64
  | 0, _, g => g
  | n_ + 1, k, g => if 1000 ≤ k then g else if (il_M_goesAhead_19_hd vcc vleast x g 9 0 (vlev x.toNatClampNeg)) = 0 then g else if (il_M_goesAhead_19_hd vcc vleast x g 9 0 (vlev x.toNatClampNeg)) = 1 then g else lp_M_goesAhead_ad1 vlev vcc vvar vleast vfirst vstep x n_ (k + 1) (il_M_goesAhead_71_g3 vlev vvar vfirst x 9 (il_M_goesAhead_19_hd vcc vleast x g 9 0 (vlev x.toNatClampNeg)) (vp_updL g (vvar (((8 * (x - 1)) + ((il_M_goesAhead_19_hd vcc vleast x g 9 0 (vlev x.toNatClampNeg)) - 1)) - 1).toNatClampNeg).toNatClampNeg ((g (vvar (((8 * (x - 1)) + ((il_M_goesAhead_19_hd vcc vleast x g 9 0 (vlev x.toNatClampNeg)) - 1)) - 1).toNatClampNeg).toNatClampNeg) + (vstep (((8 * (x - 1)) + ((il_M_goesAhead_19_hd vcc vleast x g 9 0 (vlev x.toNatClampNeg)) - 1)) - 1).toNatClampNeg))))
set_option maxHeartbeats 4000000 in
set_option maxRecDepth 100000 in
theorem c_M_goesAhead {l : Launch} {H0 : Heap} {D : va_G} {cI cL cQ cB : ClassId} {M : mp} {mo : Nat} {ad : Nat → Nat} (hinj : ∀ i j : Nat, i < 33 → j < 33 → ad i = ad j → i = j) {xcode : Int32} {np : Int32} {ns : Int32} {xsize : Int32} {xmost : Int32} {xend : Int32} {xran : Int32} {yend : Int32} {ysize : Int32} {ymost : Int32} {yran : Int32} {vcell : Nat → Int64} {vlev : Nat → Int32} {vcc : Nat → Int32} {vvar : Nat → Int32} {vleast : Nat → Int64} {vfirst : Nat → Int64} {vstep : Nat → Int64} {x : Int32} (hs : 1 ≤ x.toInt ∧ x.toInt ≤ 60) (hle : ∀ i : Nat, 0 ≤ (vlev i).toInt ∧ (vlev i).toInt ≤ 7) (hcc : ∀ i : Nat, 0 ≤ (vcc i).toInt ∧ (vcc i).toInt ≤ 15) (hva : ∀ i : Nat, 0 ≤ (vvar i).toInt ∧ (vvar i).toInt ≤ 15) (gh0 : M mo = some (.inr (6, [.int xcode, .ref (ad 1), .ref (ad 2), .int np, .int ns, .ref (ad 5), .ref (ad 6), .ref (ad 7), .ref (ad 8), .ref (ad 9), .ref (ad 10), .ref (ad 11), .ref (ad 12), .ref (ad 13), .ref (ad 14), .ref (ad 15), .ref (ad 16), .ref (ad 17), .ref (ad 18), .ref (ad 19), .ref (ad 20), .ref (ad 21), .int xsize, .int xmost, .int xend, .int xran, .ref (ad 26), .int yend, .int ysize, .int ymost, .int yran, .ref (ad 31), .ref (ad 32)]))) (gh1 : M (ad 1) = some (.inl (cL, 16, .inr (.inl vcell)))) (gh2 : M (ad 12) = some (.inl (cI, 61, .inl vlev))) (gh3 : M (ad 14) = some (.inl (cI, 488, .inl vcc))) (gh4 : M (ad 15) = some (.inl (cI, 488, .inl vvar))) (gh5 : M (ad 16) = some (.inl (cL, 488, .inr (.inl vleast)))) (gh6 : M (ad 17) = some (.inl (cL, 488, .inr (.inl vfirst)))) (gh7 : M (ad 18) = some (.inl (cL, 488, .inr (.inl vstep)))) : MC l H0 D cls7 (tysOf cI cL cQ cB) NW ({ cls := "PerformRangesModel", name := "goesAhead", desc := "(I)Z" } : Jvm.MethodName) (Cond.code ({ cls := "PerformRangesModel", name := "goesAhead", desc := "(I)Z" } : Jvm.MethodName) prog_8_method_15_code 5 (Option.some Jvm.ClassFile.FieldType.boolean) :: GW) ({ frames := 1, cells := 0, slots := 0, locals := 23 }) [.ref mo, .int x] M (fun v M' => v = some (.int (lp_M_goesAhead vlev vcc vvar vleast vfirst vstep x 1001 0 vcell)) ∧ M' (ad 1) = some (.inl (cL, 16, .inr (.inl (lp_M_goesAhead_ad1 vlev vcc vvar vleast vfirst vstep x 1001 0 vcell)))) ∧ (∀ q, q ≠ (ad 1) → M' q = M q)) := by
  refine MC.of (cc := prog_8_method_15_code) (nL := 5) (ret := (Option.some Jvm.ClassFile.FieldType.boolean)) (lv := [(0, .ref mo), (1, .int x)]) (by decide) rfl (Nat.le_of_ble_eq_true rfl) rfl ?_
  intro p e s m below meth c X hr hlk hnm hK
  refine V.go (pc' := 1) (lv_iconst (v := 0) X.1 X.2.1 d_Model_goesAhead_0 (by decide)) ?_
  refine V.wr (pc' := 2) (lv' := [(2, .int 0), (0, .ref mo), (1, .int x)]) (fun hl => lv_istore_n X.1 X.2.1 d_Model_goesAhead_1 rfl hl (by decide) rfl) ?_
  obtain ⟨ze_15, hze_15⟩ : ∃ z, z = lp_M_goesAhead vlev vcc vvar vleast vfirst vstep x 1001 0 vcell := ⟨_, rfl⟩
  obtain ⟨ze_16, hze_16⟩ : ∃ z, z = lp_M_goesAhead_ad1 vlev vcc vvar vleast vfirst vstep x 1001 0 vcell := ⟨_, rfl⟩
  refine V.pick [1, 2, 0] rfl ?_
  refine V.ind (α := Unit) (x0 := ()) (n0 := 1001) (I := fun nn_ _ M' lv' => ∃ (k : Int32) (g : Nat → Int64), lv' = [(0, .ref mo), (1, .int x), (2, .int k)] ∧ M' mo = some (.inr (6, [.int xcode, .ref (ad 1), .ref (ad 2), .int np, .int ns, .ref (ad 5), .ref (ad 6), .ref (ad 7), .ref (ad 8), .ref (ad 9), .ref (ad 10), .ref (ad 11), .ref (ad 12), .ref (ad 13), .ref (ad 14), .ref (ad 15), .ref (ad 16), .ref (ad 17), .ref (ad 18), .ref (ad 19), .ref (ad 20), .ref (ad 21), .int xsize, .int xmost, .int xend, .int xran, .ref (ad 26), .int yend, .int ysize, .int ymost, .int yran, .ref (ad 31), .ref (ad 32)])) ∧ M' (ad 1) = some (.inl (cL, 16, .inr (.inl g))) ∧ M' (ad 12) = some (.inl (cI, 61, .inl vlev)) ∧ M' (ad 14) = some (.inl (cI, 488, .inl vcc)) ∧ M' (ad 15) = some (.inl (cI, 488, .inl vvar)) ∧ M' (ad 16) = some (.inl (cL, 488, .inr (.inl vleast))) ∧ M' (ad 17) = some (.inl (cL, 488, .inr (.inl vfirst))) ∧ M' (ad 18) = some (.inl (cL, 488, .inr (.inl vstep))) ∧ (∀ q, q ≠ (ad 1) → M' q = M q) ∧ (0 ≤ k.toInt ∧ k.toInt ≤ 1000) ∧ (k.toInt + nn_ = 1001) ∧ lp_M_goesAhead vlev vcc vvar vleast vfirst vstep x nn_ k g = ze_15 ∧ lp_M_goesAhead_ad1 vlev vcc vvar vleast vfirst vstep x nn_ k g = ze_16) ⟨0, vcell, rfl, gh0, gh1, gh2, gh3, gh4, gh5, gh6, gh7, (fun q _ => rfl), (by first | omega | with_reducible assumption | (have z0_ : (0 : Int32).toInt = 0 := rfl; have z1_ : (1 : Int32).toInt = 1 := rfl; omega)), (by first | omega | with_reducible assumption | (have z0_ : (0 : Int32).toInt = 0 := rfl; have z1_ : (1 : Int32).toInt = 1 := rfl; omega)), hze_15.symm, hze_16.symm⟩ (fun n_10 ih_11 _ M_9 lv_12 hI_13 => ?_)
  obtain ⟨k, g, rfl, h_1, h_2, h_3, h_4, h_5, h_6, h_7, h_8, fr_14, j1, j2, e_15, e_16⟩ := hI_13
  obtain ⟨n_10, rfl⟩ : ∃ j, n_10 = j + 1 := ⟨n_10 - 1, by omega⟩
  refine V.rd (pc' := 3) (fun hl => lv_iload_n X.1 X.2.1 d_Model_goesAhead_2 rfl (lv_at hl 2 rfl)) ?_
  refine V.go (pc' := 6) (lv_sipush (v := 1000) X.1 X.2.1 d_Model_goesAhead_3 (by decide)) ?_
  refine V.br (pc' := 9) (tgt := 101) (P := 1000 ≤ k) (lv_icmp_ge X.1 X.2.1 d_Model_goesAhead_6 (by decide)) (fun c_17 => ?_) (fun c_17 => ?_)
  · have i_18 := Int32.le_iff_toInt_le.mp c_17
    rw [show (1000 : Int32).toInt = 1000 from rfl] at i_18
    refine V.go (pc' := 102) (lv_iconst (v := 0) X.1 X.2.1 d_Model_goesAhead_101 (by decide)) ?_
    rw [lp_M_goesAhead] at e_15
    simp only [if_pos c_17] at e_15
    rw [lp_M_goesAhead_ad1] at e_16
    simp only [if_pos c_17] at e_16
    exact V.zret X hr hlk rfl ⟨(by exact congrArg (fun z => some (Value.int z)) (e_15.trans hze_15)), (by rw [← hze_16, ← e_16]; exact h_2), (fun q n0_ => (fr_14 q n0_))⟩ d_Model_goesAhead_102
  · have i_19 := mt Int32.le_iff_toInt_le.mpr c_17
    rw [show (1000 : Int32).toInt = 1000 from rfl] at i_19
    refine V.go (pc' := 10) (lv_iconst (v := 0) X.1 X.2.1 d_Model_goesAhead_9 (by decide)) ?_
    refine V.wr (pc' := 11) (lv' := [(3, .int 0), (0, .ref mo), (1, .int x), (2, .int k)]) (fun hl => lv_istore_n X.1 X.2.1 d_Model_goesAhead_10 rfl hl (by decide) rfl) ?_
    refine V.rd (pc' := 12) (fun hl => lv_aload_n X.1 X.2.1 d_Model_goesAhead_11 rfl (lv_at hl 1 rfl)) ?_
    refine V.get (pc' := 15) X hK h_1 uw_Model rfl 12 (by decide) (mcs wd_191) rfl d_Model_goesAhead_12 rfl ?_
    refine V.rd (pc' := 16) (fun hl => lv_iload_n X.1 X.2.1 d_Model_goesAhead_15 rfl (lv_at hl 2 rfl)) ?_
    refine V.iald (pc' := 17) X hK 0 h_3 rfl (vin (by omega) (by omega)) d_Model_goesAhead_16 rfl ?_
    have q_20 := hle x.toNatClampNeg
    refine V.wr (pc' := 19) (lv' := [(4, .int (vlev x.toNatClampNeg)), (3, .int 0), (0, .ref mo), (1, .int x), (2, .int k)]) (fun hl => lv_istore X.1 X.2.1 d_Model_goesAhead_17 hl (by decide) rfl) ?_
    obtain ⟨ze_35, hze_35⟩ : ∃ z, z = il_M_goesAhead_19_hd vcc vleast x g 9 0 (vlev x.toNatClampNeg) := ⟨_, rfl⟩
    obtain ⟨ze_36, hze_36⟩ : ∃ z, z = il_M_goesAhead_19_j vcc vleast x g 9 0 (vlev x.toNatClampNeg) := ⟨_, rfl⟩
    refine V.pick [2, 3, 4, 1, 0] rfl ?_
    refine V.ind (α := Unit) (x0 := ()) (n0 := 9) (I := fun nn_ _ M' lv' => ∃ (hd : Int32) (j : Int32), lv' = [(0, .ref mo), (1, .int x), (2, .int k), (3, .int hd), (4, .int j)] ∧ M' mo = some (.inr (6, [.int xcode, .ref (ad 1), .ref (ad 2), .int np, .int ns, .ref (ad 5), .ref (ad 6), .ref (ad 7), .ref (ad 8), .ref (ad 9), .ref (ad 10), .ref (ad 11), .ref (ad 12), .ref (ad 13), .ref (ad 14), .ref (ad 15), .ref (ad 16), .ref (ad 17), .ref (ad 18), .ref (ad 19), .ref (ad 20), .ref (ad 21), .int xsize, .int xmost, .int xend, .int xran, .ref (ad 26), .int yend, .int ysize, .int ymost, .int yran, .ref (ad 31), .ref (ad 32)])) ∧ M' (ad 1) = some (.inl (cL, 16, .inr (.inl g))) ∧ M' (ad 12) = some (.inl (cI, 61, .inl vlev)) ∧ M' (ad 14) = some (.inl (cI, 488, .inl vcc)) ∧ M' (ad 15) = some (.inl (cI, 488, .inl vvar)) ∧ M' (ad 16) = some (.inl (cL, 488, .inr (.inl vleast))) ∧ M' (ad 17) = some (.inl (cL, 488, .inr (.inl vfirst))) ∧ M' (ad 18) = some (.inl (cL, 488, .inr (.inl vstep))) ∧ M' = M_9 ∧ (0 ≤ hd.toInt ∧ hd.toInt ≤ 7 ∧ 0 ≤ j.toInt ∧ j.toInt ≤ 7) ∧ (j.toInt + 1 ≤ nn_) ∧ il_M_goesAhead_19_hd vcc vleast x g nn_ hd j = ze_35 ∧ il_M_goesAhead_19_j vcc vleast x g nn_ hd j = ze_36) ⟨0, (vlev x.toNatClampNeg), rfl, h_1, h_2, h_3, h_4, h_5, h_6, h_7, h_8, rfl, (by first | omega | with_reducible assumption | (have z0_ : (0 : Int32).toInt = 0 := rfl; have z1_ : (1 : Int32).toInt = 1 := rfl; omega)), (by first | omega | with_reducible assumption | (have z0_ : (0 : Int32).toInt = 0 := rfl; have z1_ : (1 : Int32).toInt = 1 := rfl; omega)), hze_35.symm, hze_36.symm⟩ (fun n_30 ih_31 _ M_29 lv_32 hI_33 => ?_)
    obtain ⟨hd, j, rfl, h_21, h_22, h_23, h_24, h_25, h_26, h_27, h_28, rfl, j3, j4, e_35, e_36⟩ := hI_33
    obtain ⟨n_30, rfl⟩ : ∃ j, n_30 = j + 1 := ⟨n_30 - 1, by omega⟩
    refine V.rd (pc' := 21) (fun hl => lv_iload X.1 X.2.1 d_Model_goesAhead_19 (lv_at hl 4 rfl)) ?_
    refine V.br (pc' := 24) (tgt := 47) (P := j ≤ 0) (lv_if_le X.1 X.2.1 d_Model_goesAhead_21 (by decide)) (fun c_37 => ?_) (fun c_37 => ?_)
    · have i_38 := Int32.le_iff_toInt_le.mp c_37
      rw [show (0 : Int32).toInt = 0 from rfl] at i_38
      rw [il_M_goesAhead_19_hd] at e_35
      simp only [if_pos c_37] at e_35
      rw [il_M_goesAhead_19_j] at e_36
      simp only [if_pos c_37] at e_36
      replace e_35 := e_35.trans hze_35
      replace e_36 := e_36.trans hze_36
      subst e_35
      subst e_36
      refine V.pick [0, 1, 2, 3, 4] rfl ?_
      refine V.rd (pc' := 48) (fun hl => lv_iload_n X.1 X.2.1 d_Model_goesAhead_47 rfl (lv_at hl 3 rfl)) ?_
      refine V.bn (pc' := 51) (tgt := 53) (P := (il_M_goesAhead_19_hd vcc vleast x g 9 0 (vlev x.toNatClampNeg)) = 0) (lv_if_ne X.1 X.2.1 d_Model_goesAhead_48 (by decide)) (fun c_39 => ?_) (fun c_39 => ?_)
      · have i_40 := congrArg Int32.toInt c_39
        rw [show (0 : Int32).toInt = 0 from rfl] at i_40
        refine V.go (pc' := 52) (lv_iconst (v := 1) X.1 X.2.1 d_Model_goesAhead_51 (by decide)) ?_
        rw [lp_M_goesAhead] at e_15
        simp only [if_neg c_17, if_pos c_39] at e_15
        rw [lp_M_goesAhead_ad1] at e_16
        simp only [if_neg c_17, if_pos c_39] at e_16
        exact V.zret X hr hlk rfl ⟨(by exact congrArg (fun z => some (Value.int z)) (e_15.trans hze_15)), (by rw [← hze_16, ← e_16]; exact h_22), (fun q n0_ => (fr_14 q n0_))⟩ d_Model_goesAhead_52
      · have i_41 := mt Int32.toInt_inj.mp c_39
        rw [show (0 : Int32).toInt = 0 from rfl] at i_41
        refine V.rd (pc' := 54) (fun hl => lv_iload_n X.1 X.2.1 d_Model_goesAhead_53 rfl (lv_at hl 3 rfl)) ?_
        refine V.go (pc' := 55) (lv_iconst (v := 1) X.1 X.2.1 d_Model_goesAhead_54 (by decide)) ?_
        refine V.bn (pc' := 58) (tgt := 60) (P := (il_M_goesAhead_19_hd vcc vleast x g 9 0 (vlev x.toNatClampNeg)) = 1) (lv_icmp_ne X.1 X.2.1 d_Model_goesAhead_55 (by decide)) (fun c_42 => ?_) (fun c_42 => ?_)
        · have i_43 := congrArg Int32.toInt c_42
          rw [show (1 : Int32).toInt = 1 from rfl] at i_43
          refine V.go (pc' := 59) (lv_iconst (v := 0) X.1 X.2.1 d_Model_goesAhead_58 (by decide)) ?_
          rw [lp_M_goesAhead] at e_15
          simp only [if_neg c_17, if_neg c_39, if_pos c_42] at e_15
          rw [lp_M_goesAhead_ad1] at e_16
          simp only [if_neg c_17, if_neg c_39, if_pos c_42] at e_16
          exact V.zret X hr hlk rfl ⟨(by exact congrArg (fun z => some (Value.int z)) (e_15.trans hze_15)), (by rw [← hze_16, ← e_16]; exact h_22), (fun q n0_ => (fr_14 q n0_))⟩ d_Model_goesAhead_59
        · have i_44 := mt Int32.toInt_inj.mp c_42
          rw [show (1 : Int32).toInt = 1 from rfl] at i_44
          refine V.rd (pc' := 61) (fun hl => lv_aload_n X.1 X.2.1 d_Model_goesAhead_60 rfl (lv_at hl 0 rfl)) ?_
          refine V.rd (pc' := 62) (fun hl => lv_iload_n X.1 X.2.1 d_Model_goesAhead_61 rfl (lv_at hl 1 rfl)) ?_
          refine V.rd (pc' := 63) (fun hl => lv_iload_n X.1 X.2.1 d_Model_goesAhead_62 rfl (lv_at hl 3 rfl)) ?_
          refine V.go (pc' := 64) (lv_iconst (v := 1) X.1 X.2.1 d_Model_goesAhead_63 (by decide)) ?_
          refine V.go (pc' := 65) (lv_isub X.1 X.2.1 d_Model_goesAhead_64) ?_
          have s_45 : ((il_M_goesAhead_19_hd vcc vleast x g 9 0 (vlev x.toNatClampNeg)) - 1).toInt = (il_M_goesAhead_19_hd vcc vleast x g 9 0 (vlev x.toNatClampNeg)).toInt - 1 := i32_sub1 (by omega)
          refine V.callV (pc' := 68) X hK (c_M_goOn hinj (mo := mo) (xcode := xcode) (np := np) (ns := ns) (xsize := xsize) (xmost := xmost) (xend := xend) (xran := xran) (yend := yend) (ysize := ysize) (ymost := ymost) (yran := yran) (vcell := g) (vvar := vvar) (vstep := vstep) (x := x) (y := (il_M_goesAhead_19_hd vcc vleast x g 9 0 (vlev x.toNatClampNeg)) - 1) (by first | omega | with_reducible assumption | (have z0_ : (0 : Int32).toInt = 0 := rfl; have z1_ : (1 : Int32).toInt = 1 := rfl; omega)) (by first | omega | with_reducible assumption | (have z0_ : (0 : Int32).toInt = 0 := rfl; have z1_ : (1 : Int32).toInt = 1 := rfl; omega)) (by first | omega | with_reducible assumption | (have z0_ : (0 : Int32).toInt = 0 := rfl; have z1_ : (1 : Int32).toInt = 1 := rfl; omega))  h_21 h_22 h_25 h_28  ) h_21 rfl (cwG (n := 2) X (mcs wd_201) (mcs wd_202) (mcs wd_203) (mcs wd_174) wd_204 (by decide +kernel) (by decide) (by decide)) rfl rfl (Nat.le_of_ble_eq_true rfl) d_Model_goesAhead_65 ⟨by decide, by decide⟩ rfl (st1 := []) rfl (fun M_46 ⟨h_47, fr_48⟩ => ?_)
          have h_49 : M_46 mo = some (.inr (6, [.int xcode, .ref (ad 1), .ref (ad 2), .int np, .int ns, .ref (ad 5), .ref (ad 6), .ref (ad 7), .ref (ad 8), .ref (ad 9), .ref (ad 10), .ref (ad 11), .ref (ad 12), .ref (ad 13), .ref (ad 14), .ref (ad 15), .ref (ad 16), .ref (ad 17), .ref (ad 18), .ref (ad 19), .ref (ad 20), .ref (ad 21), .int xsize, .int xmost, .int xend, .int xran, .ref (ad 26), .int yend, .int ysize, .int ymost, .int yran, .ref (ad 31), .ref (ad 32)])) := (fr_48 _ (ne_k h_21 h_22 (i := 6) (j := 100016) rfl rfl (by decide))).trans h_21
          have h_50 : M_46 (ad 12) = some (.inl (cI, 61, .inl vlev)) := (fr_48 _ (ad_ne hinj (i := 12) (j := 1) (by decide) (by decide) (by decide))).trans h_23
          have h_51 : M_46 (ad 14) = some (.inl (cI, 488, .inl vcc)) := (fr_48 _ (ad_ne hinj (i := 14) (j := 1) (by decide) (by decide) (by decide))).trans h_24
          have h_52 : M_46 (ad 15) = some (.inl (cI, 488, .inl vvar)) := (fr_48 _ (ad_ne hinj (i := 15) (j := 1) (by decide) (by decide) (by decide))).trans h_25
          have h_53 : M_46 (ad 16) = some (.inl (cL, 488, .inr (.inl vleast))) := (fr_48 _ (ad_ne hinj (i := 16) (j := 1) (by decide) (by decide) (by decide))).trans h_26
          have h_54 : M_46 (ad 17) = some (.inl (cL, 488, .inr (.inl vfirst))) := (fr_48 _ (ad_ne hinj (i := 17) (j := 1) (by decide) (by decide) (by decide))).trans h_27
          have h_55 : M_46 (ad 18) = some (.inl (cL, 488, .inr (.inl vstep))) := (fr_48 _ (ad_ne hinj (i := 18) (j := 1) (by decide) (by decide) (by decide))).trans h_28
          refine V.rd (pc' := 69) (fun hl => lv_iload_n X.1 X.2.1 d_Model_goesAhead_68 rfl (lv_at hl 3 rfl)) ?_
          refine V.wr (pc' := 71) (lv' := [(4, .int (il_M_goesAhead_19_hd vcc vleast x g 9 0 (vlev x.toNatClampNeg))), (0, .ref mo), (1, .int x), (2, .int k), (3, .int (il_M_goesAhead_19_hd vcc vleast x g 9 0 (vlev x.toNatClampNeg)))]) (fun hl => lv_istore X.1 X.2.1 d_Model_goesAhead_69 hl (by decide) rfl) ?_
          obtain ⟨ze_70, hze_70⟩ : ∃ z, z = il_M_goesAhead_71_j vlev vvar vfirst x 9 (il_M_goesAhead_19_hd vcc vleast x g 9 0 (vlev x.toNatClampNeg)) (vp_updL g (vvar (((8 * (x - 1)) + ((il_M_goesAhead_19_hd vcc vleast x g 9 0 (vlev x.toNatClampNeg)) - 1)) - 1).toNatClampNeg).toNatClampNeg ((g (vvar (((8 * (x - 1)) + ((il_M_goesAhead_19_hd vcc vleast x g 9 0 (vlev x.toNatClampNeg)) - 1)) - 1).toNatClampNeg).toNatClampNeg) + (vstep (((8 * (x - 1)) + ((il_M_goesAhead_19_hd vcc vleast x g 9 0 (vlev x.toNatClampNeg)) - 1)) - 1).toNatClampNeg))) := ⟨_, rfl⟩
          obtain ⟨ze_71, hze_71⟩ : ∃ z, z = il_M_goesAhead_71_g3 vlev vvar vfirst x 9 (il_M_goesAhead_19_hd vcc vleast x g 9 0 (vlev x.toNatClampNeg)) (vp_updL g (vvar (((8 * (x - 1)) + ((il_M_goesAhead_19_hd vcc vleast x g 9 0 (vlev x.toNatClampNeg)) - 1)) - 1).toNatClampNeg).toNatClampNeg ((g (vvar (((8 * (x - 1)) + ((il_M_goesAhead_19_hd vcc vleast x g 9 0 (vlev x.toNatClampNeg)) - 1)) - 1).toNatClampNeg).toNatClampNeg) + (vstep (((8 * (x - 1)) + ((il_M_goesAhead_19_hd vcc vleast x g 9 0 (vlev x.toNatClampNeg)) - 1)) - 1).toNatClampNeg))) := ⟨_, rfl⟩
          refine V.pick [1, 2, 3, 4, 0] rfl ?_
          refine V.ind (α := Unit) (x0 := ()) (n0 := 9) (I := fun nn_ _ M' lv' => ∃ (j : Int32) (g3 : Nat → Int64), lv' = [(0, .ref mo), (1, .int x), (2, .int k), (3, .int (il_M_goesAhead_19_hd vcc vleast x g 9 0 (vlev x.toNatClampNeg))), (4, .int j)] ∧ M' mo = some (.inr (6, [.int xcode, .ref (ad 1), .ref (ad 2), .int np, .int ns, .ref (ad 5), .ref (ad 6), .ref (ad 7), .ref (ad 8), .ref (ad 9), .ref (ad 10), .ref (ad 11), .ref (ad 12), .ref (ad 13), .ref (ad 14), .ref (ad 15), .ref (ad 16), .ref (ad 17), .ref (ad 18), .ref (ad 19), .ref (ad 20), .ref (ad 21), .int xsize, .int xmost, .int xend, .int xran, .ref (ad 26), .int yend, .int ysize, .int ymost, .int yran, .ref (ad 31), .ref (ad 32)])) ∧ M' (ad 12) = some (.inl (cI, 61, .inl vlev)) ∧ M' (ad 14) = some (.inl (cI, 488, .inl vcc)) ∧ M' (ad 15) = some (.inl (cI, 488, .inl vvar)) ∧ M' (ad 16) = some (.inl (cL, 488, .inr (.inl vleast))) ∧ M' (ad 17) = some (.inl (cL, 488, .inr (.inl vfirst))) ∧ M' (ad 18) = some (.inl (cL, 488, .inr (.inl vstep))) ∧ M' (ad 1) = some (.inl (cL, 16, .inr (.inl g3))) ∧ (∀ q, q ≠ (ad 1) → M' q = M_46 q) ∧ (2 ≤ j.toInt ∧ j.toInt ≤ 8) ∧ (9 ≤ j.toInt + nn_ ∧ 1 ≤ nn_) ∧ il_M_goesAhead_71_j vlev vvar vfirst x nn_ j g3 = ze_70 ∧ il_M_goesAhead_71_g3 vlev vvar vfirst x nn_ j g3 = ze_71) ⟨(il_M_goesAhead_19_hd vcc vleast x g 9 0 (vlev x.toNatClampNeg)), (vp_updL g (vvar (((8 * (x - 1)) + ((il_M_goesAhead_19_hd vcc vleast x g 9 0 (vlev x.toNatClampNeg)) - 1)) - 1).toNatClampNeg).toNatClampNeg ((g (vvar (((8 * (x - 1)) + ((il_M_goesAhead_19_hd vcc vleast x g 9 0 (vlev x.toNatClampNeg)) - 1)) - 1).toNatClampNeg).toNatClampNeg) + (vstep (((8 * (x - 1)) + ((il_M_goesAhead_19_hd vcc vleast x g 9 0 (vlev x.toNatClampNeg)) - 1)) - 1).toNatClampNeg))), rfl, h_49, h_50, h_51, h_52, h_53, h_54, h_55, h_47, (fun q _ => rfl), (by first | omega | with_reducible assumption | (have z0_ : (0 : Int32).toInt = 0 := rfl; have z1_ : (1 : Int32).toInt = 1 := rfl; omega)), (by first | omega | with_reducible assumption | (have z0_ : (0 : Int32).toInt = 0 := rfl; have z1_ : (1 : Int32).toInt = 1 := rfl; omega)), hze_70.symm, hze_71.symm⟩ (fun n_65 ih_66 _ M_64 lv_67 hI_68 => ?_)
          obtain ⟨j, g3, rfl, h_56, h_57, h_58, h_59, h_60, h_61, h_62, h_63, fr_69, j5, j6, e_70, e_71⟩ := hI_68
          obtain ⟨n_65, rfl⟩ : ∃ j, n_65 = j + 1 := ⟨n_65 - 1, by omega⟩
          refine V.rd (pc' := 73) (fun hl => lv_iload X.1 X.2.1 d_Model_goesAhead_71 (lv_at hl 4 rfl)) ?_
          refine V.rd (pc' := 74) (fun hl => lv_aload_n X.1 X.2.1 d_Model_goesAhead_73 rfl (lv_at hl 0 rfl)) ?_
          refine V.get (pc' := 77) X hK h_56 uw_Model rfl 12 (by decide) (mcs wd_191) rfl d_Model_goesAhead_74 rfl ?_
          refine V.rd (pc' := 78) (fun hl => lv_iload_n X.1 X.2.1 d_Model_goesAhead_77 rfl (lv_at hl 1 rfl)) ?_
          refine V.iald (pc' := 79) X hK 0 h_57 rfl (vin (by omega) (by omega)) d_Model_goesAhead_78 rfl ?_
          have q_72 := hle x.toNatClampNeg
          refine V.br (pc' := 82) (tgt := 95) (P := (vlev x.toNatClampNeg) < j) (lv_icmp_gt X.1 X.2.1 d_Model_goesAhead_79 (by decide)) (fun c_73 => ?_) (fun c_73 => ?_)
          · have i_74 := Int32.lt_iff_toInt_lt.mp c_73
            rw [il_M_goesAhead_71_j] at e_70
            simp only [if_pos c_73] at e_70
            rw [il_M_goesAhead_71_g3] at e_71
            simp only [if_pos c_73] at e_71
            replace e_70 := e_70.trans hze_70
            replace e_71 := e_71.trans hze_71
            subst e_70
            subst e_71
            refine V.pick [0, 1, 2, 3, 4] rfl ?_
            refine V.wr (pc' := 98) (lv' := [(2, .int (k + 1)), (0, .ref mo), (1, .int x), (3, .int (il_M_goesAhead_19_hd vcc vleast x g 9 0 (vlev x.toNatClampNeg))), (4, .int (il_M_goesAhead_71_j vlev vvar vfirst x 9 (il_M_goesAhead_19_hd vcc vleast x g 9 0 (vlev x.toNatClampNeg)) (vp_updL g (vvar (((8 * (x - 1)) + ((il_M_goesAhead_19_hd vcc vleast x g 9 0 (vlev x.toNatClampNeg)) - 1)) - 1).toNatClampNeg).toNatClampNeg ((g (vvar (((8 * (x - 1)) + ((il_M_goesAhead_19_hd vcc vleast x g 9 0 (vlev x.toNatClampNeg)) - 1)) - 1).toNatClampNeg).toNatClampNeg) + (vstep (((8 * (x - 1)) + ((il_M_goesAhead_19_hd vcc vleast x g 9 0 (vlev x.toNatClampNeg)) - 1)) - 1).toNatClampNeg)))))]) (fun hl => lv_iinc (k := 2) (v := k + 1) X.1 X.2.1 d_Model_goesAhead_95 hl rfl rfl (by decide) rfl) ?_
            have s_75 : (k + 1).toInt = k.toInt + (1) := i32_add1 (by omega)
            refine V.go (pc' := 2) (lv_goto X.1 X.2.1 d_Model_goesAhead_98 (by decide)) ?_
            refine V.pick [1, 2, 0] rfl ?_
            exact ih_11 n_10 (by omega) () _ _ ⟨(k + 1), (il_M_goesAhead_71_g3 vlev vvar vfirst x 9 (il_M_goesAhead_19_hd vcc vleast x g 9 0 (vlev x.toNatClampNeg)) (vp_updL g (vvar (((8 * (x - 1)) + ((il_M_goesAhead_19_hd vcc vleast x g 9 0 (vlev x.toNatClampNeg)) - 1)) - 1).toNatClampNeg).toNatClampNeg ((g (vvar (((8 * (x - 1)) + ((il_M_goesAhead_19_hd vcc vleast x g 9 0 (vlev x.toNatClampNeg)) - 1)) - 1).toNatClampNeg).toNatClampNeg) + (vstep (((8 * (x - 1)) + ((il_M_goesAhead_19_hd vcc vleast x g 9 0 (vlev x.toNatClampNeg)) - 1)) - 1).toNatClampNeg)))), rfl, h_56, h_63, h_57, h_58, h_59, h_60, h_61, h_62, (fun q n0_ => (fr_69 q n0_).trans ((fr_48 q n0_).trans ((fr_14 q n0_)))), (by first | omega | with_reducible assumption | (have z0_ : (0 : Int32).toInt = 0 := rfl; have z1_ : (1 : Int32).toInt = 1 := rfl; omega)), (by first | omega | with_reducible assumption | (have z0_ : (0 : Int32).toInt = 0 := rfl; have z1_ : (1 : Int32).toInt = 1 := rfl; omega)), (by rw [← e_15, lp_M_goesAhead]; simp only [if_neg c_17, if_neg c_39, if_neg c_42]), (by rw [← e_16, lp_M_goesAhead_ad1]; simp only [if_neg c_17, if_neg c_39, if_neg c_42])⟩
          · have i_76 := mt Int32.lt_iff_toInt_lt.mpr c_73
            refine V.rd (pc' := 83) (fun hl => lv_aload_n X.1 X.2.1 d_Model_goesAhead_82 rfl (lv_at hl 0 rfl)) ?_
            refine V.rd (pc' := 84) (fun hl => lv_iload_n X.1 X.2.1 d_Model_goesAhead_83 rfl (lv_at hl 1 rfl)) ?_
            refine V.rd (pc' := 86) (fun hl => lv_iload X.1 X.2.1 d_Model_goesAhead_84 (lv_at hl 4 rfl)) ?_
            refine V.callV (pc' := 89) X hK (c_M_begin hinj (mo := mo) (xcode := xcode) (np := np) (ns := ns) (xsize := xsize) (xmost := xmost) (xend := xend) (xran := xran) (yend := yend) (ysize := ysize) (ymost := ymost) (yran := yran) (vcell := g3) (vvar := vvar) (vfirst := vfirst) (x := x) (y := j) (by first | omega | with_reducible assumption | (have z0_ : (0 : Int32).toInt = 0 := rfl; have z1_ : (1 : Int32).toInt = 1 := rfl; omega)) (by first | omega | with_reducible assumption | (have z0_ : (0 : Int32).toInt = 0 := rfl; have z1_ : (1 : Int32).toInt = 1 := rfl; omega)) (by first | omega | with_reducible assumption | (have z0_ : (0 : Int32).toInt = 0 := rfl; have z1_ : (1 : Int32).toInt = 1 := rfl; omega))  h_56 h_63 h_59 h_61  ) h_56 rfl (cwG (n := 2) X (mcs wd_205) (mcs wd_206) (mcs wd_207) (mcs wd_174) wd_208 (by decide +kernel) (by decide) (by decide)) rfl rfl (Nat.le_of_ble_eq_true rfl) d_Model_goesAhead_86 ⟨by decide, by decide⟩ rfl (st1 := []) rfl (fun M_77 ⟨h_78, fr_79⟩ => ?_)
            have h_80 : M_77 mo = some (.inr (6, [.int xcode, .ref (ad 1), .ref (ad 2), .int np, .int ns, .ref (ad 5), .ref (ad 6), .ref (ad 7), .ref (ad 8), .ref (ad 9), .ref (ad 10), .ref (ad 11), .ref (ad 12), .ref (ad 13), .ref (ad 14), .ref (ad 15), .ref (ad 16), .ref (ad 17), .ref (ad 18), .ref (ad 19), .ref (ad 20), .ref (ad 21), .int xsize, .int xmost, .int xend, .int xran, .ref (ad 26), .int yend, .int ysize, .int ymost, .int yran, .ref (ad 31), .ref (ad 32)])) := (fr_79 _ (ne_k h_56 h_63 (i := 6) (j := 100016) rfl rfl (by decide))).trans h_56
            have h_81 : M_77 (ad 12) = some (.inl (cI, 61, .inl vlev)) := (fr_79 _ (ad_ne hinj (i := 12) (j := 1) (by decide) (by decide) (by decide))).trans h_57
            have h_82 : M_77 (ad 14) = some (.inl (cI, 488, .inl vcc)) := (fr_79 _ (ad_ne hinj (i := 14) (j := 1) (by decide) (by decide) (by decide))).trans h_58
            have h_83 : M_77 (ad 15) = some (.inl (cI, 488, .inl vvar)) := (fr_79 _ (ad_ne hinj (i := 15) (j := 1) (by decide) (by decide) (by decide))).trans h_59
            have h_84 : M_77 (ad 16) = some (.inl (cL, 488, .inr (.inl vleast))) := (fr_79 _ (ad_ne hinj (i := 16) (j := 1) (by decide) (by decide) (by decide))).trans h_60
            have h_85 : M_77 (ad 17) = some (.inl (cL, 488, .inr (.inl vfirst))) := (fr_79 _ (ad_ne hinj (i := 17) (j := 1) (by decide) (by decide) (by decide))).trans h_61
            have h_86 : M_77 (ad 18) = some (.inl (cL, 488, .inr (.inl vstep))) := (fr_79 _ (ad_ne hinj (i := 18) (j := 1) (by decide) (by decide) (by decide))).trans h_62
            refine V.wr (pc' := 92) (lv' := [(4, .int (j + 1)), (0, .ref mo), (1, .int x), (2, .int k), (3, .int (il_M_goesAhead_19_hd vcc vleast x g 9 0 (vlev x.toNatClampNeg)))]) (fun hl => lv_iinc (k := 4) (v := j + 1) X.1 X.2.1 d_Model_goesAhead_89 hl rfl rfl (by decide) rfl) ?_
            have s_87 : (j + 1).toInt = j.toInt + (1) := i32_add1 (by omega)
            refine V.go (pc' := 71) (lv_goto X.1 X.2.1 d_Model_goesAhead_92 (by decide)) ?_
            refine V.pick [1, 2, 3, 4, 0] rfl ?_
            exact ih_66 n_65 (by omega) () _ _ ⟨(j + 1), (vp_updL g3 (vvar (((8 * (x - 1)) + j) - 1).toNatClampNeg).toNatClampNeg (vfirst (((8 * (x - 1)) + j) - 1).toNatClampNeg)), rfl, h_80, h_81, h_82, h_83, h_84, h_85, h_86, h_78, (fun q n0_ => (fr_79 q n0_).trans ((fr_69 q n0_))), (by first | omega | with_reducible assumption | (have z0_ : (0 : Int32).toInt = 0 := rfl; have z1_ : (1 : Int32).toInt = 1 := rfl; omega)), (by first | omega | with_reducible assumption | (have z0_ : (0 : Int32).toInt = 0 := rfl; have z1_ : (1 : Int32).toInt = 1 := rfl; omega)), (by rw [← e_70, il_M_goesAhead_71_j]; simp only [if_neg c_73]), (by rw [← e_71, il_M_goesAhead_71_g3]; simp only [if_neg c_73])⟩
    · have i_88 := mt Int32.le_iff_toInt_le.mpr c_37
      rw [show (0 : Int32).toInt = 0 from rfl] at i_88
      refine V.rd (pc' := 25) (fun hl => lv_aload_n X.1 X.2.1 d_Model_goesAhead_24 rfl (lv_at hl 0 rfl)) ?_
      refine V.rd (pc' := 26) (fun hl => lv_iload_n X.1 X.2.1 d_Model_goesAhead_25 rfl (lv_at hl 1 rfl)) ?_
      refine V.rd (pc' := 28) (fun hl => lv_iload X.1 X.2.1 d_Model_goesAhead_26 (lv_at hl 4 rfl)) ?_
      refine V.callV0 (pc' := 31) X hK (c_M_holds hinj (mo := mo) (xcode := xcode) (np := np) (ns := ns) (xsize := xsize) (xmost := xmost) (xend := xend) (xran := xran) (yend := yend) (ysize := ysize) (ymost := ymost) (yran := yran) (vcell := g) (vcc := vcc) (vleast := vleast) (x := x) (y := j) (by first | omega | with_reducible assumption | (have z0_ : (0 : Int32).toInt = 0 := rfl; have z1_ : (1 : Int32).toInt = 1 := rfl; omega)) (by first | omega | with_reducible assumption | (have z0_ : (0 : Int32).toInt = 0 := rfl; have z1_ : (1 : Int32).toInt = 1 := rfl; omega)) (by first | omega | with_reducible assumption | (have z0_ : (0 : Int32).toInt = 0 := rfl; have z1_ : (1 : Int32).toInt = 1 := rfl; omega))  h_21 h_22 h_24 h_26  ) h_21 rfl (cwG (n := 2) X (mcs wd_197) (mcs wd_198) (mcs wd_199) (mcs wd_174) wd_200 (by decide +kernel) (by decide) (by decide)) rfl rfl (Nat.le_of_ble_eq_true rfl) d_Model_goesAhead_28 ⟨by decide, by decide⟩ rfl (st1 := [.int (sp_M_holds g vcc vleast x j)]) rfl ?_
      refine V.br (pc' := 34) (tgt := 39) (P := (sp_M_holds g vcc vleast x j) = 0) (lv_if_eq X.1 X.2.1 d_Model_goesAhead_31 (by decide)) (fun c_90 => ?_) (fun c_90 => ?_)
      · have i_91 := congrArg Int32.toInt c_90
        rw [show (0 : Int32).toInt = 0 from rfl] at i_91
        refine V.rd (pc' := 40) (fun hl => lv_iload_n X.1 X.2.1 d_Model_goesAhead_39 rfl (lv_at hl 3 rfl)) ?_
        refine V.wr (pc' := 41) (lv' := [(3, .int hd), (0, .ref mo), (1, .int x), (2, .int k), (4, .int j)]) (fun hl => lv_istore_n X.1 X.2.1 d_Model_goesAhead_40 rfl hl (by decide) rfl) ?_
        refine V.wr (pc' := 44) (lv' := [(4, .int (j + (-1))), (3, .int hd), (0, .ref mo), (1, .int x), (2, .int k)]) (fun hl => lv_iinc (k := 4) (v := j + (-1)) X.1 X.2.1 d_Model_goesAhead_41 hl rfl rfl (by decide) rfl) ?_
        have s_92 : (j + (-1)).toInt = j.toInt + (-1) := i32_addm1 (by omega)
        refine V.go (pc' := 19) (lv_goto X.1 X.2.1 d_Model_goesAhead_44 (by decide)) ?_
        refine V.pick [2, 3, 4, 1, 0] rfl ?_
        exact ih_31 n_30 (by omega) () _ _ ⟨hd, (j + (-1)), rfl, h_21, h_22, h_23, h_24, h_25, h_26, h_27, h_28, rfl, (by first | omega | with_reducible assumption | (have z0_ : (0 : Int32).toInt = 0 := rfl; have z1_ : (1 : Int32).toInt = 1 := rfl; omega)), (by first | omega | with_reducible assumption | (have z0_ : (0 : Int32).toInt = 0 := rfl; have z1_ : (1 : Int32).toInt = 1 := rfl; omega)), (by rw [← e_35, il_M_goesAhead_19_hd]; simp only [if_neg c_37, if_pos c_90]), (by rw [← e_36, il_M_goesAhead_19_j]; simp only [if_neg c_37, if_pos c_90])⟩
      · have i_93 := mt Int32.toInt_inj.mp c_90
        rw [show (0 : Int32).toInt = 0 from rfl] at i_93
        refine V.rd (pc' := 36) (fun hl => lv_iload X.1 X.2.1 d_Model_goesAhead_34 (lv_at hl 4 rfl)) ?_
        refine V.go (pc' := 40) (lv_goto X.1 X.2.1 d_Model_goesAhead_36 (by decide)) ?_
        refine V.wr (pc' := 41) (lv' := [(3, .int j), (0, .ref mo), (1, .int x), (2, .int k), (4, .int j)]) (fun hl => lv_istore_n X.1 X.2.1 d_Model_goesAhead_40 rfl hl (by decide) rfl) ?_
        refine V.wr (pc' := 44) (lv' := [(4, .int (j + (-1))), (3, .int j), (0, .ref mo), (1, .int x), (2, .int k)]) (fun hl => lv_iinc (k := 4) (v := j + (-1)) X.1 X.2.1 d_Model_goesAhead_41 hl rfl rfl (by decide) rfl) ?_
        have s_94 : (j + (-1)).toInt = j.toInt + (-1) := i32_addm1 (by omega)
        refine V.go (pc' := 19) (lv_goto X.1 X.2.1 d_Model_goesAhead_44 (by decide)) ?_
        refine V.pick [2, 3, 4, 1, 0] rfl ?_
        exact ih_31 n_30 (by omega) () _ _ ⟨j, (j + (-1)), rfl, h_21, h_22, h_23, h_24, h_25, h_26, h_27, h_28, rfl, (by first | omega | with_reducible assumption | (have z0_ : (0 : Int32).toInt = 0 := rfl; have z1_ : (1 : Int32).toInt = 1 := rfl; omega)), (by first | omega | with_reducible assumption | (have z0_ : (0 : Int32).toInt = 0 := rfl; have z1_ : (1 : Int32).toInt = 1 := rfl; omega)), (by rw [← e_35, il_M_goesAhead_19_hd]; simp only [if_neg c_37, if_neg c_90]), (by rw [← e_36, il_M_goesAhead_19_j]; simp only [if_neg c_37, if_neg c_90])⟩

theorem b_M_goesAhead {vlev vcc vvar : Nat → Int32} {vleast vfirst vstep : Nat → Int64} {x : Int32} : ∀ (n : Nat) (k : Int32) (g : Nat → Int64), lp_M_goesAhead vlev vcc vvar vleast vfirst vstep x n k g = 0 ∨ lp_M_goesAhead vlev vcc vvar vleast vfirst vstep x n k g = 1
  | 0, _, _ => Or.inl rfl
  | n + 1, k, g => by
    rw [lp_M_goesAhead]
    split
    · exact Or.inl rfl
    · split
      · exact Or.inr rfl
      · split
        · exact Or.inl rfl
        · exact b_M_goesAhead n _ _

theorem d_Model_goesBehind_0 : decode prog_8_method_16_code 0 = .ok (.iconst 0, 1) := by decide +kernel
theorem d_Model_goesBehind_1 : decode prog_8_method_16_code 1 = .ok (.istore_n 2, 1) := by decide +kernel
theorem d_Model_goesBehind_2 : decode prog_8_method_16_code 2 = .ok (.iconst 1, 1) := by decide +kernel
theorem d_Model_goesBehind_3 : decode prog_8_method_16_code 3 = .ok (.istore_n 3, 1) := by decide +kernel
theorem d_Model_goesBehind_4 : decode prog_8_method_16_code 4 = .ok (.iload_n 3, 1) := by decide +kernel
theorem d_Model_goesBehind_5 : decode prog_8_method_16_code 5 = .ok (.aload_n 0, 1) := by decide +kernel
theorem d_Model_goesBehind_6 : decode prog_8_method_16_code 6 = .ok (.getfield 38, 3) := by decide +kernel
theorem d_Model_goesBehind_9 : decode prog_8_method_16_code 9 = .ok (.iload_n 1, 1) := by decide +kernel
theorem d_Model_goesBehind_10 : decode prog_8_method_16_code 10 = .ok (.iaload, 1) := by decide +kernel
theorem d_Model_goesBehind_11 : decode prog_8_method_16_code 11 = .ok (.if_icmp .gt 24, 3) := by decide +kernel
theorem d_Model_goesBehind_14 : decode prog_8_method_16_code 14 = .ok (.aload_n 0, 1) := by decide +kernel
theorem d_Model_goesBehind_15 : decode prog_8_method_16_code 15 = .ok (.iload_n 1, 1) := by decide +kernel
theorem d_Model_goesBehind_16 : decode prog_8_method_16_code 16 = .ok (.iload_n 3, 1) := by decide +kernel
theorem d_Model_goesBehind_17 : decode prog_8_method_16_code 17 = .ok (.invokevirtual 101, 3) := by decide +kernel
theorem d_Model_goesBehind_20 : decode prog_8_method_16_code 20 = .ok (.ifCond .eq 7, 3) := by decide +kernel
theorem d_Model_goesBehind_23 : decode prog_8_method_16_code 23 = .ok (.iload_n 2, 1) := by decide +kernel
theorem d_Model_goesBehind_24 : decode prog_8_method_16_code 24 = .ok (.goto 4, 3) := by decide +kernel
theorem d_Model_goesBehind_27 : decode prog_8_method_16_code 27 = .ok (.iload_n 3, 1) := by decide +kernel
theorem d_Model_goesBehind_28 : decode prog_8_method_16_code 28 = .ok (.istore_n 2, 1) := by decide +kernel
theorem d_Model_goesBehind_29 : decode prog_8_method_16_code 29 = .ok (.iinc 3 1, 3) := by decide +kernel
theorem d_Model_goesBehind_32 : decode prog_8_method_16_code 32 = .ok (.goto (-28), 3) := by decide +kernel
theorem d_Model_goesBehind_35 : decode prog_8_method_16_code 35 = .ok (.iload_n 2, 1) := by decide +kernel
theorem d_Model_goesBehind_36 : decode prog_8_method_16_code 36 = .ok (.ifCond .ne 5, 3) := by decide +kernel
theorem d_Model_goesBehind_39 : decode prog_8_method_16_code 39 = .ok (.iconst 0, 1) := by decide +kernel
theorem d_Model_goesBehind_40 : decode prog_8_method_16_code 40 = .ok (.ireturn, 1) := by decide +kernel
theorem d_Model_goesBehind_41 : decode prog_8_method_16_code 41 = .ok (.aload_n 0, 1) := by decide +kernel
theorem d_Model_goesBehind_42 : decode prog_8_method_16_code 42 = .ok (.iload_n 1, 1) := by decide +kernel
theorem d_Model_goesBehind_43 : decode prog_8_method_16_code 43 = .ok (.iload_n 2, 1) := by decide +kernel
theorem d_Model_goesBehind_44 : decode prog_8_method_16_code 44 = .ok (.invokevirtual 105, 3) := by decide +kernel
theorem d_Model_goesBehind_47 : decode prog_8_method_16_code 47 = .ok (.iload_n 2, 1) := by decide +kernel
theorem d_Model_goesBehind_48 : decode prog_8_method_16_code 48 = .ok (.iconst 1, 1) := by decide +kernel
theorem d_Model_goesBehind_49 : decode prog_8_method_16_code 49 = .ok (.iadd, 1) := by decide +kernel
theorem d_Model_goesBehind_50 : decode prog_8_method_16_code 50 = .ok (.istore_n 3, 1) := by decide +kernel
theorem d_Model_goesBehind_51 : decode prog_8_method_16_code 51 = .ok (.iload_n 3, 1) := by decide +kernel
theorem d_Model_goesBehind_52 : decode prog_8_method_16_code 52 = .ok (.aload_n 0, 1) := by decide +kernel
theorem d_Model_goesBehind_53 : decode prog_8_method_16_code 53 = .ok (.getfield 38, 3) := by decide +kernel
theorem d_Model_goesBehind_56 : decode prog_8_method_16_code 56 = .ok (.iload_n 1, 1) := by decide +kernel
theorem d_Model_goesBehind_57 : decode prog_8_method_16_code 57 = .ok (.iaload, 1) := by decide +kernel
theorem d_Model_goesBehind_58 : decode prog_8_method_16_code 58 = .ok (.if_icmp .gt 15, 3) := by decide +kernel
theorem d_Model_goesBehind_61 : decode prog_8_method_16_code 61 = .ok (.aload_n 0, 1) := by decide +kernel
theorem d_Model_goesBehind_62 : decode prog_8_method_16_code 62 = .ok (.iload_n 1, 1) := by decide +kernel
theorem d_Model_goesBehind_63 : decode prog_8_method_16_code 63 = .ok (.iload_n 3, 1) := by decide +kernel
theorem d_Model_goesBehind_64 : decode prog_8_method_16_code 64 = .ok (.invokevirtual 109, 3) := by decide +kernel
theorem d_Model_goesBehind_67 : decode prog_8_method_16_code 67 = .ok (.iinc 3 1, 3) := by decide +kernel
theorem d_Model_goesBehind_70 : decode prog_8_method_16_code 70 = .ok (.goto (-19), 3) := by decide +kernel
theorem d_Model_goesBehind_73 : decode prog_8_method_16_code 73 = .ok (.iconst 1, 1) := by decide +kernel
theorem d_Model_goesBehind_74 : decode prog_8_method_16_code 74 = .ok (.ireturn, 1) := by decide +kernel

def il_M_goesBehind_4_op (vcell : Nat → Int64) (vlev : Nat → Int32) (vcc : Nat → Int32) (vleast : Nat → Int64) (x : Int32) : Nat → Int32 → Int32 → Int32
  | 0, op, _ => op
  | n_ + 1, op, j => if (vlev x.toNatClampNeg) < j then op else if (sp_M_holds vcell vcc vleast x j) = 0 then il_M_goesBehind_4_op vcell vlev vcc vleast x n_ j (j + 1) else il_M_goesBehind_4_op vcell vlev vcc vleast x n_ op (j + 1)
def il_M_goesBehind_4_j (vcell : Nat → Int64) (vlev : Nat → Int32) (vcc : Nat → Int32) (vleast : Nat → Int64) (x : Int32) : Nat → Int32 → Int32 → Int32
  | 0, _, j => j
  | n_ + 1, op, j => if (vlev x.toNatClampNeg) < j then j else if (sp_M_holds vcell vcc vleast x j) = 0 then il_M_goesBehind_4_j vcell vlev vcc vleast x n_ j (j + 1) else il_M_goesBehind_4_j vcell vlev vcc vleast x n_ op (j + 1)
def il_M_goesBehind_51_j (vlev : Nat → Int32) (vvar : Nat → Int32) (vfirst : Nat → Int64) (x : Int32) : Nat → Int32 → (Nat → Int64) → Int32
  | 0, j, _ => j
  | n_ + 1, j, g3 => if (vlev x.toNatClampNeg) < j then j else il_M_goesBehind_51_j vlev vvar vfirst x n_ (j + 1) (vp_updL g3 (vvar (((8 * (x - 1)) + j) - 1).toNatClampNeg).toNatClampNeg (vfirst (((8 * (x - 1)) + j) - 1).toNatClampNeg))
def il_M_goesBehind_51_g3 (vlev : Nat → Int32) (vvar : Nat → Int32) (vfirst : Nat → Int64) (x : Int32) : Nat → Int32 → (Nat → Int64) → Nat → Int64
  | 0, _, g3 => g3
  | n_ + 1, j, g3 => if (vlev x.toNatClampNeg) < j then g3 else il_M_goesBehind_51_g3 vlev vvar vfirst x n_ (j + 1) (vp_updL g3 (vvar (((8 * (x - 1)) + j) - 1).toNatClampNeg).toNatClampNeg (vfirst (((8 * (x - 1)) + j) - 1).toNatClampNeg))
def sp_M_goesBehind (vcell : Nat → Int64) (vlev : Nat → Int32) (vcc : Nat → Int32) (vleast : Nat → Int64) (x : Int32) : Int32 := if (il_M_goesBehind_4_op vcell vlev vcc vleast x 9 0 1) = 0 then 0 else 1
def sp_M_goesBehind_ad1 (vcell : Nat → Int64) (vlev : Nat → Int32) (vcc : Nat → Int32) (vvar : Nat → Int32) (vleast : Nat → Int64) (vfirst : Nat → Int64) (vstep : Nat → Int64) (x : Int32) : Nat → Int64 := if (il_M_goesBehind_4_op vcell vlev vcc vleast x 9 0 1) = 0 then vcell else il_M_goesBehind_51_g3 vlev vvar vfirst x 9 ((il_M_goesBehind_4_op vcell vlev vcc vleast x 9 0 1) + 1) (vp_updL vcell (vvar (((8 * (x - 1)) + (il_M_goesBehind_4_op vcell vlev vcc vleast x 9 0 1)) - 1).toNatClampNeg).toNatClampNeg ((vcell (vvar (((8 * (x - 1)) + (il_M_goesBehind_4_op vcell vlev vcc vleast x 9 0 1)) - 1).toNatClampNeg).toNatClampNeg) + (vstep (((8 * (x - 1)) + (il_M_goesBehind_4_op vcell vlev vcc vleast x 9 0 1)) - 1).toNatClampNeg)))
set_option maxHeartbeats 4000000 in
set_option maxRecDepth 100000 in
theorem c_M_goesBehind {l : Launch} {H0 : Heap} {D : va_G} {cI cL cQ cB : ClassId} {M : mp} {mo : Nat} {ad : Nat → Nat} (hinj : ∀ i j : Nat, i < 33 → j < 33 → ad i = ad j → i = j) {xcode : Int32} {np : Int32} {ns : Int32} {xsize : Int32} {xmost : Int32} {xend : Int32} {xran : Int32} {yend : Int32} {ysize : Int32} {ymost : Int32} {yran : Int32} {vcell : Nat → Int64} {vlev : Nat → Int32} {vcc : Nat → Int32} {vvar : Nat → Int32} {vleast : Nat → Int64} {vfirst : Nat → Int64} {vstep : Nat → Int64} {x : Int32} (hs : 1 ≤ x.toInt ∧ x.toInt ≤ 60) (hle : ∀ i : Nat, 0 ≤ (vlev i).toInt ∧ (vlev i).toInt ≤ 7) (hcc : ∀ i : Nat, 0 ≤ (vcc i).toInt ∧ (vcc i).toInt ≤ 15) (hva : ∀ i : Nat, 0 ≤ (vvar i).toInt ∧ (vvar i).toInt ≤ 15) (gh0 : M mo = some (.inr (6, [.int xcode, .ref (ad 1), .ref (ad 2), .int np, .int ns, .ref (ad 5), .ref (ad 6), .ref (ad 7), .ref (ad 8), .ref (ad 9), .ref (ad 10), .ref (ad 11), .ref (ad 12), .ref (ad 13), .ref (ad 14), .ref (ad 15), .ref (ad 16), .ref (ad 17), .ref (ad 18), .ref (ad 19), .ref (ad 20), .ref (ad 21), .int xsize, .int xmost, .int xend, .int xran, .ref (ad 26), .int yend, .int ysize, .int ymost, .int yran, .ref (ad 31), .ref (ad 32)]))) (gh1 : M (ad 1) = some (.inl (cL, 16, .inr (.inl vcell)))) (gh2 : M (ad 12) = some (.inl (cI, 61, .inl vlev))) (gh3 : M (ad 14) = some (.inl (cI, 488, .inl vcc))) (gh4 : M (ad 15) = some (.inl (cI, 488, .inl vvar))) (gh5 : M (ad 16) = some (.inl (cL, 488, .inr (.inl vleast)))) (gh6 : M (ad 17) = some (.inl (cL, 488, .inr (.inl vfirst)))) (gh7 : M (ad 18) = some (.inl (cL, 488, .inr (.inl vstep)))) : MC l H0 D cls7 (tysOf cI cL cQ cB) NW ({ cls := "PerformRangesModel", name := "goesBehind", desc := "(I)Z" } : Jvm.MethodName) (Cond.code ({ cls := "PerformRangesModel", name := "goesBehind", desc := "(I)Z" } : Jvm.MethodName) prog_8_method_16_code 4 (Option.some Jvm.ClassFile.FieldType.boolean) :: GW) ({ frames := 1, cells := 0, slots := 0, locals := 23 }) [.ref mo, .int x] M (fun v M' => v = some (.int (sp_M_goesBehind vcell vlev vcc vleast x)) ∧ M' (ad 1) = some (.inl (cL, 16, .inr (.inl (sp_M_goesBehind_ad1 vcell vlev vcc vvar vleast vfirst vstep x)))) ∧ (∀ q, q ≠ (ad 1) → M' q = M q)) := by
  refine MC.of (cc := prog_8_method_16_code) (nL := 4) (ret := (Option.some Jvm.ClassFile.FieldType.boolean)) (lv := [(0, .ref mo), (1, .int x)]) (by decide) rfl (Nat.le_of_ble_eq_true rfl) rfl ?_
  intro p e s m below meth c X hr hlk hnm hK
  refine V.go (pc' := 1) (lv_iconst (v := 0) X.1 X.2.1 d_Model_goesBehind_0 (by decide)) ?_
  refine V.wr (pc' := 2) (lv' := [(2, .int 0), (0, .ref mo), (1, .int x)]) (fun hl => lv_istore_n X.1 X.2.1 d_Model_goesBehind_1 rfl hl (by decide) rfl) ?_
  refine V.go (pc' := 3) (lv_iconst (v := 1) X.1 X.2.1 d_Model_goesBehind_2 (by decide)) ?_
  refine V.wr (pc' := 4) (lv' := [(3, .int 1), (2, .int 0), (0, .ref mo), (1, .int x)]) (fun hl => lv_istore_n X.1 X.2.1 d_Model_goesBehind_3 rfl hl (by decide) rfl) ?_
  obtain ⟨ze_15, hze_15⟩ : ∃ z, z = il_M_goesBehind_4_op vcell vlev vcc vleast x 9 0 1 := ⟨_, rfl⟩
  obtain ⟨ze_16, hze_16⟩ : ∃ z, z = il_M_goesBehind_4_j vcell vlev vcc vleast x 9 0 1 := ⟨_, rfl⟩
  refine V.pick [2, 3, 1, 0] rfl ?_
  refine V.ind (α := Unit) (x0 := ()) (n0 := 9) (I := fun nn_ _ M' lv' => ∃ (op : Int32) (j : Int32), lv' = [(0, .ref mo), (1, .int x), (2, .int op), (3, .int j)] ∧ M' mo = some (.inr (6, [.int xcode, .ref (ad 1), .ref (ad 2), .int np, .int ns, .ref (ad 5), .ref (ad 6), .ref (ad 7), .ref (ad 8), .ref (ad 9), .ref (ad 10), .ref (ad 11), .ref (ad 12), .ref (ad 13), .ref (ad 14), .ref (ad 15), .ref (ad 16), .ref (ad 17), .ref (ad 18), .ref (ad 19), .ref (ad 20), .ref (ad 21), .int xsize, .int xmost, .int xend, .int xran, .ref (ad 26), .int yend, .int ysize, .int ymost, .int yran, .ref (ad 31), .ref (ad 32)])) ∧ M' (ad 1) = some (.inl (cL, 16, .inr (.inl vcell))) ∧ M' (ad 12) = some (.inl (cI, 61, .inl vlev)) ∧ M' (ad 14) = some (.inl (cI, 488, .inl vcc)) ∧ M' (ad 15) = some (.inl (cI, 488, .inl vvar)) ∧ M' (ad 16) = some (.inl (cL, 488, .inr (.inl vleast))) ∧ M' (ad 17) = some (.inl (cL, 488, .inr (.inl vfirst))) ∧ M' (ad 18) = some (.inl (cL, 488, .inr (.inl vstep))) ∧ M' = M ∧ (0 ≤ op.toInt ∧ op.toInt ≤ 7 ∧ 1 ≤ j.toInt ∧ j.toInt ≤ 8) ∧ (9 ≤ j.toInt + nn_ ∧ 1 ≤ nn_) ∧ il_M_goesBehind_4_op vcell vlev vcc vleast x nn_ op j = ze_15 ∧ il_M_goesBehind_4_j vcell vlev vcc vleast x nn_ op j = ze_16) ⟨0, 1, rfl, gh0, gh1, gh2, gh3, gh4, gh5, gh6, gh7, rfl, (by first | omega | with_reducible assumption | (have z0_ : (0 : Int32).toInt = 0 := rfl; have z1_ : (1 : Int32).toInt = 1 := rfl; omega)), (by first | omega | with_reducible assumption | (have z0_ : (0 : Int32).toInt = 0 := rfl; have z1_ : (1 : Int32).toInt = 1 := rfl; omega)), hze_15.symm, hze_16.symm⟩ (fun n_10 ih_11 _ M_9 lv_12 hI_13 => ?_)
  obtain ⟨op, j, rfl, h_1, h_2, h_3, h_4, h_5, h_6, h_7, h_8, rfl, j3, j4, e_15, e_16⟩ := hI_13
  obtain ⟨n_10, rfl⟩ : ∃ j, n_10 = j + 1 := ⟨n_10 - 1, by omega⟩
  refine V.rd (pc' := 5) (fun hl => lv_iload_n X.1 X.2.1 d_Model_goesBehind_4 rfl (lv_at hl 3 rfl)) ?_
  refine V.rd (pc' := 6) (fun hl => lv_aload_n X.1 X.2.1 d_Model_goesBehind_5 rfl (lv_at hl 0 rfl)) ?_
  refine V.get (pc' := 9) X hK h_1 uw_Model rfl 12 (by decide) (mcs wd_191) rfl d_Model_goesBehind_6 rfl ?_
  refine V.rd (pc' := 10) (fun hl => lv_iload_n X.1 X.2.1 d_Model_goesBehind_9 rfl (lv_at hl 1 rfl)) ?_
  refine V.iald (pc' := 11) X hK 0 h_3 rfl (vin (by omega) (by omega)) d_Model_goesBehind_10 rfl ?_
  have q_17 := hle x.toNatClampNeg
  refine V.br (pc' := 14) (tgt := 35) (P := (vlev x.toNatClampNeg) < j) (lv_icmp_gt X.1 X.2.1 d_Model_goesBehind_11 (by decide)) (fun c_18 => ?_) (fun c_18 => ?_)
  · have i_19 := Int32.lt_iff_toInt_lt.mp c_18
    rw [il_M_goesBehind_4_op] at e_15
    simp only [if_pos c_18] at e_15
    rw [il_M_goesBehind_4_j] at e_16
    simp only [if_pos c_18] at e_16
    replace e_15 := e_15.trans hze_15
    replace e_16 := e_16.trans hze_16
    subst e_15
    subst e_16
    refine V.pick [0, 1, 2, 3] rfl ?_
    refine V.rd (pc' := 36) (fun hl => lv_iload_n X.1 X.2.1 d_Model_goesBehind_35 rfl (lv_at hl 2 rfl)) ?_
    refine V.bn (pc' := 39) (tgt := 41) (P := (il_M_goesBehind_4_op vcell vlev vcc vleast x 9 0 1) = 0) (lv_if_ne X.1 X.2.1 d_Model_goesBehind_36 (by decide)) (fun c_20 => ?_) (fun c_20 => ?_)
    · have i_21 := congrArg Int32.toInt c_20
      rw [show (0 : Int32).toInt = 0 from rfl] at i_21
      refine V.go (pc' := 40) (lv_iconst (v := 0) X.1 X.2.1 d_Model_goesBehind_39 (by decide)) ?_
      exact V.zret X hr hlk rfl ⟨(by simp only [sp_M_goesBehind, if_pos c_20]), (by simp only [sp_M_goesBehind_ad1, if_pos c_20]; exact h_2), (fun q n0_ => rfl)⟩ d_Model_goesBehind_40
    · have i_22 := mt Int32.toInt_inj.mp c_20
      rw [show (0 : Int32).toInt = 0 from rfl] at i_22
      refine V.rd (pc' := 42) (fun hl => lv_aload_n X.1 X.2.1 d_Model_goesBehind_41 rfl (lv_at hl 0 rfl)) ?_
      refine V.rd (pc' := 43) (fun hl => lv_iload_n X.1 X.2.1 d_Model_goesBehind_42 rfl (lv_at hl 1 rfl)) ?_
      refine V.rd (pc' := 44) (fun hl => lv_iload_n X.1 X.2.1 d_Model_goesBehind_43 rfl (lv_at hl 2 rfl)) ?_
      refine V.callV (pc' := 47) X hK (c_M_goOn hinj (mo := mo) (xcode := xcode) (np := np) (ns := ns) (xsize := xsize) (xmost := xmost) (xend := xend) (xran := xran) (yend := yend) (ysize := ysize) (ymost := ymost) (yran := yran) (vcell := vcell) (vvar := vvar) (vstep := vstep) (x := x) (y := il_M_goesBehind_4_op vcell vlev vcc vleast x 9 0 1) (by first | omega | with_reducible assumption | (have z0_ : (0 : Int32).toInt = 0 := rfl; have z1_ : (1 : Int32).toInt = 1 := rfl; omega)) (by first | omega | with_reducible assumption | (have z0_ : (0 : Int32).toInt = 0 := rfl; have z1_ : (1 : Int32).toInt = 1 := rfl; omega)) (by first | omega | with_reducible assumption | (have z0_ : (0 : Int32).toInt = 0 := rfl; have z1_ : (1 : Int32).toInt = 1 := rfl; omega))  h_1 h_2 h_5 h_8  ) h_1 rfl (cwG (n := 2) X (mcs wd_201) (mcs wd_202) (mcs wd_203) (mcs wd_174) wd_204 (by decide +kernel) (by decide) (by decide)) rfl rfl (Nat.le_of_ble_eq_true rfl) d_Model_goesBehind_44 ⟨by decide, by decide⟩ rfl (st1 := []) rfl (fun M_23 ⟨h_24, fr_25⟩ => ?_)
      have h_26 : M_23 mo = some (.inr (6, [.int xcode, .ref (ad 1), .ref (ad 2), .int np, .int ns, .ref (ad 5), .ref (ad 6), .ref (ad 7), .ref (ad 8), .ref (ad 9), .ref (ad 10), .ref (ad 11), .ref (ad 12), .ref (ad 13), .ref (ad 14), .ref (ad 15), .ref (ad 16), .ref (ad 17), .ref (ad 18), .ref (ad 19), .ref (ad 20), .ref (ad 21), .int xsize, .int xmost, .int xend, .int xran, .ref (ad 26), .int yend, .int ysize, .int ymost, .int yran, .ref (ad 31), .ref (ad 32)])) := (fr_25 _ (ne_k h_1 h_2 (i := 6) (j := 100016) rfl rfl (by decide))).trans h_1
      have h_27 : M_23 (ad 12) = some (.inl (cI, 61, .inl vlev)) := (fr_25 _ (ad_ne hinj (i := 12) (j := 1) (by decide) (by decide) (by decide))).trans h_3
      have h_28 : M_23 (ad 14) = some (.inl (cI, 488, .inl vcc)) := (fr_25 _ (ad_ne hinj (i := 14) (j := 1) (by decide) (by decide) (by decide))).trans h_4
      have h_29 : M_23 (ad 15) = some (.inl (cI, 488, .inl vvar)) := (fr_25 _ (ad_ne hinj (i := 15) (j := 1) (by decide) (by decide) (by decide))).trans h_5
      have h_30 : M_23 (ad 16) = some (.inl (cL, 488, .inr (.inl vleast))) := (fr_25 _ (ad_ne hinj (i := 16) (j := 1) (by decide) (by decide) (by decide))).trans h_6
      have h_31 : M_23 (ad 17) = some (.inl (cL, 488, .inr (.inl vfirst))) := (fr_25 _ (ad_ne hinj (i := 17) (j := 1) (by decide) (by decide) (by decide))).trans h_7
      have h_32 : M_23 (ad 18) = some (.inl (cL, 488, .inr (.inl vstep))) := (fr_25 _ (ad_ne hinj (i := 18) (j := 1) (by decide) (by decide) (by decide))).trans h_8
      refine V.rd (pc' := 48) (fun hl => lv_iload_n X.1 X.2.1 d_Model_goesBehind_47 rfl (lv_at hl 2 rfl)) ?_
      refine V.go (pc' := 49) (lv_iconst (v := 1) X.1 X.2.1 d_Model_goesBehind_48 (by decide)) ?_
      refine V.go (pc' := 50) (lv_iadd X.1 X.2.1 d_Model_goesBehind_49) ?_
      have s_33 : ((il_M_goesBehind_4_op vcell vlev vcc vleast x 9 0 1) + 1).toInt = (il_M_goesBehind_4_op vcell vlev vcc vleast x 9 0 1).toInt + 1 := i32_add1 (by omega)
      refine V.wr (pc' := 51) (lv' := [(3, .int ((il_M_goesBehind_4_op vcell vlev vcc vleast x 9 0 1) + 1)), (0, .ref mo), (1, .int x), (2, .int (il_M_goesBehind_4_op vcell vlev vcc vleast x 9 0 1))]) (fun hl => lv_istore_n X.1 X.2.1 d_Model_goesBehind_50 rfl hl (by decide) rfl) ?_
      obtain ⟨ze_48, hze_48⟩ : ∃ z, z = il_M_goesBehind_51_j vlev vvar vfirst x 9 ((il_M_goesBehind_4_op vcell vlev vcc vleast x 9 0 1) + 1) (vp_updL vcell (vvar (((8 * (x - 1)) + (il_M_goesBehind_4_op vcell vlev vcc vleast x 9 0 1)) - 1).toNatClampNeg).toNatClampNeg ((vcell (vvar (((8 * (x - 1)) + (il_M_goesBehind_4_op vcell vlev vcc vleast x 9 0 1)) - 1).toNatClampNeg).toNatClampNeg) + (vstep (((8 * (x - 1)) + (il_M_goesBehind_4_op vcell vlev vcc vleast x 9 0 1)) - 1).toNatClampNeg))) := ⟨_, rfl⟩
      obtain ⟨ze_49, hze_49⟩ : ∃ z, z = il_M_goesBehind_51_g3 vlev vvar vfirst x 9 ((il_M_goesBehind_4_op vcell vlev vcc vleast x 9 0 1) + 1) (vp_updL vcell (vvar (((8 * (x - 1)) + (il_M_goesBehind_4_op vcell vlev vcc vleast x 9 0 1)) - 1).toNatClampNeg).toNatClampNeg ((vcell (vvar (((8 * (x - 1)) + (il_M_goesBehind_4_op vcell vlev vcc vleast x 9 0 1)) - 1).toNatClampNeg).toNatClampNeg) + (vstep (((8 * (x - 1)) + (il_M_goesBehind_4_op vcell vlev vcc vleast x 9 0 1)) - 1).toNatClampNeg))) := ⟨_, rfl⟩
      refine V.pick [1, 2, 3, 0] rfl ?_
      refine V.ind (α := Unit) (x0 := ()) (n0 := 9) (I := fun nn_ _ M' lv' => ∃ (j : Int32) (g3 : Nat → Int64), lv' = [(0, .ref mo), (1, .int x), (2, .int (il_M_goesBehind_4_op vcell vlev vcc vleast x 9 0 1)), (3, .int j)] ∧ M' mo = some (.inr (6, [.int xcode, .ref (ad 1), .ref (ad 2), .int np, .int ns, .ref (ad 5), .ref (ad 6), .ref (ad 7), .ref (ad 8), .ref (ad 9), .ref (ad 10), .ref (ad 11), .ref (ad 12), .ref (ad 13), .ref (ad 14), .ref (ad 15), .ref (ad 16), .ref (ad 17), .ref (ad 18), .ref (ad 19), .ref (ad 20), .ref (ad 21), .int xsize, .int xmost, .int xend, .int xran, .ref (ad 26), .int yend, .int ysize, .int ymost, .int yran, .ref (ad 31), .ref (ad 32)])) ∧ M' (ad 12) = some (.inl (cI, 61, .inl vlev)) ∧ M' (ad 14) = some (.inl (cI, 488, .inl vcc)) ∧ M' (ad 15) = some (.inl (cI, 488, .inl vvar)) ∧ M' (ad 16) = some (.inl (cL, 488, .inr (.inl vleast))) ∧ M' (ad 17) = some (.inl (cL, 488, .inr (.inl vfirst))) ∧ M' (ad 18) = some (.inl (cL, 488, .inr (.inl vstep))) ∧ M' (ad 1) = some (.inl (cL, 16, .inr (.inl g3))) ∧ (∀ q, q ≠ (ad 1) → M' q = M_23 q) ∧ (2 ≤ j.toInt ∧ j.toInt ≤ 8) ∧ (9 ≤ j.toInt + nn_ ∧ 1 ≤ nn_) ∧ il_M_goesBehind_51_j vlev vvar vfirst x nn_ j g3 = ze_48 ∧ il_M_goesBehind_51_g3 vlev vvar vfirst x nn_ j g3 = ze_49) ⟨((il_M_goesBehind_4_op vcell vlev vcc vleast x 9 0 1) + 1), (vp_updL vcell (vvar (((8 * (x - 1)) + (il_M_goesBehind_4_op vcell vlev vcc vleast x 9 0 1)) - 1).toNatClampNeg).toNatClampNeg ((vcell (vvar (((8 * (x - 1)) + (il_M_goesBehind_4_op vcell vlev vcc vleast x 9 0 1)) - 1).toNatClampNeg).toNatClampNeg) + (vstep (((8 * (x - 1)) + (il_M_goesBehind_4_op vcell vlev vcc vleast x 9 0 1)) - 1).toNatClampNeg))), rfl, h_26, h_27, h_28, h_29, h_30, h_31, h_32, h_24, (fun q _ => rfl), (by first | omega | with_reducible assumption | (have z0_ : (0 : Int32).toInt = 0 := rfl; have z1_ : (1 : Int32).toInt = 1 := rfl; omega)), (by first | omega | with_reducible assumption | (have z0_ : (0 : Int32).toInt = 0 := rfl; have z1_ : (1 : Int32).toInt = 1 := rfl; omega)), hze_48.symm, hze_49.symm⟩ (fun n_43 ih_44 _ M_42 lv_45 hI_46 => ?_)
      obtain ⟨j, g3, rfl, h_34, h_35, h_36, h_37, h_38, h_39, h_40, h_41, fr_47, j5, j6, e_48, e_49⟩ := hI_46
      obtain ⟨n_43, rfl⟩ : ∃ j, n_43 = j + 1 := ⟨n_43 - 1, by omega⟩
      refine V.rd (pc' := 52) (fun hl => lv_iload_n X.1 X.2.1 d_Model_goesBehind_51 rfl (lv_at hl 3 rfl)) ?_
      refine V.rd (pc' := 53) (fun hl => lv_aload_n X.1 X.2.1 d_Model_goesBehind_52 rfl (lv_at hl 0 rfl)) ?_
      refine V.get (pc' := 56) X hK h_34 uw_Model rfl 12 (by decide) (mcs wd_191) rfl d_Model_goesBehind_53 rfl ?_
      refine V.rd (pc' := 57) (fun hl => lv_iload_n X.1 X.2.1 d_Model_goesBehind_56 rfl (lv_at hl 1 rfl)) ?_
      refine V.iald (pc' := 58) X hK 0 h_35 rfl (vin (by omega) (by omega)) d_Model_goesBehind_57 rfl ?_
      have q_50 := hle x.toNatClampNeg
      refine V.br (pc' := 61) (tgt := 73) (P := (vlev x.toNatClampNeg) < j) (lv_icmp_gt X.1 X.2.1 d_Model_goesBehind_58 (by decide)) (fun c_51 => ?_) (fun c_51 => ?_)
      · have i_52 := Int32.lt_iff_toInt_lt.mp c_51
        rw [il_M_goesBehind_51_j] at e_48
        simp only [if_pos c_51] at e_48
        rw [il_M_goesBehind_51_g3] at e_49
        simp only [if_pos c_51] at e_49
        replace e_48 := e_48.trans hze_48
        replace e_49 := e_49.trans hze_49
        subst e_48
        subst e_49
        refine V.pick [0, 1, 2, 3] rfl ?_
        refine V.go (pc' := 74) (lv_iconst (v := 1) X.1 X.2.1 d_Model_goesBehind_73 (by decide)) ?_
        exact V.zret X hr hlk rfl ⟨(by simp only [sp_M_goesBehind, if_neg c_20]), (by simp only [sp_M_goesBehind_ad1, if_neg c_20]; exact h_41), (fun q n0_ => (fr_47 q n0_).trans ((fr_25 q n0_)))⟩ d_Model_goesBehind_74
      · have i_53 := mt Int32.lt_iff_toInt_lt.mpr c_51
        refine V.rd (pc' := 62) (fun hl => lv_aload_n X.1 X.2.1 d_Model_goesBehind_61 rfl (lv_at hl 0 rfl)) ?_
        refine V.rd (pc' := 63) (fun hl => lv_iload_n X.1 X.2.1 d_Model_goesBehind_62 rfl (lv_at hl 1 rfl)) ?_
        refine V.rd (pc' := 64) (fun hl => lv_iload_n X.1 X.2.1 d_Model_goesBehind_63 rfl (lv_at hl 3 rfl)) ?_
        refine V.callV (pc' := 67) X hK (c_M_begin hinj (mo := mo) (xcode := xcode) (np := np) (ns := ns) (xsize := xsize) (xmost := xmost) (xend := xend) (xran := xran) (yend := yend) (ysize := ysize) (ymost := ymost) (yran := yran) (vcell := g3) (vvar := vvar) (vfirst := vfirst) (x := x) (y := j) (by first | omega | with_reducible assumption | (have z0_ : (0 : Int32).toInt = 0 := rfl; have z1_ : (1 : Int32).toInt = 1 := rfl; omega)) (by first | omega | with_reducible assumption | (have z0_ : (0 : Int32).toInt = 0 := rfl; have z1_ : (1 : Int32).toInt = 1 := rfl; omega)) (by first | omega | with_reducible assumption | (have z0_ : (0 : Int32).toInt = 0 := rfl; have z1_ : (1 : Int32).toInt = 1 := rfl; omega))  h_34 h_41 h_37 h_39  ) h_34 rfl (cwG (n := 2) X (mcs wd_205) (mcs wd_206) (mcs wd_207) (mcs wd_174) wd_208 (by decide +kernel) (by decide) (by decide)) rfl rfl (Nat.le_of_ble_eq_true rfl) d_Model_goesBehind_64 ⟨by decide, by decide⟩ rfl (st1 := []) rfl (fun M_54 ⟨h_55, fr_56⟩ => ?_)
        have h_57 : M_54 mo = some (.inr (6, [.int xcode, .ref (ad 1), .ref (ad 2), .int np, .int ns, .ref (ad 5), .ref (ad 6), .ref (ad 7), .ref (ad 8), .ref (ad 9), .ref (ad 10), .ref (ad 11), .ref (ad 12), .ref (ad 13), .ref (ad 14), .ref (ad 15), .ref (ad 16), .ref (ad 17), .ref (ad 18), .ref (ad 19), .ref (ad 20), .ref (ad 21), .int xsize, .int xmost, .int xend, .int xran, .ref (ad 26), .int yend, .int ysize, .int ymost, .int yran, .ref (ad 31), .ref (ad 32)])) := (fr_56 _ (ne_k h_34 h_41 (i := 6) (j := 100016) rfl rfl (by decide))).trans h_34
        have h_58 : M_54 (ad 12) = some (.inl (cI, 61, .inl vlev)) := (fr_56 _ (ad_ne hinj (i := 12) (j := 1) (by decide) (by decide) (by decide))).trans h_35
        have h_59 : M_54 (ad 14) = some (.inl (cI, 488, .inl vcc)) := (fr_56 _ (ad_ne hinj (i := 14) (j := 1) (by decide) (by decide) (by decide))).trans h_36
        have h_60 : M_54 (ad 15) = some (.inl (cI, 488, .inl vvar)) := (fr_56 _ (ad_ne hinj (i := 15) (j := 1) (by decide) (by decide) (by decide))).trans h_37
        have h_61 : M_54 (ad 16) = some (.inl (cL, 488, .inr (.inl vleast))) := (fr_56 _ (ad_ne hinj (i := 16) (j := 1) (by decide) (by decide) (by decide))).trans h_38
        have h_62 : M_54 (ad 17) = some (.inl (cL, 488, .inr (.inl vfirst))) := (fr_56 _ (ad_ne hinj (i := 17) (j := 1) (by decide) (by decide) (by decide))).trans h_39
        have h_63 : M_54 (ad 18) = some (.inl (cL, 488, .inr (.inl vstep))) := (fr_56 _ (ad_ne hinj (i := 18) (j := 1) (by decide) (by decide) (by decide))).trans h_40
        refine V.wr (pc' := 70) (lv' := [(3, .int (j + 1)), (0, .ref mo), (1, .int x), (2, .int (il_M_goesBehind_4_op vcell vlev vcc vleast x 9 0 1))]) (fun hl => lv_iinc (k := 3) (v := j + 1) X.1 X.2.1 d_Model_goesBehind_67 hl rfl rfl (by decide) rfl) ?_
        have s_64 : (j + 1).toInt = j.toInt + (1) := i32_add1 (by omega)
        refine V.go (pc' := 51) (lv_goto X.1 X.2.1 d_Model_goesBehind_70 (by decide)) ?_
        refine V.pick [1, 2, 3, 0] rfl ?_
        exact ih_44 n_43 (by omega) () _ _ ⟨(j + 1), (vp_updL g3 (vvar (((8 * (x - 1)) + j) - 1).toNatClampNeg).toNatClampNeg (vfirst (((8 * (x - 1)) + j) - 1).toNatClampNeg)), rfl, h_57, h_58, h_59, h_60, h_61, h_62, h_63, h_55, (fun q n0_ => (fr_56 q n0_).trans ((fr_47 q n0_))), (by first | omega | with_reducible assumption | (have z0_ : (0 : Int32).toInt = 0 := rfl; have z1_ : (1 : Int32).toInt = 1 := rfl; omega)), (by first | omega | with_reducible assumption | (have z0_ : (0 : Int32).toInt = 0 := rfl; have z1_ : (1 : Int32).toInt = 1 := rfl; omega)), (by rw [← e_48, il_M_goesBehind_51_j]; simp only [if_neg c_51]), (by rw [← e_49, il_M_goesBehind_51_g3]; simp only [if_neg c_51])⟩
  · have i_65 := mt Int32.lt_iff_toInt_lt.mpr c_18
    refine V.rd (pc' := 15) (fun hl => lv_aload_n X.1 X.2.1 d_Model_goesBehind_14 rfl (lv_at hl 0 rfl)) ?_
    refine V.rd (pc' := 16) (fun hl => lv_iload_n X.1 X.2.1 d_Model_goesBehind_15 rfl (lv_at hl 1 rfl)) ?_
    refine V.rd (pc' := 17) (fun hl => lv_iload_n X.1 X.2.1 d_Model_goesBehind_16 rfl (lv_at hl 3 rfl)) ?_
    refine V.callV0 (pc' := 20) X hK (c_M_holds hinj (mo := mo) (xcode := xcode) (np := np) (ns := ns) (xsize := xsize) (xmost := xmost) (xend := xend) (xran := xran) (yend := yend) (ysize := ysize) (ymost := ymost) (yran := yran) (vcell := vcell) (vcc := vcc) (vleast := vleast) (x := x) (y := j) (by first | omega | with_reducible assumption | (have z0_ : (0 : Int32).toInt = 0 := rfl; have z1_ : (1 : Int32).toInt = 1 := rfl; omega)) (by first | omega | with_reducible assumption | (have z0_ : (0 : Int32).toInt = 0 := rfl; have z1_ : (1 : Int32).toInt = 1 := rfl; omega)) (by first | omega | with_reducible assumption | (have z0_ : (0 : Int32).toInt = 0 := rfl; have z1_ : (1 : Int32).toInt = 1 := rfl; omega))  h_1 h_2 h_4 h_6  ) h_1 rfl (cwG (n := 2) X (mcs wd_197) (mcs wd_198) (mcs wd_199) (mcs wd_174) wd_200 (by decide +kernel) (by decide) (by decide)) rfl rfl (Nat.le_of_ble_eq_true rfl) d_Model_goesBehind_17 ⟨by decide, by decide⟩ rfl (st1 := [.int (sp_M_holds vcell vcc vleast x j)]) rfl ?_
    refine V.br (pc' := 23) (tgt := 27) (P := (sp_M_holds vcell vcc vleast x j) = 0) (lv_if_eq X.1 X.2.1 d_Model_goesBehind_20 (by decide)) (fun c_67 => ?_) (fun c_67 => ?_)
    · have i_68 := congrArg Int32.toInt c_67
      rw [show (0 : Int32).toInt = 0 from rfl] at i_68
      refine V.rd (pc' := 28) (fun hl => lv_iload_n X.1 X.2.1 d_Model_goesBehind_27 rfl (lv_at hl 3 rfl)) ?_
      refine V.wr (pc' := 29) (lv' := [(2, .int j), (0, .ref mo), (1, .int x), (3, .int j)]) (fun hl => lv_istore_n X.1 X.2.1 d_Model_goesBehind_28 rfl hl (by decide) rfl) ?_
      refine V.wr (pc' := 32) (lv' := [(3, .int (j + 1)), (2, .int j), (0, .ref mo), (1, .int x)]) (fun hl => lv_iinc (k := 3) (v := j + 1) X.1 X.2.1 d_Model_goesBehind_29 hl rfl rfl (by decide) rfl) ?_
      have s_69 : (j + 1).toInt = j.toInt + (1) := i32_add1 (by omega)
      refine V.go (pc' := 4) (lv_goto X.1 X.2.1 d_Model_goesBehind_32 (by decide)) ?_
      refine V.pick [2, 3, 1, 0] rfl ?_
      exact ih_11 n_10 (by omega) () _ _ ⟨j, (j + 1), rfl, h_1, h_2, h_3, h_4, h_5, h_6, h_7, h_8, rfl, (by first | omega | with_reducible assumption | (have z0_ : (0 : Int32).toInt = 0 := rfl; have z1_ : (1 : Int32).toInt = 1 := rfl; omega)), (by first | omega | with_reducible assumption | (have z0_ : (0 : Int32).toInt = 0 := rfl; have z1_ : (1 : Int32).toInt = 1 := rfl; omega)), (by rw [← e_15, il_M_goesBehind_4_op]; simp only [if_neg c_18, if_pos c_67]), (by rw [← e_16, il_M_goesBehind_4_j]; simp only [if_neg c_18, if_pos c_67])⟩
    · have i_70 := mt Int32.toInt_inj.mp c_67
      rw [show (0 : Int32).toInt = 0 from rfl] at i_70
      refine V.rd (pc' := 24) (fun hl => lv_iload_n X.1 X.2.1 d_Model_goesBehind_23 rfl (lv_at hl 2 rfl)) ?_
      refine V.go (pc' := 28) (lv_goto X.1 X.2.1 d_Model_goesBehind_24 (by decide)) ?_
      refine V.wr (pc' := 29) (lv' := [(2, .int op), (0, .ref mo), (1, .int x), (3, .int j)]) (fun hl => lv_istore_n X.1 X.2.1 d_Model_goesBehind_28 rfl hl (by decide) rfl) ?_
      refine V.wr (pc' := 32) (lv' := [(3, .int (j + 1)), (2, .int op), (0, .ref mo), (1, .int x)]) (fun hl => lv_iinc (k := 3) (v := j + 1) X.1 X.2.1 d_Model_goesBehind_29 hl rfl rfl (by decide) rfl) ?_
      have s_71 : (j + 1).toInt = j.toInt + (1) := i32_add1 (by omega)
      refine V.go (pc' := 4) (lv_goto X.1 X.2.1 d_Model_goesBehind_32 (by decide)) ?_
      refine V.pick [2, 3, 1, 0] rfl ?_
      exact ih_11 n_10 (by omega) () _ _ ⟨op, (j + 1), rfl, h_1, h_2, h_3, h_4, h_5, h_6, h_7, h_8, rfl, (by first | omega | with_reducible assumption | (have z0_ : (0 : Int32).toInt = 0 := rfl; have z1_ : (1 : Int32).toInt = 1 := rfl; omega)), (by first | omega | with_reducible assumption | (have z0_ : (0 : Int32).toInt = 0 := rfl; have z1_ : (1 : Int32).toInt = 1 := rfl; omega)), (by rw [← e_15, il_M_goesBehind_4_op]; simp only [if_neg c_18, if_neg c_67]), (by rw [← e_16, il_M_goesBehind_4_j]; simp only [if_neg c_18, if_neg c_67])⟩

theorem d_Model_goesAgain_0 : decode prog_8_method_17_code 0 = .ok (.aload_n 0, 1) := by decide +kernel
theorem d_Model_goesAgain_1 : decode prog_8_method_17_code 1 = .ok (.getfield 60, 3) := by decide +kernel
theorem d_Model_goesAgain_4 : decode prog_8_method_17_code 4 = .ok (.aload_n 0, 1) := by decide +kernel
theorem d_Model_goesAgain_5 : decode prog_8_method_17_code 5 = .ok (.getfield 112, 3) := by decide +kernel
theorem d_Model_goesAgain_8 : decode prog_8_method_17_code 8 = .ok (.iaload, 1) := by decide +kernel
theorem d_Model_goesAgain_9 : decode prog_8_method_17_code 9 = .ok (.istore_n 2, 1) := by decide +kernel
theorem d_Model_goesAgain_10 : decode prog_8_method_17_code 10 = .ok (.aload_n 0, 1) := by decide +kernel
theorem d_Model_goesAgain_11 : decode prog_8_method_17_code 11 = .ok (.getfield 29, 3) := by decide +kernel
theorem d_Model_goesAgain_14 : decode prog_8_method_17_code 14 = .ok (.iload_n 2, 1) := by decide +kernel
theorem d_Model_goesAgain_15 : decode prog_8_method_17_code 15 = .ok (.iaload, 1) := by decide +kernel
theorem d_Model_goesAgain_16 : decode prog_8_method_17_code 16 = .ok (.tableswitch 89 0 2 #[28, 30, 61], 28) := by decide +kernel
theorem d_Model_goesAgain_44 : decode prog_8_method_17_code 44 = .ok (.iload_n 1, 1) := by decide +kernel
theorem d_Model_goesAgain_45 : decode prog_8_method_17_code 45 = .ok (.ireturn, 1) := by decide +kernel
theorem d_Model_goesAgain_46 : decode prog_8_method_17_code 46 = .ok (.aload_n 0, 1) := by decide +kernel
theorem d_Model_goesAgain_47 : decode prog_8_method_17_code 47 = .ok (.getfield 66, 3) := by decide +kernel
theorem d_Model_goesAgain_50 : decode prog_8_method_17_code 50 = .ok (.aload_n 0, 1) := by decide +kernel
theorem d_Model_goesAgain_51 : decode prog_8_method_17_code 51 = .ok (.getfield 112, 3) := by decide +kernel
theorem d_Model_goesAgain_54 : decode prog_8_method_17_code 54 = .ok (.dup2, 1) := by decide +kernel
theorem d_Model_goesAgain_55 : decode prog_8_method_17_code 55 = .ok (.iaload, 1) := by decide +kernel
theorem d_Model_goesAgain_56 : decode prog_8_method_17_code 56 = .ok (.iconst 1, 1) := by decide +kernel
theorem d_Model_goesAgain_57 : decode prog_8_method_17_code 57 = .ok (.isub, 1) := by decide +kernel
theorem d_Model_goesAgain_58 : decode prog_8_method_17_code 58 = .ok (.iastore, 1) := by decide +kernel
theorem d_Model_goesAgain_59 : decode prog_8_method_17_code 59 = .ok (.aload_n 0, 1) := by decide +kernel
theorem d_Model_goesAgain_60 : decode prog_8_method_17_code 60 = .ok (.getfield 66, 3) := by decide +kernel
theorem d_Model_goesAgain_63 : decode prog_8_method_17_code 63 = .ok (.aload_n 0, 1) := by decide +kernel
theorem d_Model_goesAgain_64 : decode prog_8_method_17_code 64 = .ok (.getfield 112, 3) := by decide +kernel
theorem d_Model_goesAgain_67 : decode prog_8_method_17_code 67 = .ok (.iaload, 1) := by decide +kernel
theorem d_Model_goesAgain_68 : decode prog_8_method_17_code 68 = .ok (.ifCond .lt 7, 3) := by decide +kernel
theorem d_Model_goesAgain_71 : decode prog_8_method_17_code 71 = .ok (.iconst 1, 1) := by decide +kernel
theorem d_Model_goesAgain_72 : decode prog_8_method_17_code 72 = .ok (.goto 4, 3) := by decide +kernel
theorem d_Model_goesAgain_75 : decode prog_8_method_17_code 75 = .ok (.iconst 0, 1) := by decide +kernel
theorem d_Model_goesAgain_76 : decode prog_8_method_17_code 76 = .ok (.ireturn, 1) := by decide +kernel
theorem d_Model_goesAgain_77 : decode prog_8_method_17_code 77 = .ok (.iload_n 1, 1) := by decide +kernel
theorem d_Model_goesAgain_78 : decode prog_8_method_17_code 78 = .ok (.ifCond .eq 12, 3) := by decide +kernel
theorem d_Model_goesAgain_81 : decode prog_8_method_17_code 81 = .ok (.aload_n 0, 1) := by decide +kernel
theorem d_Model_goesAgain_82 : decode prog_8_method_17_code 82 = .ok (.getfield 41, 3) := by decide +kernel
theorem d_Model_goesAgain_85 : decode prog_8_method_17_code 85 = .ok (.iload_n 2, 1) := by decide +kernel
theorem d_Model_goesAgain_86 : decode prog_8_method_17_code 86 = .ok (.baload, 1) := by decide +kernel
theorem d_Model_goesAgain_87 : decode prog_8_method_17_code 87 = .ok (.ifCond .eq 12, 3) := by decide +kernel
theorem d_Model_goesAgain_90 : decode prog_8_method_17_code 90 = .ok (.aload_n 0, 1) := by decide +kernel
theorem d_Model_goesAgain_91 : decode prog_8_method_17_code 91 = .ok (.iload_n 2, 1) := by decide +kernel
theorem d_Model_goesAgain_92 : decode prog_8_method_17_code 92 = .ok (.iconst 1, 1) := by decide +kernel
theorem d_Model_goesAgain_93 : decode prog_8_method_17_code 93 = .ok (.invokevirtual 101, 3) := by decide +kernel
theorem d_Model_goesAgain_96 : decode prog_8_method_17_code 96 = .ok (.ifCond .ne 7, 3) := by decide +kernel
theorem d_Model_goesAgain_99 : decode prog_8_method_17_code 99 = .ok (.iconst 1, 1) := by decide +kernel
theorem d_Model_goesAgain_100 : decode prog_8_method_17_code 100 = .ok (.goto 4, 3) := by decide +kernel
theorem d_Model_goesAgain_103 : decode prog_8_method_17_code 103 = .ok (.iconst 0, 1) := by decide +kernel
theorem d_Model_goesAgain_104 : decode prog_8_method_17_code 104 = .ok (.ireturn, 1) := by decide +kernel
theorem d_Model_goesAgain_105 : decode prog_8_method_17_code 105 = .ok (.iconst 1, 1) := by decide +kernel
theorem d_Model_goesAgain_106 : decode prog_8_method_17_code 106 = .ok (.istore_n 3, 1) := by decide +kernel
theorem d_Model_goesAgain_107 : decode prog_8_method_17_code 107 = .ok (.iload_n 3, 1) := by decide +kernel
theorem d_Model_goesAgain_108 : decode prog_8_method_17_code 108 = .ok (.aload_n 0, 1) := by decide +kernel
theorem d_Model_goesAgain_109 : decode prog_8_method_17_code 109 = .ok (.getfield 38, 3) := by decide +kernel
theorem d_Model_goesAgain_112 : decode prog_8_method_17_code 112 = .ok (.iload_n 2, 1) := by decide +kernel
theorem d_Model_goesAgain_113 : decode prog_8_method_17_code 113 = .ok (.iaload, 1) := by decide +kernel
theorem d_Model_goesAgain_114 : decode prog_8_method_17_code 114 = .ok (.if_icmp .gt 19, 3) := by decide +kernel
theorem d_Model_goesAgain_117 : decode prog_8_method_17_code 117 = .ok (.iload_n 1, 1) := by decide +kernel
theorem d_Model_goesAgain_118 : decode prog_8_method_17_code 118 = .ok (.ifCond .eq 15, 3) := by decide +kernel
theorem d_Model_goesAgain_121 : decode prog_8_method_17_code 121 = .ok (.aload_n 0, 1) := by decide +kernel
theorem d_Model_goesAgain_122 : decode prog_8_method_17_code 122 = .ok (.iload_n 2, 1) := by decide +kernel
theorem d_Model_goesAgain_123 : decode prog_8_method_17_code 123 = .ok (.iload_n 3, 1) := by decide +kernel
theorem d_Model_goesAgain_124 : decode prog_8_method_17_code 124 = .ok (.invokevirtual 109, 3) := by decide +kernel
theorem d_Model_goesAgain_127 : decode prog_8_method_17_code 127 = .ok (.iinc 3 1, 3) := by decide +kernel
theorem d_Model_goesAgain_130 : decode prog_8_method_17_code 130 = .ok (.goto (-23), 3) := by decide +kernel
theorem d_Model_goesAgain_133 : decode prog_8_method_17_code 133 = .ok (.aload_n 0, 1) := by decide +kernel
theorem d_Model_goesAgain_134 : decode prog_8_method_17_code 134 = .ok (.getfield 41, 3) := by decide +kernel
theorem d_Model_goesAgain_137 : decode prog_8_method_17_code 137 = .ok (.iload_n 2, 1) := by decide +kernel
theorem d_Model_goesAgain_138 : decode prog_8_method_17_code 138 = .ok (.baload, 1) := by decide +kernel
theorem d_Model_goesAgain_139 : decode prog_8_method_17_code 139 = .ok (.ifCond .ne 21, 3) := by decide +kernel
theorem d_Model_goesAgain_142 : decode prog_8_method_17_code 142 = .ok (.iload_n 1, 1) := by decide +kernel
theorem d_Model_goesAgain_143 : decode prog_8_method_17_code 143 = .ok (.ifCond .ne 11, 3) := by decide +kernel
theorem d_Model_goesAgain_146 : decode prog_8_method_17_code 146 = .ok (.aload_n 0, 1) := by decide +kernel
theorem d_Model_goesAgain_147 : decode prog_8_method_17_code 147 = .ok (.iload_n 2, 1) := by decide +kernel
theorem d_Model_goesAgain_148 : decode prog_8_method_17_code 148 = .ok (.invokevirtual 115, 3) := by decide +kernel
theorem d_Model_goesAgain_151 : decode prog_8_method_17_code 151 = .ok (.ifCond .eq 7, 3) := by decide +kernel
theorem d_Model_goesAgain_154 : decode prog_8_method_17_code 154 = .ok (.iconst 1, 1) := by decide +kernel
theorem d_Model_goesAgain_155 : decode prog_8_method_17_code 155 = .ok (.goto 4, 3) := by decide +kernel
theorem d_Model_goesAgain_158 : decode prog_8_method_17_code 158 = .ok (.iconst 0, 1) := by decide +kernel
theorem d_Model_goesAgain_159 : decode prog_8_method_17_code 159 = .ok (.ireturn, 1) := by decide +kernel
theorem d_Model_goesAgain_160 : decode prog_8_method_17_code 160 = .ok (.iload_n 1, 1) := by decide +kernel
theorem d_Model_goesAgain_161 : decode prog_8_method_17_code 161 = .ok (.ifCond .ne 14, 3) := by decide +kernel
theorem d_Model_goesAgain_164 : decode prog_8_method_17_code 164 = .ok (.aload_n 0, 1) := by decide +kernel
theorem d_Model_goesAgain_165 : decode prog_8_method_17_code 165 = .ok (.iload_n 2, 1) := by decide +kernel
theorem d_Model_goesAgain_166 : decode prog_8_method_17_code 166 = .ok (.aload_n 0, 1) := by decide +kernel
theorem d_Model_goesAgain_167 : decode prog_8_method_17_code 167 = .ok (.getfield 38, 3) := by decide +kernel
theorem d_Model_goesAgain_170 : decode prog_8_method_17_code 170 = .ok (.iload_n 2, 1) := by decide +kernel
theorem d_Model_goesAgain_171 : decode prog_8_method_17_code 171 = .ok (.iaload, 1) := by decide +kernel
theorem d_Model_goesAgain_172 : decode prog_8_method_17_code 172 = .ok (.invokevirtual 105, 3) := by decide +kernel
theorem d_Model_goesAgain_175 : decode prog_8_method_17_code 175 = .ok (.aload_n 0, 1) := by decide +kernel
theorem d_Model_goesAgain_176 : decode prog_8_method_17_code 176 = .ok (.iload_n 2, 1) := by decide +kernel
theorem d_Model_goesAgain_177 : decode prog_8_method_17_code 177 = .ok (.invokevirtual 118, 3) := by decide +kernel
theorem d_Model_goesAgain_180 : decode prog_8_method_17_code 180 = .ok (.ireturn, 1) := by decide +kernel

def il_M_goesAgain_107_j (xsize : Int32) (vlev : Nat → Int32) (vvar : Nat → Int32) (vfirst : Nat → Int64) (vpile : Nat → Int32) (b : Int32) : Nat → Int32 → (Nat → Int64) → Int32
  | 0, j, _ => j
  | n_ + 1, j, g3 => if (vlev (vpile xsize.toNatClampNeg).toNatClampNeg) < j then j else if b = 0 then j else il_M_goesAgain_107_j xsize vlev vvar vfirst vpile b n_ (j + 1) (vp_updL g3 (vvar (((8 * ((vpile xsize.toNatClampNeg) - 1)) + j) - 1).toNatClampNeg).toNatClampNeg (vfirst (((8 * ((vpile xsize.toNatClampNeg) - 1)) + j) - 1).toNatClampNeg))
def il_M_goesAgain_107_g3 (xsize : Int32) (vlev : Nat → Int32) (vvar : Nat → Int32) (vfirst : Nat → Int64) (vpile : Nat → Int32) (b : Int32) : Nat → Int32 → (Nat → Int64) → Nat → Int64
  | 0, _, g3 => g3
  | n_ + 1, j, g3 => if (vlev (vpile xsize.toNatClampNeg).toNatClampNeg) < j then g3 else if b = 0 then g3 else il_M_goesAgain_107_g3 xsize vlev vvar vfirst vpile b n_ (j + 1) (vp_updL g3 (vvar (((8 * ((vpile xsize.toNatClampNeg) - 1)) + j) - 1).toNatClampNeg).toNatClampNeg (vfirst (((8 * ((vpile xsize.toNatClampNeg) - 1)) + j) - 1).toNatClampNeg))
def sp_M_goesAgain (xsize : Int32) (vcell : Nat → Int64) (vkind : Nat → Int32) (vlev : Nat → Int32) (vask : Nat → Int32) (vcc : Nat → Int32) (vvar : Nat → Int32) (vleast : Nat → Int64) (vfirst : Nat → Int64) (vstep : Nat → Int64) (vpile : Nat → Int32) (vleft : Nat → Int32) (b : Int32) : Int32 := if (vkind (vpile xsize.toNatClampNeg).toNatClampNeg) = 0 then b else if (vkind (vpile xsize.toNatClampNeg).toNatClampNeg) = 1 then (if ((upd vleft xsize.toNatClampNeg ((vleft xsize.toNatClampNeg) - 1)) xsize.toNatClampNeg) < 0 then 0 else 1) else if (vkind (vpile xsize.toNatClampNeg).toNatClampNeg) = 2 then (if b = 0 then (if (sp_M_holds vcell vcc vleast (vpile xsize.toNatClampNeg) 1) = 0 then 1 else 0) else if (vask (vpile xsize.toNatClampNeg).toNatClampNeg) = 0 then 1 else if (sp_M_holds vcell vcc vleast (vpile xsize.toNatClampNeg) 1) = 0 then 1 else 0) else if (vask (vpile xsize.toNatClampNeg).toNatClampNeg) = 0 then (if b = 0 then (if (sp_M_goesBehind (il_M_goesAgain_107_g3 xsize vlev vvar vfirst vpile b 9 1 vcell) vlev vcc vleast (vpile xsize.toNatClampNeg)) = 0 then 0 else 1) else 1) else if b = 0 then lp_M_goesAhead vlev vcc vvar vleast vfirst vstep (vpile xsize.toNatClampNeg) 1001 0 (vp_updL (il_M_goesAgain_107_g3 xsize vlev vvar vfirst vpile b 9 1 vcell) (vvar (((8 * ((vpile xsize.toNatClampNeg) - 1)) + (vlev (vpile xsize.toNatClampNeg).toNatClampNeg)) - 1).toNatClampNeg).toNatClampNeg (((il_M_goesAgain_107_g3 xsize vlev vvar vfirst vpile b 9 1 vcell) (vvar (((8 * ((vpile xsize.toNatClampNeg) - 1)) + (vlev (vpile xsize.toNatClampNeg).toNatClampNeg)) - 1).toNatClampNeg).toNatClampNeg) + (vstep (((8 * ((vpile xsize.toNatClampNeg) - 1)) + (vlev (vpile xsize.toNatClampNeg).toNatClampNeg)) - 1).toNatClampNeg))) else lp_M_goesAhead vlev vcc vvar vleast vfirst vstep (vpile xsize.toNatClampNeg) 1001 0 (il_M_goesAgain_107_g3 xsize vlev vvar vfirst vpile b 9 1 vcell)
def sp_M_goesAgain_ad21 (xsize : Int32) (vkind : Nat → Int32) (vpile : Nat → Int32) (vleft : Nat → Int32) : Nat → Int32 := if (vkind (vpile xsize.toNatClampNeg).toNatClampNeg) = 0 then vleft else if (vkind (vpile xsize.toNatClampNeg).toNatClampNeg) = 1 then upd vleft xsize.toNatClampNeg ((vleft xsize.toNatClampNeg) - 1) else vleft
def sp_M_goesAgain_ad1 (xsize : Int32) (vcell : Nat → Int64) (vkind : Nat → Int32) (vlev : Nat → Int32) (vask : Nat → Int32) (vcc : Nat → Int32) (vvar : Nat → Int32) (vleast : Nat → Int64) (vfirst : Nat → Int64) (vstep : Nat → Int64) (vpile : Nat → Int32) (b : Int32) : Nat → Int64 := if (vkind (vpile xsize.toNatClampNeg).toNatClampNeg) = 0 then vcell else if (vkind (vpile xsize.toNatClampNeg).toNatClampNeg) = 1 then vcell else if (vkind (vpile xsize.toNatClampNeg).toNatClampNeg) = 2 then vcell else if (vask (vpile xsize.toNatClampNeg).toNatClampNeg) = 0 then (if b = 0 then sp_M_goesBehind_ad1 (il_M_goesAgain_107_g3 xsize vlev vvar vfirst vpile b 9 1 vcell) vlev vcc vvar vleast vfirst vstep (vpile xsize.toNatClampNeg) else il_M_goesAgain_107_g3 xsize vlev vvar vfirst vpile b 9 1 vcell) else if b = 0 then lp_M_goesAhead_ad1 vlev vcc vvar vleast vfirst vstep (vpile xsize.toNatClampNeg) 1001 0 (vp_updL (il_M_goesAgain_107_g3 xsize vlev vvar vfirst vpile b 9 1 vcell) (vvar (((8 * ((vpile xsize.toNatClampNeg) - 1)) + (vlev (vpile xsize.toNatClampNeg).toNatClampNeg)) - 1).toNatClampNeg).toNatClampNeg (((il_M_goesAgain_107_g3 xsize vlev vvar vfirst vpile b 9 1 vcell) (vvar (((8 * ((vpile xsize.toNatClampNeg) - 1)) + (vlev (vpile xsize.toNatClampNeg).toNatClampNeg)) - 1).toNatClampNeg).toNatClampNeg) + (vstep (((8 * ((vpile xsize.toNatClampNeg) - 1)) + (vlev (vpile xsize.toNatClampNeg).toNatClampNeg)) - 1).toNatClampNeg))) else lp_M_goesAhead_ad1 vlev vcc vvar vleast vfirst vstep (vpile xsize.toNatClampNeg) 1001 0 (il_M_goesAgain_107_g3 xsize vlev vvar vfirst vpile b 9 1 vcell)
set_option maxHeartbeats 4000000 in
set_option maxRecDepth 100000 in
theorem c_M_goesAgain {l : Launch} {H0 : Heap} {D : va_G} {cI cL cQ cB : ClassId} {M : mp} {mo : Nat} {ad : Nat → Nat} (hinj : ∀ i j : Nat, i < 33 → j < 33 → ad i = ad j → i = j) {xcode : Int32} {np : Int32} {ns : Int32} {xsize : Int32} {xmost : Int32} {xend : Int32} {xran : Int32} {yend : Int32} {ysize : Int32} {ymost : Int32} {yran : Int32} {vfrom : Nat → Int32} {vcell : Nat → Int64} {vkind : Nat → Int32} {vlev : Nat → Int32} {vask : Nat → Int32} {vcc : Nat → Int32} {vvar : Nat → Int32} {vleast : Nat → Int64} {vfirst : Nat → Int64} {vstep : Nat → Int64} {vpile : Nat → Int32} {vleft : Nat → Int32} {b : Int32} (hb : b = 0 ∨ b = 1) (hsz : 1 ≤ xsize.toInt ∧ xsize.toInt ≤ 100) (hpk : ∀ k : Nat, PK vfrom vkind vlev (vpile k)) (hp1 : ∀ k : Nat, 1 ≤ k → (k : Int) ≤ xsize.toInt → 1 ≤ (vpile k).toInt) (hle : ∀ i : Nat, 0 ≤ (vlev i).toInt ∧ (vlev i).toInt ≤ 7) (hcc : ∀ i : Nat, 0 ≤ (vcc i).toInt ∧ (vcc i).toInt ≤ 15) (hva : ∀ i : Nat, 0 ≤ (vvar i).toInt ∧ (vvar i).toInt ≤ 15) (gh0 : M mo = some (.inr (6, [.int xcode, .ref (ad 1), .ref (ad 2), .int np, .int ns, .ref (ad 5), .ref (ad 6), .ref (ad 7), .ref (ad 8), .ref (ad 9), .ref (ad 10), .ref (ad 11), .ref (ad 12), .ref (ad 13), .ref (ad 14), .ref (ad 15), .ref (ad 16), .ref (ad 17), .ref (ad 18), .ref (ad 19), .ref (ad 20), .ref (ad 21), .int xsize, .int xmost, .int xend, .int xran, .ref (ad 26), .int yend, .int ysize, .int ymost, .int yran, .ref (ad 31), .ref (ad 32)]))) (gh1 : M (ad 1) = some (.inl (cL, 16, .inr (.inl vcell)))) (gh2 : M (ad 9) = some (.inl (cI, 61, .inl vkind))) (gh3 : M (ad 12) = some (.inl (cI, 61, .inl vlev))) (gh4 : M (ad 13) = some (.inl (cB, 61, .inl vask))) (gh5 : M (ad 14) = some (.inl (cI, 488, .inl vcc))) (gh6 : M (ad 15) = some (.inl (cI, 488, .inl vvar))) (gh7 : M (ad 16) = some (.inl (cL, 488, .inr (.inl vleast)))) (gh8 : M (ad 17) = some (.inl (cL, 488, .inr (.inl vfirst)))) (gh9 : M (ad 18) = some (.inl (cL, 488, .inr (.inl vstep)))) (gh10 : M (ad 19) = some (.inl (cI, 101, .inl vpile))) (gh11 : M (ad 21) = some (.inl (cI, 101, .inl vleft))) : MC l H0 D cls7 (tysOf cI cL cQ cB) NW ({ cls := "PerformRangesModel", name := "goesAgain", desc := "(Z)Z" } : Jvm.MethodName) (Cond.code ({ cls := "PerformRangesModel", name := "goesAgain", desc := "(Z)Z" } : Jvm.MethodName) prog_8_method_17_code 4 (Option.some Jvm.ClassFile.FieldType.boolean) :: GW) ({ frames := 2, cells := 0, slots := 0, locals := 47 }) [.ref mo, .int b] M (fun v M' => v = some (.int (sp_M_goesAgain xsize vcell vkind vlev vask vcc vvar vleast vfirst vstep vpile vleft b)) ∧ M' (ad 21) = some (.inl (cI, 101, .inl (sp_M_goesAgain_ad21 xsize vkind vpile vleft))) ∧ M' (ad 1) = some (.inl (cL, 16, .inr (.inl (sp_M_goesAgain_ad1 xsize vcell vkind vlev vask vcc vvar vleast vfirst vstep vpile b)))) ∧ (∀ q, q ≠ (ad 21) → q ≠ (ad 1) → M' q = M q)) := by
  refine MC.of (cc := prog_8_method_17_code) (nL := 4) (ret := (Option.some Jvm.ClassFile.FieldType.boolean)) (lv := [(0, .ref mo), (1, .int b)]) (by decide) rfl (Nat.le_of_ble_eq_true rfl) rfl ?_
  intro p e s m below meth c X hr hlk hnm hK
  refine V.rd (pc' := 1) (fun hl => lv_aload_n X.1 X.2.1 d_Model_goesAgain_0 rfl (lv_at hl 0 rfl)) ?_
  refine V.get (pc' := 4) X hK gh0 uw_Model rfl 19 (by decide) (mcs wd_209) rfl d_Model_goesAgain_1 rfl ?_
  refine V.rd (pc' := 5) (fun hl => lv_aload_n X.1 X.2.1 d_Model_goesAgain_4 rfl (lv_at hl 0 rfl)) ?_
  refine V.get (pc' := 8) X hK gh0 uw_Model rfl 22 (by decide) (mcs wd_210) rfl d_Model_goesAgain_5 rfl ?_
  refine V.iald (pc' := 9) X hK 0 gh10 rfl (vin (by omega) (by omega)) d_Model_goesAgain_8 rfl ?_
  have q_1 := PK.r hpk xsize.toNatClampNeg
  refine V.wr (pc' := 10) (lv' := [(2, .int (vpile xsize.toNatClampNeg)), (0, .ref mo), (1, .int b)]) (fun hl => lv_istore_n X.1 X.2.1 d_Model_goesAgain_9 rfl hl (by decide) rfl) ?_
  refine V.rd (pc' := 11) (fun hl => lv_aload_n X.1 X.2.1 d_Model_goesAgain_10 rfl (lv_at hl 1 rfl)) ?_
  refine V.get (pc' := 14) X hK gh0 uw_Model rfl 9 (by decide) (mcs wd_178) rfl d_Model_goesAgain_11 rfl ?_
  refine V.rd (pc' := 15) (fun hl => lv_iload_n X.1 X.2.1 d_Model_goesAgain_14 rfl (lv_at hl 0 rfl)) ?_
  refine V.iald (pc' := 16) X hK 0 gh2 rfl (vin (by omega) (by omega)) d_Model_goesAgain_15 rfl ?_
  refine V.dec (P := (vkind (vpile xsize.toNatClampNeg).toNatClampNeg) = 0) (fun c_2 => ?_) (fun c_2 => ?_)
  · refine V.go (pc' := 44) (lv_tableIn X.1 X.2.1 d_Model_goesAgain_16 (by rw [c_2]; decide) (by rw [c_2]; decide) (off := 28) (by rw [c_2]; rfl) (by decide)) ?_
    refine V.rd (pc' := 45) (fun hl => lv_iload_n X.1 X.2.1 d_Model_goesAgain_44 rfl (lv_at hl 2 rfl)) ?_
    exact V.zret X hr hlk (nb_ok hb) ⟨(by simp only [sp_M_goesAgain, if_pos c_2]), (by simp only [sp_M_goesAgain_ad21, if_pos c_2]; exact gh11), (by simp only [sp_M_goesAgain_ad1, if_pos c_2]; exact gh1), (fun q n0_ n1_ => rfl)⟩ d_Model_goesAgain_45
  · refine V.dec (P := (vkind (vpile xsize.toNatClampNeg).toNatClampNeg) = 1) (fun c_3 => ?_) (fun c_3 => ?_)
    · refine V.go (pc' := 46) (lv_tableIn X.1 X.2.1 d_Model_goesAgain_16 (by rw [c_3]; decide) (by rw [c_3]; decide) (off := 30) (by rw [c_3]; rfl) (by decide)) ?_
      refine V.rd (pc' := 47) (fun hl => lv_aload_n X.1 X.2.1 d_Model_goesAgain_46 rfl (lv_at hl 1 rfl)) ?_
      refine V.get (pc' := 50) X hK gh0 uw_Model rfl 21 (by decide) (mcs wd_211) rfl d_Model_goesAgain_47 rfl ?_
      refine V.rd (pc' := 51) (fun hl => lv_aload_n X.1 X.2.1 d_Model_goesAgain_50 rfl (lv_at hl 1 rfl)) ?_
      refine V.get (pc' := 54) X hK gh0 uw_Model rfl 22 (by decide) (mcs wd_210) rfl d_Model_goesAgain_51 rfl ?_
      refine V.go (pc' := 55) (lv_dup2_11 X.1 X.2.1 d_Model_goesAgain_54 rfl rfl) ?_
      refine V.iald (pc' := 56) X hK 0 gh11 rfl (vin (by omega) (by omega)) d_Model_goesAgain_55 rfl ?_
      refine V.go (pc' := 57) (lv_iconst (v := 1) X.1 X.2.1 d_Model_goesAgain_56 (by decide)) ?_
      refine V.go (pc' := 58) (lv_isub X.1 X.2.1 d_Model_goesAgain_57) ?_
      refine V.iast (pc' := 59) X hK 0 gh11 rfl (vin (by omega) (by omega)) d_Model_goesAgain_58 rfl (fun M_4 h_5 fr_6 => ?_)
      have h_7 : M_4 mo = some (.inr (6, [.int xcode, .ref (ad 1), .ref (ad 2), .int np, .int ns, .ref (ad 5), .ref (ad 6), .ref (ad 7), .ref (ad 8), .ref (ad 9), .ref (ad 10), .ref (ad 11), .ref (ad 12), .ref (ad 13), .ref (ad 14), .ref (ad 15), .ref (ad 16), .ref (ad 17), .ref (ad 18), .ref (ad 19), .ref (ad 20), .ref (ad 21), .int xsize, .int xmost, .int xend, .int xran, .ref (ad 26), .int yend, .int ysize, .int ymost, .int yran, .ref (ad 31), .ref (ad 32)])) := (fr_6 _ (ne_k gh0 gh11 (i := 6) (j := 1101) rfl rfl (by decide))).trans gh0
      have h_8 : M_4 (ad 1) = some (.inl (cL, 16, .inr (.inl vcell))) := (fr_6 _ (ad_ne hinj (i := 1) (j := 21) (by decide) (by decide) (by decide))).trans gh1
      have h_9 : M_4 (ad 9) = some (.inl (cI, 61, .inl vkind)) := (fr_6 _ (ad_ne hinj (i := 9) (j := 21) (by decide) (by decide) (by decide))).trans gh2
      have h_10 : M_4 (ad 12) = some (.inl (cI, 61, .inl vlev)) := (fr_6 _ (ad_ne hinj (i := 12) (j := 21) (by decide) (by decide) (by decide))).trans gh3
      have h_11 : M_4 (ad 13) = some (.inl (cB, 61, .inl vask)) := (fr_6 _ (ad_ne hinj (i := 13) (j := 21) (by decide) (by decide) (by decide))).trans gh4
      have h_12 : M_4 (ad 14) = some (.inl (cI, 488, .inl vcc)) := (fr_6 _ (ad_ne hinj (i := 14) (j := 21) (by decide) (by decide) (by decide))).trans gh5
      have h_13 : M_4 (ad 15) = some (.inl (cI, 488, .inl vvar)) := (fr_6 _ (ad_ne hinj (i := 15) (j := 21) (by decide) (by decide) (by decide))).trans gh6
      have h_14 : M_4 (ad 16) = some (.inl (cL, 488, .inr (.inl vleast))) := (fr_6 _ (ad_ne hinj (i := 16) (j := 21) (by decide) (by decide) (by decide))).trans gh7
      have h_15 : M_4 (ad 17) = some (.inl (cL, 488, .inr (.inl vfirst))) := (fr_6 _ (ad_ne hinj (i := 17) (j := 21) (by decide) (by decide) (by decide))).trans gh8
      have h_16 : M_4 (ad 18) = some (.inl (cL, 488, .inr (.inl vstep))) := (fr_6 _ (ad_ne hinj (i := 18) (j := 21) (by decide) (by decide) (by decide))).trans gh9
      have h_17 : M_4 (ad 19) = some (.inl (cI, 101, .inl vpile)) := (fr_6 _ (ad_ne hinj (i := 19) (j := 21) (by decide) (by decide) (by decide))).trans gh10
      refine V.rd (pc' := 60) (fun hl => lv_aload_n X.1 X.2.1 d_Model_goesAgain_59 rfl (lv_at hl 1 rfl)) ?_
      refine V.get (pc' := 63) X hK h_7 uw_Model rfl 21 (by decide) (mcs wd_211) rfl d_Model_goesAgain_60 rfl ?_
      refine V.rd (pc' := 64) (fun hl => lv_aload_n X.1 X.2.1 d_Model_goesAgain_63 rfl (lv_at hl 1 rfl)) ?_
      refine V.get (pc' := 67) X hK h_7 uw_Model rfl 22 (by decide) (mcs wd_210) rfl d_Model_goesAgain_64 rfl ?_
      refine V.iald (pc' := 68) X hK 0 h_5 rfl (vin (by omega) (by omega)) d_Model_goesAgain_67 rfl ?_
      refine V.br (pc' := 71) (tgt := 75) (P := ((upd vleft xsize.toNatClampNeg ((vleft xsize.toNatClampNeg) - 1)) xsize.toNatClampNeg) < 0) (lv_if_lt X.1 X.2.1 d_Model_goesAgain_68 (by decide)) (fun c_18 => ?_) (fun c_18 => ?_)
      · have i_19 := Int32.lt_iff_toInt_lt.mp c_18
        rw [show (0 : Int32).toInt = 0 from rfl] at i_19
        refine V.go (pc' := 76) (lv_iconst (v := 0) X.1 X.2.1 d_Model_goesAgain_75 (by decide)) ?_
        exact V.zret X hr hlk rfl ⟨(by simp only [sp_M_goesAgain, if_neg c_2, if_pos c_3, if_pos c_18]), (by simp only [sp_M_goesAgain_ad21, if_neg c_2, if_pos c_3, if_pos c_18]; exact h_5), (by simp only [sp_M_goesAgain_ad1, if_neg c_2, if_pos c_3, if_pos c_18]; exact h_8), (fun q n0_ n1_ => (fr_6 q n0_))⟩ d_Model_goesAgain_76
      · have i_20 := mt Int32.lt_iff_toInt_lt.mpr c_18
        rw [show (0 : Int32).toInt = 0 from rfl] at i_20
        refine V.go (pc' := 72) (lv_iconst (v := 1) X.1 X.2.1 d_Model_goesAgain_71 (by decide)) ?_
        refine V.go (pc' := 76) (lv_goto X.1 X.2.1 d_Model_goesAgain_72 (by decide)) ?_
        exact V.zret X hr hlk rfl ⟨(by simp only [sp_M_goesAgain, if_neg c_2, if_pos c_3, if_neg c_18]), (by simp only [sp_M_goesAgain_ad21, if_neg c_2, if_pos c_3, if_neg c_18]; exact h_5), (by simp only [sp_M_goesAgain_ad1, if_neg c_2, if_pos c_3, if_neg c_18]; exact h_8), (fun q n0_ n1_ => (fr_6 q n0_))⟩ d_Model_goesAgain_76
    · refine V.dec (P := (vkind (vpile xsize.toNatClampNeg).toNatClampNeg) = 2) (fun c_21 => ?_) (fun c_21 => ?_)
      · refine V.go (pc' := 77) (lv_tableIn X.1 X.2.1 d_Model_goesAgain_16 (by rw [c_21]; decide) (by rw [c_21]; decide) (off := 61) (by rw [c_21]; rfl) (by decide)) ?_
        have q_22 := hp1 xsize.toNatClampNeg (by have := clampI (x := xsize) (by omega); omega) (by rw [clampI (by omega)]; omega)
        refine V.rd (pc' := 78) (fun hl => lv_iload_n X.1 X.2.1 d_Model_goesAgain_77 rfl (lv_at hl 2 rfl)) ?_
        refine V.br (pc' := 81) (tgt := 90) (P := b = 0) (lv_if_eq X.1 X.2.1 d_Model_goesAgain_78 (by decide)) (fun c_23 => ?_) (fun c_23 => ?_)
        · have i_24 := congrArg Int32.toInt c_23
          rw [show (0 : Int32).toInt = 0 from rfl] at i_24
          refine V.rd (pc' := 91) (fun hl => lv_aload_n X.1 X.2.1 d_Model_goesAgain_90 rfl (lv_at hl 1 rfl)) ?_
          refine V.rd (pc' := 92) (fun hl => lv_iload_n X.1 X.2.1 d_Model_goesAgain_91 rfl (lv_at hl 0 rfl)) ?_
          refine V.go (pc' := 93) (lv_iconst (v := 1) X.1 X.2.1 d_Model_goesAgain_92 (by decide)) ?_
          refine V.callV0 (pc' := 96) X hK (c_M_holds hinj (mo := mo) (xcode := xcode) (np := np) (ns := ns) (xsize := xsize) (xmost := xmost) (xend := xend) (xran := xran) (yend := yend) (ysize := ysize) (ymost := ymost) (yran := yran) (vcell := vcell) (vcc := vcc) (vleast := vleast) (x := vpile xsize.toNatClampNeg) (y := 1) (by first | omega | with_reducible assumption | (have z0_ : (0 : Int32).toInt = 0 := rfl; have z1_ : (1 : Int32).toInt = 1 := rfl; omega)) (by first | omega | with_reducible assumption | (have z0_ : (0 : Int32).toInt = 0 := rfl; have z1_ : (1 : Int32).toInt = 1 := rfl; omega)) (by first | omega | with_reducible assumption | (have z0_ : (0 : Int32).toInt = 0 := rfl; have z1_ : (1 : Int32).toInt = 1 := rfl; omega))  gh0 gh1 gh5 gh7  ) gh0 rfl (cwG (n := 2) X (mcs wd_197) (mcs wd_198) (mcs wd_199) (mcs wd_174) wd_200 (by decide +kernel) (by decide) (by decide)) rfl rfl (Nat.le_of_ble_eq_true rfl) d_Model_goesAgain_93 ⟨by decide, by decide⟩ rfl (st1 := [.int (sp_M_holds vcell vcc vleast (vpile xsize.toNatClampNeg) 1)]) rfl ?_
          refine V.bn (pc' := 99) (tgt := 103) (P := (sp_M_holds vcell vcc vleast (vpile xsize.toNatClampNeg) 1) = 0) (lv_if_ne X.1 X.2.1 d_Model_goesAgain_96 (by decide)) (fun c_26 => ?_) (fun c_26 => ?_)
          · have i_27 := congrArg Int32.toInt c_26
            rw [show (0 : Int32).toInt = 0 from rfl] at i_27
            refine V.go (pc' := 100) (lv_iconst (v := 1) X.1 X.2.1 d_Model_goesAgain_99 (by decide)) ?_
            refine V.go (pc' := 104) (lv_goto X.1 X.2.1 d_Model_goesAgain_100 (by decide)) ?_
            exact V.zret X hr hlk rfl ⟨(by simp only [sp_M_goesAgain, if_neg c_2, if_neg c_3, if_pos c_21, if_pos c_23, if_pos c_26]), (by simp only [sp_M_goesAgain_ad21, if_neg c_2, if_neg c_3, if_pos c_21, if_pos c_23, if_pos c_26]; exact gh11), (by simp only [sp_M_goesAgain_ad1, if_neg c_2, if_neg c_3, if_pos c_21, if_pos c_23, if_pos c_26]; exact gh1), (fun q n0_ n1_ => rfl)⟩ d_Model_goesAgain_104
          · have i_28 := mt Int32.toInt_inj.mp c_26
            rw [show (0 : Int32).toInt = 0 from rfl] at i_28
            refine V.go (pc' := 104) (lv_iconst (v := 0) X.1 X.2.1 d_Model_goesAgain_103 (by decide)) ?_
            exact V.zret X hr hlk rfl ⟨(by simp only [sp_M_goesAgain, if_neg c_2, if_neg c_3, if_pos c_21, if_pos c_23, if_neg c_26]), (by simp only [sp_M_goesAgain_ad21, if_neg c_2, if_neg c_3, if_pos c_21, if_pos c_23, if_neg c_26]; exact gh11), (by simp only [sp_M_goesAgain_ad1, if_neg c_2, if_neg c_3, if_pos c_21, if_pos c_23, if_neg c_26]; exact gh1), (fun q n0_ n1_ => rfl)⟩ d_Model_goesAgain_104
        · have i_29 := mt Int32.toInt_inj.mp c_23
          rw [show (0 : Int32).toInt = 0 from rfl] at i_29
          refine V.rd (pc' := 82) (fun hl => lv_aload_n X.1 X.2.1 d_Model_goesAgain_81 rfl (lv_at hl 1 rfl)) ?_
          refine V.get (pc' := 85) X hK gh0 uw_Model rfl 13 (by decide) (mcs wd_188) rfl d_Model_goesAgain_82 rfl ?_
          refine V.rd (pc' := 86) (fun hl => lv_iload_n X.1 X.2.1 d_Model_goesAgain_85 rfl (lv_at hl 0 rfl)) ?_
          refine V.zald (pc' := 87) X hK 3 gh4 rfl (vin (by omega) (by omega)) d_Model_goesAgain_86 rfl ?_
          refine V.br (pc' := 90) (tgt := 99) (P := (vask (vpile xsize.toNatClampNeg).toNatClampNeg) = 0) (lv_if_eq X.1 X.2.1 d_Model_goesAgain_87 (by decide)) (fun c_30 => ?_) (fun c_30 => ?_)
          · have i_31 := congrArg Int32.toInt c_30
            rw [show (0 : Int32).toInt = 0 from rfl] at i_31
            refine V.go (pc' := 100) (lv_iconst (v := 1) X.1 X.2.1 d_Model_goesAgain_99 (by decide)) ?_
            refine V.go (pc' := 104) (lv_goto X.1 X.2.1 d_Model_goesAgain_100 (by decide)) ?_
            exact V.zret X hr hlk rfl ⟨(by simp only [sp_M_goesAgain, if_neg c_2, if_neg c_3, if_pos c_21, if_neg c_23, if_pos c_30]), (by simp only [sp_M_goesAgain_ad21, if_neg c_2, if_neg c_3, if_pos c_21, if_neg c_23, if_pos c_30]; exact gh11), (by simp only [sp_M_goesAgain_ad1, if_neg c_2, if_neg c_3, if_pos c_21, if_neg c_23, if_pos c_30]; exact gh1), (fun q n0_ n1_ => rfl)⟩ d_Model_goesAgain_104
          · have i_32 := mt Int32.toInt_inj.mp c_30
            rw [show (0 : Int32).toInt = 0 from rfl] at i_32
            refine V.rd (pc' := 91) (fun hl => lv_aload_n X.1 X.2.1 d_Model_goesAgain_90 rfl (lv_at hl 1 rfl)) ?_
            refine V.rd (pc' := 92) (fun hl => lv_iload_n X.1 X.2.1 d_Model_goesAgain_91 rfl (lv_at hl 0 rfl)) ?_
            refine V.go (pc' := 93) (lv_iconst (v := 1) X.1 X.2.1 d_Model_goesAgain_92 (by decide)) ?_
            refine V.callV0 (pc' := 96) X hK (c_M_holds hinj (mo := mo) (xcode := xcode) (np := np) (ns := ns) (xsize := xsize) (xmost := xmost) (xend := xend) (xran := xran) (yend := yend) (ysize := ysize) (ymost := ymost) (yran := yran) (vcell := vcell) (vcc := vcc) (vleast := vleast) (x := vpile xsize.toNatClampNeg) (y := 1) (by first | omega | with_reducible assumption | (have z0_ : (0 : Int32).toInt = 0 := rfl; have z1_ : (1 : Int32).toInt = 1 := rfl; omega)) (by first | omega | with_reducible assumption | (have z0_ : (0 : Int32).toInt = 0 := rfl; have z1_ : (1 : Int32).toInt = 1 := rfl; omega)) (by first | omega | with_reducible assumption | (have z0_ : (0 : Int32).toInt = 0 := rfl; have z1_ : (1 : Int32).toInt = 1 := rfl; omega))  gh0 gh1 gh5 gh7  ) gh0 rfl (cwG (n := 2) X (mcs wd_197) (mcs wd_198) (mcs wd_199) (mcs wd_174) wd_200 (by decide +kernel) (by decide) (by decide)) rfl rfl (Nat.le_of_ble_eq_true rfl) d_Model_goesAgain_93 ⟨by decide, by decide⟩ rfl (st1 := [.int (sp_M_holds vcell vcc vleast (vpile xsize.toNatClampNeg) 1)]) rfl ?_
            refine V.bn (pc' := 99) (tgt := 103) (P := (sp_M_holds vcell vcc vleast (vpile xsize.toNatClampNeg) 1) = 0) (lv_if_ne X.1 X.2.1 d_Model_goesAgain_96 (by decide)) (fun c_34 => ?_) (fun c_34 => ?_)
            · have i_35 := congrArg Int32.toInt c_34
              rw [show (0 : Int32).toInt = 0 from rfl] at i_35
              refine V.go (pc' := 100) (lv_iconst (v := 1) X.1 X.2.1 d_Model_goesAgain_99 (by decide)) ?_
              refine V.go (pc' := 104) (lv_goto X.1 X.2.1 d_Model_goesAgain_100 (by decide)) ?_
              exact V.zret X hr hlk rfl ⟨(by simp only [sp_M_goesAgain, if_neg c_2, if_neg c_3, if_pos c_21, if_neg c_23, if_neg c_30, if_pos c_34]), (by simp only [sp_M_goesAgain_ad21, if_neg c_2, if_neg c_3, if_pos c_21, if_neg c_23, if_neg c_30, if_pos c_34]; exact gh11), (by simp only [sp_M_goesAgain_ad1, if_neg c_2, if_neg c_3, if_pos c_21, if_neg c_23, if_neg c_30, if_pos c_34]; exact gh1), (fun q n0_ n1_ => rfl)⟩ d_Model_goesAgain_104
            · have i_36 := mt Int32.toInt_inj.mp c_34
              rw [show (0 : Int32).toInt = 0 from rfl] at i_36
              refine V.go (pc' := 104) (lv_iconst (v := 0) X.1 X.2.1 d_Model_goesAgain_103 (by decide)) ?_
              exact V.zret X hr hlk rfl ⟨(by simp only [sp_M_goesAgain, if_neg c_2, if_neg c_3, if_pos c_21, if_neg c_23, if_neg c_30, if_neg c_34]), (by simp only [sp_M_goesAgain_ad21, if_neg c_2, if_neg c_3, if_pos c_21, if_neg c_23, if_neg c_30, if_neg c_34]; exact gh11), (by simp only [sp_M_goesAgain_ad1, if_neg c_2, if_neg c_3, if_pos c_21, if_neg c_23, if_neg c_30, if_neg c_34]; exact gh1), (fun q n0_ n1_ => rfl)⟩ d_Model_goesAgain_104
      · refine V.go (pc' := 105) (lv_tableOut X.1 X.2.1 d_Model_goesAgain_16 (by have t0 := lv_neT (a := 0) c_2 rfl; have t1 := lv_neT (a := 1) c_3 rfl; have t2 := lv_neT (a := 2) c_21 rfl; omega) (by decide)) ?_
        have q_37 := hp1 xsize.toNatClampNeg (by have := clampI (x := xsize) (by omega); omega) (by rw [clampI (by omega)]; omega)
        have q_38 := ((hpk _).2.2 q_37).2 c_2 c_3 c_21
        refine V.go (pc' := 106) (lv_iconst (v := 1) X.1 X.2.1 d_Model_goesAgain_105 (by decide)) ?_
        refine V.wr (pc' := 107) (lv' := [(3, .int 1), (2, .int (vpile xsize.toNatClampNeg)), (0, .ref mo), (1, .int b)]) (fun hl => lv_istore_n X.1 X.2.1 d_Model_goesAgain_106 rfl hl (by decide) rfl) ?_
        obtain ⟨ze_57, hze_57⟩ : ∃ z, z = il_M_goesAgain_107_j xsize vlev vvar vfirst vpile b 9 1 vcell := ⟨_, rfl⟩
        obtain ⟨ze_58, hze_58⟩ : ∃ z, z = il_M_goesAgain_107_g3 xsize vlev vvar vfirst vpile b 9 1 vcell := ⟨_, rfl⟩
        refine V.pick [2, 3, 1, 0] rfl ?_
        refine V.ind (α := Unit) (x0 := ()) (n0 := 9) (I := fun nn_ _ M' lv' => ∃ (j : Int32) (g3 : Nat → Int64), lv' = [(0, .ref mo), (1, .int b), (2, .int (vpile xsize.toNatClampNeg)), (3, .int j)] ∧ M' mo = some (.inr (6, [.int xcode, .ref (ad 1), .ref (ad 2), .int np, .int ns, .ref (ad 5), .ref (ad 6), .ref (ad 7), .ref (ad 8), .ref (ad 9), .ref (ad 10), .ref (ad 11), .ref (ad 12), .ref (ad 13), .ref (ad 14), .ref (ad 15), .ref (ad 16), .ref (ad 17), .ref (ad 18), .ref (ad 19), .ref (ad 20), .ref (ad 21), .int xsize, .int xmost, .int xend, .int xran, .ref (ad 26), .int yend, .int ysize, .int ymost, .int yran, .ref (ad 31), .ref (ad 32)])) ∧ M' (ad 1) = some (.inl (cL, 16, .inr (.inl g3))) ∧ M' (ad 9) = some (.inl (cI, 61, .inl vkind)) ∧ M' (ad 12) = some (.inl (cI, 61, .inl vlev)) ∧ M' (ad 13) = some (.inl (cB, 61, .inl vask)) ∧ M' (ad 14) = some (.inl (cI, 488, .inl vcc)) ∧ M' (ad 15) = some (.inl (cI, 488, .inl vvar)) ∧ M' (ad 16) = some (.inl (cL, 488, .inr (.inl vleast))) ∧ M' (ad 17) = some (.inl (cL, 488, .inr (.inl vfirst))) ∧ M' (ad 18) = some (.inl (cL, 488, .inr (.inl vstep))) ∧ M' (ad 19) = some (.inl (cI, 101, .inl vpile)) ∧ M' (ad 21) = some (.inl (cI, 101, .inl vleft)) ∧ (∀ q, q ≠ (ad 1) → M' q = M q) ∧ (1 ≤ j.toInt ∧ j.toInt ≤ 8) ∧ (9 ≤ j.toInt + nn_ ∧ 1 ≤ nn_) ∧ il_M_goesAgain_107_j xsize vlev vvar vfirst vpile b nn_ j g3 = ze_57 ∧ il_M_goesAgain_107_g3 xsize vlev vvar vfirst vpile b nn_ j g3 = ze_58) ⟨1, vcell, rfl, gh0, gh1, gh2, gh3, gh4, gh5, gh6, gh7, gh8, gh9, gh10, gh11, (fun q _ => rfl), (by first | omega | with_reducible assumption | (have z0_ : (0 : Int32).toInt = 0 := rfl; have z1_ : (1 : Int32).toInt = 1 := rfl; omega)), (by first | omega | with_reducible assumption | (have z0_ : (0 : Int32).toInt = 0 := rfl; have z1_ : (1 : Int32).toInt = 1 := rfl; omega)), hze_57.symm, hze_58.symm⟩ (fun n_52 ih_53 _ M_51 lv_54 hI_55 => ?_)
        obtain ⟨j, g3, rfl, h_39, h_40, h_41, h_42, h_43, h_44, h_45, h_46, h_47, h_48, h_49, h_50, fr_56, j5, j6, e_57, e_58⟩ := hI_55
        obtain ⟨n_52, rfl⟩ : ∃ j, n_52 = j + 1 := ⟨n_52 - 1, by omega⟩
        refine V.rd (pc' := 108) (fun hl => lv_iload_n X.1 X.2.1 d_Model_goesAgain_107 rfl (lv_at hl 3 rfl)) ?_
        refine V.rd (pc' := 109) (fun hl => lv_aload_n X.1 X.2.1 d_Model_goesAgain_108 rfl (lv_at hl 0 rfl)) ?_
        refine V.get (pc' := 112) X hK h_39 uw_Model rfl 12 (by decide) (mcs wd_191) rfl d_Model_goesAgain_109 rfl ?_
        refine V.rd (pc' := 113) (fun hl => lv_iload_n X.1 X.2.1 d_Model_goesAgain_112 rfl (lv_at hl 2 rfl)) ?_
        refine V.iald (pc' := 114) X hK 0 h_42 rfl (vin (by omega) (by omega)) d_Model_goesAgain_113 rfl ?_
        have q_59 := hle (vpile xsize.toNatClampNeg).toNatClampNeg
        refine V.br (pc' := 117) (tgt := 133) (P := (vlev (vpile xsize.toNatClampNeg).toNatClampNeg) < j) (lv_icmp_gt X.1 X.2.1 d_Model_goesAgain_114 (by decide)) (fun c_60 => ?_) (fun c_60 => ?_)
        · have i_61 := Int32.lt_iff_toInt_lt.mp c_60
          rw [il_M_goesAgain_107_j] at e_57
          simp only [if_pos c_60] at e_57
          rw [il_M_goesAgain_107_g3] at e_58
          simp only [if_pos c_60] at e_58
          replace e_57 := e_57.trans hze_57
          replace e_58 := e_58.trans hze_58
          subst e_57
          subst e_58
          refine V.pick [0, 1, 2, 3] rfl ?_
          refine V.rd (pc' := 134) (fun hl => lv_aload_n X.1 X.2.1 d_Model_goesAgain_133 rfl (lv_at hl 0 rfl)) ?_
          refine V.get (pc' := 137) X hK h_39 uw_Model rfl 13 (by decide) (mcs wd_188) rfl d_Model_goesAgain_134 rfl ?_
          refine V.rd (pc' := 138) (fun hl => lv_iload_n X.1 X.2.1 d_Model_goesAgain_137 rfl (lv_at hl 2 rfl)) ?_
          refine V.zald (pc' := 139) X hK 3 h_43 rfl (vin (by omega) (by omega)) d_Model_goesAgain_138 rfl ?_
          refine V.bn (pc' := 142) (tgt := 160) (P := (vask (vpile xsize.toNatClampNeg).toNatClampNeg) = 0) (lv_if_ne X.1 X.2.1 d_Model_goesAgain_139 (by decide)) (fun c_62 => ?_) (fun c_62 => ?_)
          · have i_63 := congrArg Int32.toInt c_62
            rw [show (0 : Int32).toInt = 0 from rfl] at i_63
            refine V.rd (pc' := 143) (fun hl => lv_iload_n X.1 X.2.1 d_Model_goesAgain_142 rfl (lv_at hl 1 rfl)) ?_
            refine V.bn (pc' := 146) (tgt := 154) (P := b = 0) (lv_if_ne X.1 X.2.1 d_Model_goesAgain_143 (by decide)) (fun c_64 => ?_) (fun c_64 => ?_)
            · have i_65 := congrArg Int32.toInt c_64
              rw [show (0 : Int32).toInt = 0 from rfl] at i_65
              refine V.rd (pc' := 147) (fun hl => lv_aload_n X.1 X.2.1 d_Model_goesAgain_146 rfl (lv_at hl 0 rfl)) ?_
              refine V.rd (pc' := 148) (fun hl => lv_iload_n X.1 X.2.1 d_Model_goesAgain_147 rfl (lv_at hl 2 rfl)) ?_
              refine V.callV (pc' := 151) X hK (c_M_goesBehind hinj (mo := mo) (xcode := xcode) (np := np) (ns := ns) (xsize := xsize) (xmost := xmost) (xend := xend) (xran := xran) (yend := yend) (ysize := ysize) (ymost := ymost) (yran := yran) (vcell := il_M_goesAgain_107_g3 xsize vlev vvar vfirst vpile b 9 1 vcell) (vlev := vlev) (vcc := vcc) (vvar := vvar) (vleast := vleast) (vfirst := vfirst) (vstep := vstep) (x := vpile xsize.toNatClampNeg) (by first | omega | with_reducible assumption | (have z0_ : (0 : Int32).toInt = 0 := rfl; have z1_ : (1 : Int32).toInt = 1 := rfl; omega)) (by first | omega | with_reducible assumption | (have z0_ : (0 : Int32).toInt = 0 := rfl; have z1_ : (1 : Int32).toInt = 1 := rfl; omega)) (by first | omega | with_reducible assumption | (have z0_ : (0 : Int32).toInt = 0 := rfl; have z1_ : (1 : Int32).toInt = 1 := rfl; omega)) (by first | omega | with_reducible assumption | (have z0_ : (0 : Int32).toInt = 0 := rfl; have z1_ : (1 : Int32).toInt = 1 := rfl; omega))  h_39 h_40 h_42 h_44 h_45 h_46 h_47 h_48  ) h_39 rfl (cwG (n := 1) X (mcs wd_212) (mcs wd_213) (mcs wd_214) (mcs wd_174) wd_215 (by decide +kernel) (by decide) (by decide)) rfl rfl (Nat.le_of_ble_eq_true rfl) d_Model_goesAgain_148 ⟨by decide, by decide⟩ rfl (st1 := [.int (sp_M_goesBehind (il_M_goesAgain_107_g3 xsize vlev vvar vfirst vpile b 9 1 vcell) vlev vcc vleast (vpile xsize.toNatClampNeg))]) rfl (fun M_66 ⟨h_67, fr_68⟩ => ?_)
              have h_69 : M_66 mo = some (.inr (6, [.int xcode, .ref (ad 1), .ref (ad 2), .int np, .int ns, .ref (ad 5), .ref (ad 6), .ref (ad 7), .ref (ad 8), .ref (ad 9), .ref (ad 10), .ref (ad 11), .ref (ad 12), .ref (ad 13), .ref (ad 14), .ref (ad 15), .ref (ad 16), .ref (ad 17), .ref (ad 18), .ref (ad 19), .ref (ad 20), .ref (ad 21), .int xsize, .int xmost, .int xend, .int xran, .ref (ad 26), .int yend, .int ysize, .int ymost, .int yran, .ref (ad 31), .ref (ad 32)])) := (fr_68 _ (ne_k h_39 h_40 (i := 6) (j := 100016) rfl rfl (by decide))).trans h_39
              have h_70 : M_66 (ad 9) = some (.inl (cI, 61, .inl vkind)) := (fr_68 _ (ad_ne hinj (i := 9) (j := 1) (by decide) (by decide) (by decide))).trans h_41
              have h_71 : M_66 (ad 12) = some (.inl (cI, 61, .inl vlev)) := (fr_68 _ (ad_ne hinj (i := 12) (j := 1) (by decide) (by decide) (by decide))).trans h_42
              have h_72 : M_66 (ad 13) = some (.inl (cB, 61, .inl vask)) := (fr_68 _ (ad_ne hinj (i := 13) (j := 1) (by decide) (by decide) (by decide))).trans h_43
              have h_73 : M_66 (ad 14) = some (.inl (cI, 488, .inl vcc)) := (fr_68 _ (ad_ne hinj (i := 14) (j := 1) (by decide) (by decide) (by decide))).trans h_44
              have h_74 : M_66 (ad 15) = some (.inl (cI, 488, .inl vvar)) := (fr_68 _ (ad_ne hinj (i := 15) (j := 1) (by decide) (by decide) (by decide))).trans h_45
              have h_75 : M_66 (ad 16) = some (.inl (cL, 488, .inr (.inl vleast))) := (fr_68 _ (ad_ne hinj (i := 16) (j := 1) (by decide) (by decide) (by decide))).trans h_46
              have h_76 : M_66 (ad 17) = some (.inl (cL, 488, .inr (.inl vfirst))) := (fr_68 _ (ad_ne hinj (i := 17) (j := 1) (by decide) (by decide) (by decide))).trans h_47
              have h_77 : M_66 (ad 18) = some (.inl (cL, 488, .inr (.inl vstep))) := (fr_68 _ (ad_ne hinj (i := 18) (j := 1) (by decide) (by decide) (by decide))).trans h_48
              have h_78 : M_66 (ad 19) = some (.inl (cI, 101, .inl vpile)) := (fr_68 _ (ad_ne hinj (i := 19) (j := 1) (by decide) (by decide) (by decide))).trans h_49
              have h_79 : M_66 (ad 21) = some (.inl (cI, 101, .inl vleft)) := (fr_68 _ (ad_ne hinj (i := 21) (j := 1) (by decide) (by decide) (by decide))).trans h_50
              refine V.br (pc' := 154) (tgt := 158) (P := (sp_M_goesBehind (il_M_goesAgain_107_g3 xsize vlev vvar vfirst vpile b 9 1 vcell) vlev vcc vleast (vpile xsize.toNatClampNeg)) = 0) (lv_if_eq X.1 X.2.1 d_Model_goesAgain_151 (by decide)) (fun c_80 => ?_) (fun c_80 => ?_)
              · have i_81 := congrArg Int32.toInt c_80
                rw [show (0 : Int32).toInt = 0 from rfl] at i_81
                refine V.go (pc' := 159) (lv_iconst (v := 0) X.1 X.2.1 d_Model_goesAgain_158 (by decide)) ?_
                exact V.zret X hr hlk rfl ⟨(by simp only [sp_M_goesAgain, if_neg c_2, if_neg c_3, if_neg c_21, if_pos c_62, if_pos c_64, if_pos c_80]), (by simp only [sp_M_goesAgain_ad21, if_neg c_2, if_neg c_3, if_neg c_21, if_pos c_62, if_pos c_64, if_pos c_80]; exact h_79), (by simp only [sp_M_goesAgain_ad1, if_neg c_2, if_neg c_3, if_neg c_21, if_pos c_62, if_pos c_64, if_pos c_80]; exact h_67), (fun q n0_ n1_ => (fr_68 q n1_).trans ((fr_56 q n1_)))⟩ d_Model_goesAgain_159
              · have i_82 := mt Int32.toInt_inj.mp c_80
                rw [show (0 : Int32).toInt = 0 from rfl] at i_82
                refine V.go (pc' := 155) (lv_iconst (v := 1) X.1 X.2.1 d_Model_goesAgain_154 (by decide)) ?_
                refine V.go (pc' := 159) (lv_goto X.1 X.2.1 d_Model_goesAgain_155 (by decide)) ?_
                exact V.zret X hr hlk rfl ⟨(by simp only [sp_M_goesAgain, if_neg c_2, if_neg c_3, if_neg c_21, if_pos c_62, if_pos c_64, if_neg c_80]), (by simp only [sp_M_goesAgain_ad21, if_neg c_2, if_neg c_3, if_neg c_21, if_pos c_62, if_pos c_64, if_neg c_80]; exact h_79), (by simp only [sp_M_goesAgain_ad1, if_neg c_2, if_neg c_3, if_neg c_21, if_pos c_62, if_pos c_64, if_neg c_80]; exact h_67), (fun q n0_ n1_ => (fr_68 q n1_).trans ((fr_56 q n1_)))⟩ d_Model_goesAgain_159
            · have i_83 := mt Int32.toInt_inj.mp c_64
              rw [show (0 : Int32).toInt = 0 from rfl] at i_83
              refine V.go (pc' := 155) (lv_iconst (v := 1) X.1 X.2.1 d_Model_goesAgain_154 (by decide)) ?_
              refine V.go (pc' := 159) (lv_goto X.1 X.2.1 d_Model_goesAgain_155 (by decide)) ?_
              exact V.zret X hr hlk rfl ⟨(by simp only [sp_M_goesAgain, if_neg c_2, if_neg c_3, if_neg c_21, if_pos c_62, if_neg c_64]), (by simp only [sp_M_goesAgain_ad21, if_neg c_2, if_neg c_3, if_neg c_21, if_pos c_62, if_neg c_64]; exact h_50), (by simp only [sp_M_goesAgain_ad1, if_neg c_2, if_neg c_3, if_neg c_21, if_pos c_62, if_neg c_64]; exact h_40), (fun q n0_ n1_ => (fr_56 q n1_))⟩ d_Model_goesAgain_159
          · have i_84 := mt Int32.toInt_inj.mp c_62
            rw [show (0 : Int32).toInt = 0 from rfl] at i_84
            refine V.rd (pc' := 161) (fun hl => lv_iload_n X.1 X.2.1 d_Model_goesAgain_160 rfl (lv_at hl 1 rfl)) ?_
            refine V.bn (pc' := 164) (tgt := 175) (P := b = 0) (lv_if_ne X.1 X.2.1 d_Model_goesAgain_161 (by decide)) (fun c_85 => ?_) (fun c_85 => ?_)
            · have i_86 := congrArg Int32.toInt c_85
              rw [show (0 : Int32).toInt = 0 from rfl] at i_86
              refine V.rd (pc' := 165) (fun hl => lv_aload_n X.1 X.2.1 d_Model_goesAgain_164 rfl (lv_at hl 0 rfl)) ?_
              refine V.rd (pc' := 166) (fun hl => lv_iload_n X.1 X.2.1 d_Model_goesAgain_165 rfl (lv_at hl 2 rfl)) ?_
              refine V.rd (pc' := 167) (fun hl => lv_aload_n X.1 X.2.1 d_Model_goesAgain_166 rfl (lv_at hl 0 rfl)) ?_
              refine V.get (pc' := 170) X hK h_39 uw_Model rfl 12 (by decide) (mcs wd_191) rfl d_Model_goesAgain_167 rfl ?_
              refine V.rd (pc' := 171) (fun hl => lv_iload_n X.1 X.2.1 d_Model_goesAgain_170 rfl (lv_at hl 2 rfl)) ?_
              refine V.iald (pc' := 172) X hK 0 h_42 rfl (vin (by omega) (by omega)) d_Model_goesAgain_171 rfl ?_
              have q_87 := hle (vpile xsize.toNatClampNeg).toNatClampNeg
              refine V.callV (pc' := 175) X hK (c_M_goOn hinj (mo := mo) (xcode := xcode) (np := np) (ns := ns) (xsize := xsize) (xmost := xmost) (xend := xend) (xran := xran) (yend := yend) (ysize := ysize) (ymost := ymost) (yran := yran) (vcell := il_M_goesAgain_107_g3 xsize vlev vvar vfirst vpile b 9 1 vcell) (vvar := vvar) (vstep := vstep) (x := vpile xsize.toNatClampNeg) (y := vlev (vpile xsize.toNatClampNeg).toNatClampNeg) (by first | omega | with_reducible assumption | (have z0_ : (0 : Int32).toInt = 0 := rfl; have z1_ : (1 : Int32).toInt = 1 := rfl; omega)) (by first | omega | with_reducible assumption | (have z0_ : (0 : Int32).toInt = 0 := rfl; have z1_ : (1 : Int32).toInt = 1 := rfl; omega)) (by first | omega | with_reducible assumption | (have z0_ : (0 : Int32).toInt = 0 := rfl; have z1_ : (1 : Int32).toInt = 1 := rfl; omega))  h_39 h_40 h_45 h_48  ) h_39 rfl (cwG (n := 2) X (mcs wd_201) (mcs wd_202) (mcs wd_203) (mcs wd_174) wd_204 (by decide +kernel) (by decide) (by decide)) rfl rfl (Nat.le_of_ble_eq_true rfl) d_Model_goesAgain_172 ⟨by decide, by decide⟩ rfl (st1 := []) rfl (fun M_88 ⟨h_89, fr_90⟩ => ?_)
              have h_91 : M_88 mo = some (.inr (6, [.int xcode, .ref (ad 1), .ref (ad 2), .int np, .int ns, .ref (ad 5), .ref (ad 6), .ref (ad 7), .ref (ad 8), .ref (ad 9), .ref (ad 10), .ref (ad 11), .ref (ad 12), .ref (ad 13), .ref (ad 14), .ref (ad 15), .ref (ad 16), .ref (ad 17), .ref (ad 18), .ref (ad 19), .ref (ad 20), .ref (ad 21), .int xsize, .int xmost, .int xend, .int xran, .ref (ad 26), .int yend, .int ysize, .int ymost, .int yran, .ref (ad 31), .ref (ad 32)])) := (fr_90 _ (ne_k h_39 h_40 (i := 6) (j := 100016) rfl rfl (by decide))).trans h_39
              have h_92 : M_88 (ad 9) = some (.inl (cI, 61, .inl vkind)) := (fr_90 _ (ad_ne hinj (i := 9) (j := 1) (by decide) (by decide) (by decide))).trans h_41
              have h_93 : M_88 (ad 12) = some (.inl (cI, 61, .inl vlev)) := (fr_90 _ (ad_ne hinj (i := 12) (j := 1) (by decide) (by decide) (by decide))).trans h_42
              have h_94 : M_88 (ad 13) = some (.inl (cB, 61, .inl vask)) := (fr_90 _ (ad_ne hinj (i := 13) (j := 1) (by decide) (by decide) (by decide))).trans h_43
              have h_95 : M_88 (ad 14) = some (.inl (cI, 488, .inl vcc)) := (fr_90 _ (ad_ne hinj (i := 14) (j := 1) (by decide) (by decide) (by decide))).trans h_44
              have h_96 : M_88 (ad 15) = some (.inl (cI, 488, .inl vvar)) := (fr_90 _ (ad_ne hinj (i := 15) (j := 1) (by decide) (by decide) (by decide))).trans h_45
              have h_97 : M_88 (ad 16) = some (.inl (cL, 488, .inr (.inl vleast))) := (fr_90 _ (ad_ne hinj (i := 16) (j := 1) (by decide) (by decide) (by decide))).trans h_46
              have h_98 : M_88 (ad 17) = some (.inl (cL, 488, .inr (.inl vfirst))) := (fr_90 _ (ad_ne hinj (i := 17) (j := 1) (by decide) (by decide) (by decide))).trans h_47
              have h_99 : M_88 (ad 18) = some (.inl (cL, 488, .inr (.inl vstep))) := (fr_90 _ (ad_ne hinj (i := 18) (j := 1) (by decide) (by decide) (by decide))).trans h_48
              have h_100 : M_88 (ad 19) = some (.inl (cI, 101, .inl vpile)) := (fr_90 _ (ad_ne hinj (i := 19) (j := 1) (by decide) (by decide) (by decide))).trans h_49
              have h_101 : M_88 (ad 21) = some (.inl (cI, 101, .inl vleft)) := (fr_90 _ (ad_ne hinj (i := 21) (j := 1) (by decide) (by decide) (by decide))).trans h_50
              refine V.rd (pc' := 176) (fun hl => lv_aload_n X.1 X.2.1 d_Model_goesAgain_175 rfl (lv_at hl 0 rfl)) ?_
              refine V.rd (pc' := 177) (fun hl => lv_iload_n X.1 X.2.1 d_Model_goesAgain_176 rfl (lv_at hl 2 rfl)) ?_
              refine V.callV (pc' := 180) X hK (c_M_goesAhead hinj (mo := mo) (xcode := xcode) (np := np) (ns := ns) (xsize := xsize) (xmost := xmost) (xend := xend) (xran := xran) (yend := yend) (ysize := ysize) (ymost := ymost) (yran := yran) (vcell := vp_updL (il_M_goesAgain_107_g3 xsize vlev vvar vfirst vpile b 9 1 vcell) (vvar (((8 * ((vpile xsize.toNatClampNeg) - 1)) + (vlev (vpile xsize.toNatClampNeg).toNatClampNeg)) - 1).toNatClampNeg).toNatClampNeg (((il_M_goesAgain_107_g3 xsize vlev vvar vfirst vpile b 9 1 vcell) (vvar (((8 * ((vpile xsize.toNatClampNeg) - 1)) + (vlev (vpile xsize.toNatClampNeg).toNatClampNeg)) - 1).toNatClampNeg).toNatClampNeg) + (vstep (((8 * ((vpile xsize.toNatClampNeg) - 1)) + (vlev (vpile xsize.toNatClampNeg).toNatClampNeg)) - 1).toNatClampNeg))) (vlev := vlev) (vcc := vcc) (vvar := vvar) (vleast := vleast) (vfirst := vfirst) (vstep := vstep) (x := vpile xsize.toNatClampNeg) (by first | omega | with_reducible assumption | (have z0_ : (0 : Int32).toInt = 0 := rfl; have z1_ : (1 : Int32).toInt = 1 := rfl; omega)) (by first | omega | with_reducible assumption | (have z0_ : (0 : Int32).toInt = 0 := rfl; have z1_ : (1 : Int32).toInt = 1 := rfl; omega)) (by first | omega | with_reducible assumption | (have z0_ : (0 : Int32).toInt = 0 := rfl; have z1_ : (1 : Int32).toInt = 1 := rfl; omega)) (by first | omega | with_reducible assumption | (have z0_ : (0 : Int32).toInt = 0 := rfl; have z1_ : (1 : Int32).toInt = 1 := rfl; omega))  h_91 h_89 h_93 h_95 h_96 h_97 h_98 h_99  ) h_91 rfl (cwG (n := 1) X (mcs wd_216) (mcs wd_217) (mcs wd_218) (mcs wd_174) wd_219 (by decide +kernel) (by decide) (by decide)) rfl rfl (Nat.le_of_ble_eq_true rfl) d_Model_goesAgain_177 ⟨by decide, by decide⟩ rfl (st1 := [.int (lp_M_goesAhead vlev vcc vvar vleast vfirst vstep (vpile xsize.toNatClampNeg) 1001 0 (vp_updL (il_M_goesAgain_107_g3 xsize vlev vvar vfirst vpile b 9 1 vcell) (vvar (((8 * ((vpile xsize.toNatClampNeg) - 1)) + (vlev (vpile xsize.toNatClampNeg).toNatClampNeg)) - 1).toNatClampNeg).toNatClampNeg (((il_M_goesAgain_107_g3 xsize vlev vvar vfirst vpile b 9 1 vcell) (vvar (((8 * ((vpile xsize.toNatClampNeg) - 1)) + (vlev (vpile xsize.toNatClampNeg).toNatClampNeg)) - 1).toNatClampNeg).toNatClampNeg) + (vstep (((8 * ((vpile xsize.toNatClampNeg) - 1)) + (vlev (vpile xsize.toNatClampNeg).toNatClampNeg)) - 1).toNatClampNeg))))]) rfl (fun M_102 ⟨h_103, fr_104⟩ => ?_)
              have h_105 : M_102 mo = some (.inr (6, [.int xcode, .ref (ad 1), .ref (ad 2), .int np, .int ns, .ref (ad 5), .ref (ad 6), .ref (ad 7), .ref (ad 8), .ref (ad 9), .ref (ad 10), .ref (ad 11), .ref (ad 12), .ref (ad 13), .ref (ad 14), .ref (ad 15), .ref (ad 16), .ref (ad 17), .ref (ad 18), .ref (ad 19), .ref (ad 20), .ref (ad 21), .int xsize, .int xmost, .int xend, .int xran, .ref (ad 26), .int yend, .int ysize, .int ymost, .int yran, .ref (ad 31), .ref (ad 32)])) := (fr_104 _ (ne_k h_91 h_89 (i := 6) (j := 100016) rfl rfl (by decide))).trans h_91
              have h_106 : M_102 (ad 9) = some (.inl (cI, 61, .inl vkind)) := (fr_104 _ (ad_ne hinj (i := 9) (j := 1) (by decide) (by decide) (by decide))).trans h_92
              have h_107 : M_102 (ad 12) = some (.inl (cI, 61, .inl vlev)) := (fr_104 _ (ad_ne hinj (i := 12) (j := 1) (by decide) (by decide) (by decide))).trans h_93
              have h_108 : M_102 (ad 13) = some (.inl (cB, 61, .inl vask)) := (fr_104 _ (ad_ne hinj (i := 13) (j := 1) (by decide) (by decide) (by decide))).trans h_94
              have h_109 : M_102 (ad 14) = some (.inl (cI, 488, .inl vcc)) := (fr_104 _ (ad_ne hinj (i := 14) (j := 1) (by decide) (by decide) (by decide))).trans h_95
              have h_110 : M_102 (ad 15) = some (.inl (cI, 488, .inl vvar)) := (fr_104 _ (ad_ne hinj (i := 15) (j := 1) (by decide) (by decide) (by decide))).trans h_96
              have h_111 : M_102 (ad 16) = some (.inl (cL, 488, .inr (.inl vleast))) := (fr_104 _ (ad_ne hinj (i := 16) (j := 1) (by decide) (by decide) (by decide))).trans h_97
              have h_112 : M_102 (ad 17) = some (.inl (cL, 488, .inr (.inl vfirst))) := (fr_104 _ (ad_ne hinj (i := 17) (j := 1) (by decide) (by decide) (by decide))).trans h_98
              have h_113 : M_102 (ad 18) = some (.inl (cL, 488, .inr (.inl vstep))) := (fr_104 _ (ad_ne hinj (i := 18) (j := 1) (by decide) (by decide) (by decide))).trans h_99
              have h_114 : M_102 (ad 19) = some (.inl (cI, 101, .inl vpile)) := (fr_104 _ (ad_ne hinj (i := 19) (j := 1) (by decide) (by decide) (by decide))).trans h_100
              have h_115 : M_102 (ad 21) = some (.inl (cI, 101, .inl vleft)) := (fr_104 _ (ad_ne hinj (i := 21) (j := 1) (by decide) (by decide) (by decide))).trans h_101
              exact V.zret X hr hlk (nb_ok (b_M_goesAhead _ _ _)) ⟨(by simp only [sp_M_goesAgain, if_neg c_2, if_neg c_3, if_neg c_21, if_neg c_62, if_pos c_85]), (by simp only [sp_M_goesAgain_ad21, if_neg c_2, if_neg c_3, if_neg c_21, if_neg c_62, if_pos c_85]; exact h_115), (by simp only [sp_M_goesAgain_ad1, if_neg c_2, if_neg c_3, if_neg c_21, if_neg c_62, if_pos c_85]; exact h_103), (fun q n0_ n1_ => (fr_104 q n1_).trans ((fr_90 q n1_).trans ((fr_56 q n1_))))⟩ d_Model_goesAgain_180
            · have i_116 := mt Int32.toInt_inj.mp c_85
              rw [show (0 : Int32).toInt = 0 from rfl] at i_116
              refine V.rd (pc' := 176) (fun hl => lv_aload_n X.1 X.2.1 d_Model_goesAgain_175 rfl (lv_at hl 0 rfl)) ?_
              refine V.rd (pc' := 177) (fun hl => lv_iload_n X.1 X.2.1 d_Model_goesAgain_176 rfl (lv_at hl 2 rfl)) ?_
              refine V.callV (pc' := 180) X hK (c_M_goesAhead hinj (mo := mo) (xcode := xcode) (np := np) (ns := ns) (xsize := xsize) (xmost := xmost) (xend := xend) (xran := xran) (yend := yend) (ysize := ysize) (ymost := ymost) (yran := yran) (vcell := il_M_goesAgain_107_g3 xsize vlev vvar vfirst vpile b 9 1 vcell) (vlev := vlev) (vcc := vcc) (vvar := vvar) (vleast := vleast) (vfirst := vfirst) (vstep := vstep) (x := vpile xsize.toNatClampNeg) (by first | omega | with_reducible assumption | (have z0_ : (0 : Int32).toInt = 0 := rfl; have z1_ : (1 : Int32).toInt = 1 := rfl; omega)) (by first | omega | with_reducible assumption | (have z0_ : (0 : Int32).toInt = 0 := rfl; have z1_ : (1 : Int32).toInt = 1 := rfl; omega)) (by first | omega | with_reducible assumption | (have z0_ : (0 : Int32).toInt = 0 := rfl; have z1_ : (1 : Int32).toInt = 1 := rfl; omega)) (by first | omega | with_reducible assumption | (have z0_ : (0 : Int32).toInt = 0 := rfl; have z1_ : (1 : Int32).toInt = 1 := rfl; omega))  h_39 h_40 h_42 h_44 h_45 h_46 h_47 h_48  ) h_39 rfl (cwG (n := 1) X (mcs wd_216) (mcs wd_217) (mcs wd_218) (mcs wd_174) wd_219 (by decide +kernel) (by decide) (by decide)) rfl rfl (Nat.le_of_ble_eq_true rfl) d_Model_goesAgain_177 ⟨by decide, by decide⟩ rfl (st1 := [.int (lp_M_goesAhead vlev vcc vvar vleast vfirst vstep (vpile xsize.toNatClampNeg) 1001 0 (il_M_goesAgain_107_g3 xsize vlev vvar vfirst vpile b 9 1 vcell))]) rfl (fun M_117 ⟨h_118, fr_119⟩ => ?_)
              have h_120 : M_117 mo = some (.inr (6, [.int xcode, .ref (ad 1), .ref (ad 2), .int np, .int ns, .ref (ad 5), .ref (ad 6), .ref (ad 7), .ref (ad 8), .ref (ad 9), .ref (ad 10), .ref (ad 11), .ref (ad 12), .ref (ad 13), .ref (ad 14), .ref (ad 15), .ref (ad 16), .ref (ad 17), .ref (ad 18), .ref (ad 19), .ref (ad 20), .ref (ad 21), .int xsize, .int xmost, .int xend, .int xran, .ref (ad 26), .int yend, .int ysize, .int ymost, .int yran, .ref (ad 31), .ref (ad 32)])) := (fr_119 _ (ne_k h_39 h_40 (i := 6) (j := 100016) rfl rfl (by decide))).trans h_39
              have h_121 : M_117 (ad 9) = some (.inl (cI, 61, .inl vkind)) := (fr_119 _ (ad_ne hinj (i := 9) (j := 1) (by decide) (by decide) (by decide))).trans h_41
              have h_122 : M_117 (ad 12) = some (.inl (cI, 61, .inl vlev)) := (fr_119 _ (ad_ne hinj (i := 12) (j := 1) (by decide) (by decide) (by decide))).trans h_42
              have h_123 : M_117 (ad 13) = some (.inl (cB, 61, .inl vask)) := (fr_119 _ (ad_ne hinj (i := 13) (j := 1) (by decide) (by decide) (by decide))).trans h_43
              have h_124 : M_117 (ad 14) = some (.inl (cI, 488, .inl vcc)) := (fr_119 _ (ad_ne hinj (i := 14) (j := 1) (by decide) (by decide) (by decide))).trans h_44
              have h_125 : M_117 (ad 15) = some (.inl (cI, 488, .inl vvar)) := (fr_119 _ (ad_ne hinj (i := 15) (j := 1) (by decide) (by decide) (by decide))).trans h_45
              have h_126 : M_117 (ad 16) = some (.inl (cL, 488, .inr (.inl vleast))) := (fr_119 _ (ad_ne hinj (i := 16) (j := 1) (by decide) (by decide) (by decide))).trans h_46
              have h_127 : M_117 (ad 17) = some (.inl (cL, 488, .inr (.inl vfirst))) := (fr_119 _ (ad_ne hinj (i := 17) (j := 1) (by decide) (by decide) (by decide))).trans h_47
              have h_128 : M_117 (ad 18) = some (.inl (cL, 488, .inr (.inl vstep))) := (fr_119 _ (ad_ne hinj (i := 18) (j := 1) (by decide) (by decide) (by decide))).trans h_48
              have h_129 : M_117 (ad 19) = some (.inl (cI, 101, .inl vpile)) := (fr_119 _ (ad_ne hinj (i := 19) (j := 1) (by decide) (by decide) (by decide))).trans h_49
              have h_130 : M_117 (ad 21) = some (.inl (cI, 101, .inl vleft)) := (fr_119 _ (ad_ne hinj (i := 21) (j := 1) (by decide) (by decide) (by decide))).trans h_50
              exact V.zret X hr hlk (nb_ok (b_M_goesAhead _ _ _)) ⟨(by simp only [sp_M_goesAgain, if_neg c_2, if_neg c_3, if_neg c_21, if_neg c_62, if_neg c_85]), (by simp only [sp_M_goesAgain_ad21, if_neg c_2, if_neg c_3, if_neg c_21, if_neg c_62, if_neg c_85]; exact h_130), (by simp only [sp_M_goesAgain_ad1, if_neg c_2, if_neg c_3, if_neg c_21, if_neg c_62, if_neg c_85]; exact h_118), (fun q n0_ n1_ => (fr_119 q n1_).trans ((fr_56 q n1_)))⟩ d_Model_goesAgain_180
        · have i_131 := mt Int32.lt_iff_toInt_lt.mpr c_60
          refine V.rd (pc' := 118) (fun hl => lv_iload_n X.1 X.2.1 d_Model_goesAgain_117 rfl (lv_at hl 1 rfl)) ?_
          refine V.br (pc' := 121) (tgt := 133) (P := b = 0) (lv_if_eq X.1 X.2.1 d_Model_goesAgain_118 (by decide)) (fun c_132 => ?_) (fun c_132 => ?_)
          · have i_133 := congrArg Int32.toInt c_132
            rw [show (0 : Int32).toInt = 0 from rfl] at i_133
            rw [il_M_goesAgain_107_j] at e_57
            simp only [if_neg c_60, if_pos c_132] at e_57
            rw [il_M_goesAgain_107_g3] at e_58
            simp only [if_neg c_60, if_pos c_132] at e_58
            replace e_57 := e_57.trans hze_57
            replace e_58 := e_58.trans hze_58
            subst e_57
            subst e_58
            refine V.pick [0, 1, 2, 3] rfl ?_
            refine V.rd (pc' := 134) (fun hl => lv_aload_n X.1 X.2.1 d_Model_goesAgain_133 rfl (lv_at hl 0 rfl)) ?_
            refine V.get (pc' := 137) X hK h_39 uw_Model rfl 13 (by decide) (mcs wd_188) rfl d_Model_goesAgain_134 rfl ?_
            refine V.rd (pc' := 138) (fun hl => lv_iload_n X.1 X.2.1 d_Model_goesAgain_137 rfl (lv_at hl 2 rfl)) ?_
            refine V.zald (pc' := 139) X hK 3 h_43 rfl (vin (by omega) (by omega)) d_Model_goesAgain_138 rfl ?_
            refine V.bn (pc' := 142) (tgt := 160) (P := (vask (vpile xsize.toNatClampNeg).toNatClampNeg) = 0) (lv_if_ne X.1 X.2.1 d_Model_goesAgain_139 (by decide)) (fun c_134 => ?_) (fun c_134 => ?_)
            · have i_135 := congrArg Int32.toInt c_134
              rw [show (0 : Int32).toInt = 0 from rfl] at i_135
              refine V.rd (pc' := 143) (fun hl => lv_iload_n X.1 X.2.1 d_Model_goesAgain_142 rfl (lv_at hl 1 rfl)) ?_
              refine V.bn (pc' := 146) (tgt := 154) (P := b = 0) (lv_if_ne X.1 X.2.1 d_Model_goesAgain_143 (by decide)) (fun c_136 => ?_) (fun c_136 => ?_)
              · have i_137 := congrArg Int32.toInt c_136
                rw [show (0 : Int32).toInt = 0 from rfl] at i_137
                refine V.rd (pc' := 147) (fun hl => lv_aload_n X.1 X.2.1 d_Model_goesAgain_146 rfl (lv_at hl 0 rfl)) ?_
                refine V.rd (pc' := 148) (fun hl => lv_iload_n X.1 X.2.1 d_Model_goesAgain_147 rfl (lv_at hl 2 rfl)) ?_
                refine V.callV (pc' := 151) X hK (c_M_goesBehind hinj (mo := mo) (xcode := xcode) (np := np) (ns := ns) (xsize := xsize) (xmost := xmost) (xend := xend) (xran := xran) (yend := yend) (ysize := ysize) (ymost := ymost) (yran := yran) (vcell := il_M_goesAgain_107_g3 xsize vlev vvar vfirst vpile b 9 1 vcell) (vlev := vlev) (vcc := vcc) (vvar := vvar) (vleast := vleast) (vfirst := vfirst) (vstep := vstep) (x := vpile xsize.toNatClampNeg) (by first | omega | with_reducible assumption | (have z0_ : (0 : Int32).toInt = 0 := rfl; have z1_ : (1 : Int32).toInt = 1 := rfl; omega)) (by first | omega | with_reducible assumption | (have z0_ : (0 : Int32).toInt = 0 := rfl; have z1_ : (1 : Int32).toInt = 1 := rfl; omega)) (by first | omega | with_reducible assumption | (have z0_ : (0 : Int32).toInt = 0 := rfl; have z1_ : (1 : Int32).toInt = 1 := rfl; omega)) (by first | omega | with_reducible assumption | (have z0_ : (0 : Int32).toInt = 0 := rfl; have z1_ : (1 : Int32).toInt = 1 := rfl; omega))  h_39 h_40 h_42 h_44 h_45 h_46 h_47 h_48  ) h_39 rfl (cwG (n := 1) X (mcs wd_212) (mcs wd_213) (mcs wd_214) (mcs wd_174) wd_215 (by decide +kernel) (by decide) (by decide)) rfl rfl (Nat.le_of_ble_eq_true rfl) d_Model_goesAgain_148 ⟨by decide, by decide⟩ rfl (st1 := [.int (sp_M_goesBehind (il_M_goesAgain_107_g3 xsize vlev vvar vfirst vpile b 9 1 vcell) vlev vcc vleast (vpile xsize.toNatClampNeg))]) rfl (fun M_138 ⟨h_139, fr_140⟩ => ?_)
                have h_141 : M_138 mo = some (.inr (6, [.int xcode, .ref (ad 1), .ref (ad 2), .int np, .int ns, .ref (ad 5), .ref (ad 6), .ref (ad 7), .ref (ad 8), .ref (ad 9), .ref (ad 10), .ref (ad 11), .ref (ad 12), .ref (ad 13), .ref (ad 14), .ref (ad 15), .ref (ad 16), .ref (ad 17), .ref (ad 18), .ref (ad 19), .ref (ad 20), .ref (ad 21), .int xsize, .int xmost, .int xend, .int xran, .ref (ad 26), .int yend, .int ysize, .int ymost, .int yran, .ref (ad 31), .ref (ad 32)])) := (fr_140 _ (ne_k h_39 h_40 (i := 6) (j := 100016) rfl rfl (by decide))).trans h_39
                have h_142 : M_138 (ad 9) = some (.inl (cI, 61, .inl vkind)) := (fr_140 _ (ad_ne hinj (i := 9) (j := 1) (by decide) (by decide) (by decide))).trans h_41
                have h_143 : M_138 (ad 12) = some (.inl (cI, 61, .inl vlev)) := (fr_140 _ (ad_ne hinj (i := 12) (j := 1) (by decide) (by decide) (by decide))).trans h_42
                have h_144 : M_138 (ad 13) = some (.inl (cB, 61, .inl vask)) := (fr_140 _ (ad_ne hinj (i := 13) (j := 1) (by decide) (by decide) (by decide))).trans h_43
                have h_145 : M_138 (ad 14) = some (.inl (cI, 488, .inl vcc)) := (fr_140 _ (ad_ne hinj (i := 14) (j := 1) (by decide) (by decide) (by decide))).trans h_44
                have h_146 : M_138 (ad 15) = some (.inl (cI, 488, .inl vvar)) := (fr_140 _ (ad_ne hinj (i := 15) (j := 1) (by decide) (by decide) (by decide))).trans h_45
                have h_147 : M_138 (ad 16) = some (.inl (cL, 488, .inr (.inl vleast))) := (fr_140 _ (ad_ne hinj (i := 16) (j := 1) (by decide) (by decide) (by decide))).trans h_46
                have h_148 : M_138 (ad 17) = some (.inl (cL, 488, .inr (.inl vfirst))) := (fr_140 _ (ad_ne hinj (i := 17) (j := 1) (by decide) (by decide) (by decide))).trans h_47
                have h_149 : M_138 (ad 18) = some (.inl (cL, 488, .inr (.inl vstep))) := (fr_140 _ (ad_ne hinj (i := 18) (j := 1) (by decide) (by decide) (by decide))).trans h_48
                have h_150 : M_138 (ad 19) = some (.inl (cI, 101, .inl vpile)) := (fr_140 _ (ad_ne hinj (i := 19) (j := 1) (by decide) (by decide) (by decide))).trans h_49
                have h_151 : M_138 (ad 21) = some (.inl (cI, 101, .inl vleft)) := (fr_140 _ (ad_ne hinj (i := 21) (j := 1) (by decide) (by decide) (by decide))).trans h_50
                refine V.br (pc' := 154) (tgt := 158) (P := (sp_M_goesBehind (il_M_goesAgain_107_g3 xsize vlev vvar vfirst vpile b 9 1 vcell) vlev vcc vleast (vpile xsize.toNatClampNeg)) = 0) (lv_if_eq X.1 X.2.1 d_Model_goesAgain_151 (by decide)) (fun c_152 => ?_) (fun c_152 => ?_)
                · have i_153 := congrArg Int32.toInt c_152
                  rw [show (0 : Int32).toInt = 0 from rfl] at i_153
                  refine V.go (pc' := 159) (lv_iconst (v := 0) X.1 X.2.1 d_Model_goesAgain_158 (by decide)) ?_
                  exact V.zret X hr hlk rfl ⟨(by simp only [sp_M_goesAgain, if_neg c_2, if_neg c_3, if_neg c_21, if_pos c_134, if_pos c_136, if_pos c_152]), (by simp only [sp_M_goesAgain_ad21, if_neg c_2, if_neg c_3, if_neg c_21, if_pos c_134, if_pos c_136, if_pos c_152]; exact h_151), (by simp only [sp_M_goesAgain_ad1, if_neg c_2, if_neg c_3, if_neg c_21, if_pos c_134, if_pos c_136, if_pos c_152]; exact h_139), (fun q n0_ n1_ => (fr_140 q n1_).trans ((fr_56 q n1_)))⟩ d_Model_goesAgain_159
                · have i_154 := mt Int32.toInt_inj.mp c_152
                  rw [show (0 : Int32).toInt = 0 from rfl] at i_154
                  refine V.go (pc' := 155) (lv_iconst (v := 1) X.1 X.2.1 d_Model_goesAgain_154 (by decide)) ?_
                  refine V.go (pc' := 159) (lv_goto X.1 X.2.1 d_Model_goesAgain_155 (by decide)) ?_
                  exact V.zret X hr hlk rfl ⟨(by simp only [sp_M_goesAgain, if_neg c_2, if_neg c_3, if_neg c_21, if_pos c_134, if_pos c_136, if_neg c_152]), (by simp only [sp_M_goesAgain_ad21, if_neg c_2, if_neg c_3, if_neg c_21, if_pos c_134, if_pos c_136, if_neg c_152]; exact h_151), (by simp only [sp_M_goesAgain_ad1, if_neg c_2, if_neg c_3, if_neg c_21, if_pos c_134, if_pos c_136, if_neg c_152]; exact h_139), (fun q n0_ n1_ => (fr_140 q n1_).trans ((fr_56 q n1_)))⟩ d_Model_goesAgain_159
              · have i_155 := mt Int32.toInt_inj.mp c_136
                rw [show (0 : Int32).toInt = 0 from rfl] at i_155
                refine V.go (pc' := 155) (lv_iconst (v := 1) X.1 X.2.1 d_Model_goesAgain_154 (by decide)) ?_
                refine V.go (pc' := 159) (lv_goto X.1 X.2.1 d_Model_goesAgain_155 (by decide)) ?_
                exact V.zret X hr hlk rfl ⟨(by simp only [sp_M_goesAgain, if_neg c_2, if_neg c_3, if_neg c_21, if_pos c_134, if_neg c_136]), (by simp only [sp_M_goesAgain_ad21, if_neg c_2, if_neg c_3, if_neg c_21, if_pos c_134, if_neg c_136]; exact h_50), (by simp only [sp_M_goesAgain_ad1, if_neg c_2, if_neg c_3, if_neg c_21, if_pos c_134, if_neg c_136]; exact h_40), (fun q n0_ n1_ => (fr_56 q n1_))⟩ d_Model_goesAgain_159
            · have i_156 := mt Int32.toInt_inj.mp c_134
              rw [show (0 : Int32).toInt = 0 from rfl] at i_156
              refine V.rd (pc' := 161) (fun hl => lv_iload_n X.1 X.2.1 d_Model_goesAgain_160 rfl (lv_at hl 1 rfl)) ?_
              refine V.bn (pc' := 164) (tgt := 175) (P := b = 0) (lv_if_ne X.1 X.2.1 d_Model_goesAgain_161 (by decide)) (fun c_157 => ?_) (fun c_157 => ?_)
              · have i_158 := congrArg Int32.toInt c_157
                rw [show (0 : Int32).toInt = 0 from rfl] at i_158
                refine V.rd (pc' := 165) (fun hl => lv_aload_n X.1 X.2.1 d_Model_goesAgain_164 rfl (lv_at hl 0 rfl)) ?_
                refine V.rd (pc' := 166) (fun hl => lv_iload_n X.1 X.2.1 d_Model_goesAgain_165 rfl (lv_at hl 2 rfl)) ?_
                refine V.rd (pc' := 167) (fun hl => lv_aload_n X.1 X.2.1 d_Model_goesAgain_166 rfl (lv_at hl 0 rfl)) ?_
                refine V.get (pc' := 170) X hK h_39 uw_Model rfl 12 (by decide) (mcs wd_191) rfl d_Model_goesAgain_167 rfl ?_
                refine V.rd (pc' := 171) (fun hl => lv_iload_n X.1 X.2.1 d_Model_goesAgain_170 rfl (lv_at hl 2 rfl)) ?_
                refine V.iald (pc' := 172) X hK 0 h_42 rfl (vin (by omega) (by omega)) d_Model_goesAgain_171 rfl ?_
                have q_159 := hle (vpile xsize.toNatClampNeg).toNatClampNeg
                refine V.callV (pc' := 175) X hK (c_M_goOn hinj (mo := mo) (xcode := xcode) (np := np) (ns := ns) (xsize := xsize) (xmost := xmost) (xend := xend) (xran := xran) (yend := yend) (ysize := ysize) (ymost := ymost) (yran := yran) (vcell := il_M_goesAgain_107_g3 xsize vlev vvar vfirst vpile b 9 1 vcell) (vvar := vvar) (vstep := vstep) (x := vpile xsize.toNatClampNeg) (y := vlev (vpile xsize.toNatClampNeg).toNatClampNeg) (by first | omega | with_reducible assumption | (have z0_ : (0 : Int32).toInt = 0 := rfl; have z1_ : (1 : Int32).toInt = 1 := rfl; omega)) (by first | omega | with_reducible assumption | (have z0_ : (0 : Int32).toInt = 0 := rfl; have z1_ : (1 : Int32).toInt = 1 := rfl; omega)) (by first | omega | with_reducible assumption | (have z0_ : (0 : Int32).toInt = 0 := rfl; have z1_ : (1 : Int32).toInt = 1 := rfl; omega))  h_39 h_40 h_45 h_48  ) h_39 rfl (cwG (n := 2) X (mcs wd_201) (mcs wd_202) (mcs wd_203) (mcs wd_174) wd_204 (by decide +kernel) (by decide) (by decide)) rfl rfl (Nat.le_of_ble_eq_true rfl) d_Model_goesAgain_172 ⟨by decide, by decide⟩ rfl (st1 := []) rfl (fun M_160 ⟨h_161, fr_162⟩ => ?_)
                have h_163 : M_160 mo = some (.inr (6, [.int xcode, .ref (ad 1), .ref (ad 2), .int np, .int ns, .ref (ad 5), .ref (ad 6), .ref (ad 7), .ref (ad 8), .ref (ad 9), .ref (ad 10), .ref (ad 11), .ref (ad 12), .ref (ad 13), .ref (ad 14), .ref (ad 15), .ref (ad 16), .ref (ad 17), .ref (ad 18), .ref (ad 19), .ref (ad 20), .ref (ad 21), .int xsize, .int xmost, .int xend, .int xran, .ref (ad 26), .int yend, .int ysize, .int ymost, .int yran, .ref (ad 31), .ref (ad 32)])) := (fr_162 _ (ne_k h_39 h_40 (i := 6) (j := 100016) rfl rfl (by decide))).trans h_39
                have h_164 : M_160 (ad 9) = some (.inl (cI, 61, .inl vkind)) := (fr_162 _ (ad_ne hinj (i := 9) (j := 1) (by decide) (by decide) (by decide))).trans h_41
                have h_165 : M_160 (ad 12) = some (.inl (cI, 61, .inl vlev)) := (fr_162 _ (ad_ne hinj (i := 12) (j := 1) (by decide) (by decide) (by decide))).trans h_42
                have h_166 : M_160 (ad 13) = some (.inl (cB, 61, .inl vask)) := (fr_162 _ (ad_ne hinj (i := 13) (j := 1) (by decide) (by decide) (by decide))).trans h_43
                have h_167 : M_160 (ad 14) = some (.inl (cI, 488, .inl vcc)) := (fr_162 _ (ad_ne hinj (i := 14) (j := 1) (by decide) (by decide) (by decide))).trans h_44
                have h_168 : M_160 (ad 15) = some (.inl (cI, 488, .inl vvar)) := (fr_162 _ (ad_ne hinj (i := 15) (j := 1) (by decide) (by decide) (by decide))).trans h_45
                have h_169 : M_160 (ad 16) = some (.inl (cL, 488, .inr (.inl vleast))) := (fr_162 _ (ad_ne hinj (i := 16) (j := 1) (by decide) (by decide) (by decide))).trans h_46
                have h_170 : M_160 (ad 17) = some (.inl (cL, 488, .inr (.inl vfirst))) := (fr_162 _ (ad_ne hinj (i := 17) (j := 1) (by decide) (by decide) (by decide))).trans h_47
                have h_171 : M_160 (ad 18) = some (.inl (cL, 488, .inr (.inl vstep))) := (fr_162 _ (ad_ne hinj (i := 18) (j := 1) (by decide) (by decide) (by decide))).trans h_48
                have h_172 : M_160 (ad 19) = some (.inl (cI, 101, .inl vpile)) := (fr_162 _ (ad_ne hinj (i := 19) (j := 1) (by decide) (by decide) (by decide))).trans h_49
                have h_173 : M_160 (ad 21) = some (.inl (cI, 101, .inl vleft)) := (fr_162 _ (ad_ne hinj (i := 21) (j := 1) (by decide) (by decide) (by decide))).trans h_50
                refine V.rd (pc' := 176) (fun hl => lv_aload_n X.1 X.2.1 d_Model_goesAgain_175 rfl (lv_at hl 0 rfl)) ?_
                refine V.rd (pc' := 177) (fun hl => lv_iload_n X.1 X.2.1 d_Model_goesAgain_176 rfl (lv_at hl 2 rfl)) ?_
                refine V.callV (pc' := 180) X hK (c_M_goesAhead hinj (mo := mo) (xcode := xcode) (np := np) (ns := ns) (xsize := xsize) (xmost := xmost) (xend := xend) (xran := xran) (yend := yend) (ysize := ysize) (ymost := ymost) (yran := yran) (vcell := vp_updL (il_M_goesAgain_107_g3 xsize vlev vvar vfirst vpile b 9 1 vcell) (vvar (((8 * ((vpile xsize.toNatClampNeg) - 1)) + (vlev (vpile xsize.toNatClampNeg).toNatClampNeg)) - 1).toNatClampNeg).toNatClampNeg (((il_M_goesAgain_107_g3 xsize vlev vvar vfirst vpile b 9 1 vcell) (vvar (((8 * ((vpile xsize.toNatClampNeg) - 1)) + (vlev (vpile xsize.toNatClampNeg).toNatClampNeg)) - 1).toNatClampNeg).toNatClampNeg) + (vstep (((8 * ((vpile xsize.toNatClampNeg) - 1)) + (vlev (vpile xsize.toNatClampNeg).toNatClampNeg)) - 1).toNatClampNeg))) (vlev := vlev) (vcc := vcc) (vvar := vvar) (vleast := vleast) (vfirst := vfirst) (vstep := vstep) (x := vpile xsize.toNatClampNeg) (by first | omega | with_reducible assumption | (have z0_ : (0 : Int32).toInt = 0 := rfl; have z1_ : (1 : Int32).toInt = 1 := rfl; omega)) (by first | omega | with_reducible assumption | (have z0_ : (0 : Int32).toInt = 0 := rfl; have z1_ : (1 : Int32).toInt = 1 := rfl; omega)) (by first | omega | with_reducible assumption | (have z0_ : (0 : Int32).toInt = 0 := rfl; have z1_ : (1 : Int32).toInt = 1 := rfl; omega)) (by first | omega | with_reducible assumption | (have z0_ : (0 : Int32).toInt = 0 := rfl; have z1_ : (1 : Int32).toInt = 1 := rfl; omega))  h_163 h_161 h_165 h_167 h_168 h_169 h_170 h_171  ) h_163 rfl (cwG (n := 1) X (mcs wd_216) (mcs wd_217) (mcs wd_218) (mcs wd_174) wd_219 (by decide +kernel) (by decide) (by decide)) rfl rfl (Nat.le_of_ble_eq_true rfl) d_Model_goesAgain_177 ⟨by decide, by decide⟩ rfl (st1 := [.int (lp_M_goesAhead vlev vcc vvar vleast vfirst vstep (vpile xsize.toNatClampNeg) 1001 0 (vp_updL (il_M_goesAgain_107_g3 xsize vlev vvar vfirst vpile b 9 1 vcell) (vvar (((8 * ((vpile xsize.toNatClampNeg) - 1)) + (vlev (vpile xsize.toNatClampNeg).toNatClampNeg)) - 1).toNatClampNeg).toNatClampNeg (((il_M_goesAgain_107_g3 xsize vlev vvar vfirst vpile b 9 1 vcell) (vvar (((8 * ((vpile xsize.toNatClampNeg) - 1)) + (vlev (vpile xsize.toNatClampNeg).toNatClampNeg)) - 1).toNatClampNeg).toNatClampNeg) + (vstep (((8 * ((vpile xsize.toNatClampNeg) - 1)) + (vlev (vpile xsize.toNatClampNeg).toNatClampNeg)) - 1).toNatClampNeg))))]) rfl (fun M_174 ⟨h_175, fr_176⟩ => ?_)
                have h_177 : M_174 mo = some (.inr (6, [.int xcode, .ref (ad 1), .ref (ad 2), .int np, .int ns, .ref (ad 5), .ref (ad 6), .ref (ad 7), .ref (ad 8), .ref (ad 9), .ref (ad 10), .ref (ad 11), .ref (ad 12), .ref (ad 13), .ref (ad 14), .ref (ad 15), .ref (ad 16), .ref (ad 17), .ref (ad 18), .ref (ad 19), .ref (ad 20), .ref (ad 21), .int xsize, .int xmost, .int xend, .int xran, .ref (ad 26), .int yend, .int ysize, .int ymost, .int yran, .ref (ad 31), .ref (ad 32)])) := (fr_176 _ (ne_k h_163 h_161 (i := 6) (j := 100016) rfl rfl (by decide))).trans h_163
                have h_178 : M_174 (ad 9) = some (.inl (cI, 61, .inl vkind)) := (fr_176 _ (ad_ne hinj (i := 9) (j := 1) (by decide) (by decide) (by decide))).trans h_164
                have h_179 : M_174 (ad 12) = some (.inl (cI, 61, .inl vlev)) := (fr_176 _ (ad_ne hinj (i := 12) (j := 1) (by decide) (by decide) (by decide))).trans h_165
                have h_180 : M_174 (ad 13) = some (.inl (cB, 61, .inl vask)) := (fr_176 _ (ad_ne hinj (i := 13) (j := 1) (by decide) (by decide) (by decide))).trans h_166
                have h_181 : M_174 (ad 14) = some (.inl (cI, 488, .inl vcc)) := (fr_176 _ (ad_ne hinj (i := 14) (j := 1) (by decide) (by decide) (by decide))).trans h_167
                have h_182 : M_174 (ad 15) = some (.inl (cI, 488, .inl vvar)) := (fr_176 _ (ad_ne hinj (i := 15) (j := 1) (by decide) (by decide) (by decide))).trans h_168
                have h_183 : M_174 (ad 16) = some (.inl (cL, 488, .inr (.inl vleast))) := (fr_176 _ (ad_ne hinj (i := 16) (j := 1) (by decide) (by decide) (by decide))).trans h_169
                have h_184 : M_174 (ad 17) = some (.inl (cL, 488, .inr (.inl vfirst))) := (fr_176 _ (ad_ne hinj (i := 17) (j := 1) (by decide) (by decide) (by decide))).trans h_170
                have h_185 : M_174 (ad 18) = some (.inl (cL, 488, .inr (.inl vstep))) := (fr_176 _ (ad_ne hinj (i := 18) (j := 1) (by decide) (by decide) (by decide))).trans h_171
                have h_186 : M_174 (ad 19) = some (.inl (cI, 101, .inl vpile)) := (fr_176 _ (ad_ne hinj (i := 19) (j := 1) (by decide) (by decide) (by decide))).trans h_172
                have h_187 : M_174 (ad 21) = some (.inl (cI, 101, .inl vleft)) := (fr_176 _ (ad_ne hinj (i := 21) (j := 1) (by decide) (by decide) (by decide))).trans h_173
                exact V.zret X hr hlk (nb_ok (b_M_goesAhead _ _ _)) ⟨(by simp only [sp_M_goesAgain, if_neg c_2, if_neg c_3, if_neg c_21, if_neg c_134, if_pos c_157]), (by simp only [sp_M_goesAgain_ad21, if_neg c_2, if_neg c_3, if_neg c_21, if_neg c_134, if_pos c_157]; exact h_187), (by simp only [sp_M_goesAgain_ad1, if_neg c_2, if_neg c_3, if_neg c_21, if_neg c_134, if_pos c_157]; exact h_175), (fun q n0_ n1_ => (fr_176 q n1_).trans ((fr_162 q n1_).trans ((fr_56 q n1_))))⟩ d_Model_goesAgain_180
              · have i_188 := mt Int32.toInt_inj.mp c_157
                rw [show (0 : Int32).toInt = 0 from rfl] at i_188
                refine V.rd (pc' := 176) (fun hl => lv_aload_n X.1 X.2.1 d_Model_goesAgain_175 rfl (lv_at hl 0 rfl)) ?_
                refine V.rd (pc' := 177) (fun hl => lv_iload_n X.1 X.2.1 d_Model_goesAgain_176 rfl (lv_at hl 2 rfl)) ?_
                refine V.callV (pc' := 180) X hK (c_M_goesAhead hinj (mo := mo) (xcode := xcode) (np := np) (ns := ns) (xsize := xsize) (xmost := xmost) (xend := xend) (xran := xran) (yend := yend) (ysize := ysize) (ymost := ymost) (yran := yran) (vcell := il_M_goesAgain_107_g3 xsize vlev vvar vfirst vpile b 9 1 vcell) (vlev := vlev) (vcc := vcc) (vvar := vvar) (vleast := vleast) (vfirst := vfirst) (vstep := vstep) (x := vpile xsize.toNatClampNeg) (by first | omega | with_reducible assumption | (have z0_ : (0 : Int32).toInt = 0 := rfl; have z1_ : (1 : Int32).toInt = 1 := rfl; omega)) (by first | omega | with_reducible assumption | (have z0_ : (0 : Int32).toInt = 0 := rfl; have z1_ : (1 : Int32).toInt = 1 := rfl; omega)) (by first | omega | with_reducible assumption | (have z0_ : (0 : Int32).toInt = 0 := rfl; have z1_ : (1 : Int32).toInt = 1 := rfl; omega)) (by first | omega | with_reducible assumption | (have z0_ : (0 : Int32).toInt = 0 := rfl; have z1_ : (1 : Int32).toInt = 1 := rfl; omega))  h_39 h_40 h_42 h_44 h_45 h_46 h_47 h_48  ) h_39 rfl (cwG (n := 1) X (mcs wd_216) (mcs wd_217) (mcs wd_218) (mcs wd_174) wd_219 (by decide +kernel) (by decide) (by decide)) rfl rfl (Nat.le_of_ble_eq_true rfl) d_Model_goesAgain_177 ⟨by decide, by decide⟩ rfl (st1 := [.int (lp_M_goesAhead vlev vcc vvar vleast vfirst vstep (vpile xsize.toNatClampNeg) 1001 0 (il_M_goesAgain_107_g3 xsize vlev vvar vfirst vpile b 9 1 vcell))]) rfl (fun M_189 ⟨h_190, fr_191⟩ => ?_)
                have h_192 : M_189 mo = some (.inr (6, [.int xcode, .ref (ad 1), .ref (ad 2), .int np, .int ns, .ref (ad 5), .ref (ad 6), .ref (ad 7), .ref (ad 8), .ref (ad 9), .ref (ad 10), .ref (ad 11), .ref (ad 12), .ref (ad 13), .ref (ad 14), .ref (ad 15), .ref (ad 16), .ref (ad 17), .ref (ad 18), .ref (ad 19), .ref (ad 20), .ref (ad 21), .int xsize, .int xmost, .int xend, .int xran, .ref (ad 26), .int yend, .int ysize, .int ymost, .int yran, .ref (ad 31), .ref (ad 32)])) := (fr_191 _ (ne_k h_39 h_40 (i := 6) (j := 100016) rfl rfl (by decide))).trans h_39
                have h_193 : M_189 (ad 9) = some (.inl (cI, 61, .inl vkind)) := (fr_191 _ (ad_ne hinj (i := 9) (j := 1) (by decide) (by decide) (by decide))).trans h_41
                have h_194 : M_189 (ad 12) = some (.inl (cI, 61, .inl vlev)) := (fr_191 _ (ad_ne hinj (i := 12) (j := 1) (by decide) (by decide) (by decide))).trans h_42
                have h_195 : M_189 (ad 13) = some (.inl (cB, 61, .inl vask)) := (fr_191 _ (ad_ne hinj (i := 13) (j := 1) (by decide) (by decide) (by decide))).trans h_43
                have h_196 : M_189 (ad 14) = some (.inl (cI, 488, .inl vcc)) := (fr_191 _ (ad_ne hinj (i := 14) (j := 1) (by decide) (by decide) (by decide))).trans h_44
                have h_197 : M_189 (ad 15) = some (.inl (cI, 488, .inl vvar)) := (fr_191 _ (ad_ne hinj (i := 15) (j := 1) (by decide) (by decide) (by decide))).trans h_45
                have h_198 : M_189 (ad 16) = some (.inl (cL, 488, .inr (.inl vleast))) := (fr_191 _ (ad_ne hinj (i := 16) (j := 1) (by decide) (by decide) (by decide))).trans h_46
                have h_199 : M_189 (ad 17) = some (.inl (cL, 488, .inr (.inl vfirst))) := (fr_191 _ (ad_ne hinj (i := 17) (j := 1) (by decide) (by decide) (by decide))).trans h_47
                have h_200 : M_189 (ad 18) = some (.inl (cL, 488, .inr (.inl vstep))) := (fr_191 _ (ad_ne hinj (i := 18) (j := 1) (by decide) (by decide) (by decide))).trans h_48
                have h_201 : M_189 (ad 19) = some (.inl (cI, 101, .inl vpile)) := (fr_191 _ (ad_ne hinj (i := 19) (j := 1) (by decide) (by decide) (by decide))).trans h_49
                have h_202 : M_189 (ad 21) = some (.inl (cI, 101, .inl vleft)) := (fr_191 _ (ad_ne hinj (i := 21) (j := 1) (by decide) (by decide) (by decide))).trans h_50
                exact V.zret X hr hlk (nb_ok (b_M_goesAhead _ _ _)) ⟨(by simp only [sp_M_goesAgain, if_neg c_2, if_neg c_3, if_neg c_21, if_neg c_134, if_neg c_157]), (by simp only [sp_M_goesAgain_ad21, if_neg c_2, if_neg c_3, if_neg c_21, if_neg c_134, if_neg c_157]; exact h_202), (by simp only [sp_M_goesAgain_ad1, if_neg c_2, if_neg c_3, if_neg c_21, if_neg c_134, if_neg c_157]; exact h_190), (fun q n0_ n1_ => (fr_191 q n1_).trans ((fr_56 q n1_)))⟩ d_Model_goesAgain_180
          · have i_203 := mt Int32.toInt_inj.mp c_132
            rw [show (0 : Int32).toInt = 0 from rfl] at i_203
            refine V.rd (pc' := 122) (fun hl => lv_aload_n X.1 X.2.1 d_Model_goesAgain_121 rfl (lv_at hl 0 rfl)) ?_
            refine V.rd (pc' := 123) (fun hl => lv_iload_n X.1 X.2.1 d_Model_goesAgain_122 rfl (lv_at hl 2 rfl)) ?_
            refine V.rd (pc' := 124) (fun hl => lv_iload_n X.1 X.2.1 d_Model_goesAgain_123 rfl (lv_at hl 3 rfl)) ?_
            refine V.callV (pc' := 127) X hK (c_M_begin hinj (mo := mo) (xcode := xcode) (np := np) (ns := ns) (xsize := xsize) (xmost := xmost) (xend := xend) (xran := xran) (yend := yend) (ysize := ysize) (ymost := ymost) (yran := yran) (vcell := g3) (vvar := vvar) (vfirst := vfirst) (x := vpile xsize.toNatClampNeg) (y := j) (by first | omega | with_reducible assumption | (have z0_ : (0 : Int32).toInt = 0 := rfl; have z1_ : (1 : Int32).toInt = 1 := rfl; omega)) (by first | omega | with_reducible assumption | (have z0_ : (0 : Int32).toInt = 0 := rfl; have z1_ : (1 : Int32).toInt = 1 := rfl; omega)) (by first | omega | with_reducible assumption | (have z0_ : (0 : Int32).toInt = 0 := rfl; have z1_ : (1 : Int32).toInt = 1 := rfl; omega))  h_39 h_40 h_45 h_47  ) h_39 rfl (cwG (n := 2) X (mcs wd_205) (mcs wd_206) (mcs wd_207) (mcs wd_174) wd_208 (by decide +kernel) (by decide) (by decide)) rfl rfl (Nat.le_of_ble_eq_true rfl) d_Model_goesAgain_124 ⟨by decide, by decide⟩ rfl (st1 := []) rfl (fun M_204 ⟨h_205, fr_206⟩ => ?_)
            have h_207 : M_204 mo = some (.inr (6, [.int xcode, .ref (ad 1), .ref (ad 2), .int np, .int ns, .ref (ad 5), .ref (ad 6), .ref (ad 7), .ref (ad 8), .ref (ad 9), .ref (ad 10), .ref (ad 11), .ref (ad 12), .ref (ad 13), .ref (ad 14), .ref (ad 15), .ref (ad 16), .ref (ad 17), .ref (ad 18), .ref (ad 19), .ref (ad 20), .ref (ad 21), .int xsize, .int xmost, .int xend, .int xran, .ref (ad 26), .int yend, .int ysize, .int ymost, .int yran, .ref (ad 31), .ref (ad 32)])) := (fr_206 _ (ne_k h_39 h_40 (i := 6) (j := 100016) rfl rfl (by decide))).trans h_39
            have h_208 : M_204 (ad 9) = some (.inl (cI, 61, .inl vkind)) := (fr_206 _ (ad_ne hinj (i := 9) (j := 1) (by decide) (by decide) (by decide))).trans h_41
            have h_209 : M_204 (ad 12) = some (.inl (cI, 61, .inl vlev)) := (fr_206 _ (ad_ne hinj (i := 12) (j := 1) (by decide) (by decide) (by decide))).trans h_42
            have h_210 : M_204 (ad 13) = some (.inl (cB, 61, .inl vask)) := (fr_206 _ (ad_ne hinj (i := 13) (j := 1) (by decide) (by decide) (by decide))).trans h_43
            have h_211 : M_204 (ad 14) = some (.inl (cI, 488, .inl vcc)) := (fr_206 _ (ad_ne hinj (i := 14) (j := 1) (by decide) (by decide) (by decide))).trans h_44
            have h_212 : M_204 (ad 15) = some (.inl (cI, 488, .inl vvar)) := (fr_206 _ (ad_ne hinj (i := 15) (j := 1) (by decide) (by decide) (by decide))).trans h_45
            have h_213 : M_204 (ad 16) = some (.inl (cL, 488, .inr (.inl vleast))) := (fr_206 _ (ad_ne hinj (i := 16) (j := 1) (by decide) (by decide) (by decide))).trans h_46
            have h_214 : M_204 (ad 17) = some (.inl (cL, 488, .inr (.inl vfirst))) := (fr_206 _ (ad_ne hinj (i := 17) (j := 1) (by decide) (by decide) (by decide))).trans h_47
            have h_215 : M_204 (ad 18) = some (.inl (cL, 488, .inr (.inl vstep))) := (fr_206 _ (ad_ne hinj (i := 18) (j := 1) (by decide) (by decide) (by decide))).trans h_48
            have h_216 : M_204 (ad 19) = some (.inl (cI, 101, .inl vpile)) := (fr_206 _ (ad_ne hinj (i := 19) (j := 1) (by decide) (by decide) (by decide))).trans h_49
            have h_217 : M_204 (ad 21) = some (.inl (cI, 101, .inl vleft)) := (fr_206 _ (ad_ne hinj (i := 21) (j := 1) (by decide) (by decide) (by decide))).trans h_50
            refine V.wr (pc' := 130) (lv' := [(3, .int (j + 1)), (0, .ref mo), (1, .int b), (2, .int (vpile xsize.toNatClampNeg))]) (fun hl => lv_iinc (k := 3) (v := j + 1) X.1 X.2.1 d_Model_goesAgain_127 hl rfl rfl (by decide) rfl) ?_
            have s_218 : (j + 1).toInt = j.toInt + (1) := i32_add1 (by omega)
            refine V.go (pc' := 107) (lv_goto X.1 X.2.1 d_Model_goesAgain_130 (by decide)) ?_
            refine V.pick [1, 2, 3, 0] rfl ?_
            exact ih_53 n_52 (by omega) () _ _ ⟨(j + 1), (vp_updL g3 (vvar (((8 * ((vpile xsize.toNatClampNeg) - 1)) + j) - 1).toNatClampNeg).toNatClampNeg (vfirst (((8 * ((vpile xsize.toNatClampNeg) - 1)) + j) - 1).toNatClampNeg)), rfl, h_207, h_205, h_208, h_209, h_210, h_211, h_212, h_213, h_214, h_215, h_216, h_217, (fun q n0_ => (fr_206 q n0_).trans ((fr_56 q n0_))), (by first | omega | with_reducible assumption | (have z0_ : (0 : Int32).toInt = 0 := rfl; have z1_ : (1 : Int32).toInt = 1 := rfl; omega)), (by first | omega | with_reducible assumption | (have z0_ : (0 : Int32).toInt = 0 := rfl; have z1_ : (1 : Int32).toInt = 1 := rfl; omega)), (by rw [← e_57, il_M_goesAgain_107_j]; simp only [if_neg c_60, if_neg c_132]), (by rw [← e_58, il_M_goesAgain_107_g3]; simp only [if_neg c_60, if_neg c_132])⟩
