theorem wx_0 : (Jvm.Cond.methodLink "PerformRangesLaw" (23 : Nat) ({ cls := "PerformRanges", name := "paragraph", desc := "(I)I" } : Jvm.MethodName)) ∈ GW := gw_of (i := 152) (by decide +kernel) (by decide +kernel)
theorem wx_1 : (Jvm.Cond.instanceMethod ({ cls := "PerformRanges", name := "paragraph", desc := "(I)I" } : Jvm.MethodName)) ∈ GW := gw_of (i := 153) (by decide +kernel) (by decide +kernel)
theorem wx_2 : (Jvm.Cond.selects "PerformRanges" ({ cls := "PerformRanges", name := "paragraph", desc := "(I)I" } : Jvm.MethodName) ({ cls := "PerformRanges", name := "paragraph", desc := "(I)I" } : Jvm.MethodName)) ∈ GW := gw_of (i := 154) (by decide +kernel) (by decide +kernel)
theorem wx_3 : (Jvm.Cond.code ({ cls := "PerformRanges", name := "paragraph", desc := "(I)I" } : Jvm.MethodName) prog_1_method_2_code (2 : Nat) (Option.some Jvm.ClassFile.FieldType.int)) ∈ GW := gw_of (i := 155) (by decide +kernel) (by decide +kernel)
theorem wx_4 : (Jvm.Cond.methodLink "PerformRangesLaw" (27 : Nat) ({ cls := "PerformRangesModel", name := "paragraph", desc := "(I)I" } : Jvm.MethodName)) ∈ GW := gw_of (i := 618) (by decide +kernel) (by decide +kernel)
theorem wx_5 : (Jvm.Cond.instanceMethod ({ cls := "PerformRangesModel", name := "paragraph", desc := "(I)I" } : Jvm.MethodName)) ∈ GW := gw_of (i := 619) (by decide +kernel) (by decide +kernel)
theorem wx_6 : (Jvm.Cond.selects "PerformRangesModel" ({ cls := "PerformRangesModel", name := "paragraph", desc := "(I)I" } : Jvm.MethodName) ({ cls := "PerformRangesModel", name := "paragraph", desc := "(I)I" } : Jvm.MethodName)) ∈ GW := gw_of (i := 620) (by decide +kernel) (by decide +kernel)
theorem wx_7 : (Jvm.Cond.code ({ cls := "PerformRangesModel", name := "paragraph", desc := "(I)I" } : Jvm.MethodName) prog_8_method_6_code (2 : Nat) (Option.some Jvm.ClassFile.FieldType.int)) ∈ GW := gw_of (i := 621) (by decide +kernel) (by decide +kernel)
theorem wx_8 : (Jvm.Cond.methodLink "PerformRangesLaw" (28 : Nat) ({ cls := "PerformRanges", name := "perform", desc := "(IIII)I" } : Jvm.MethodName)) ∈ GW := gw_of (i := 160) (by decide +kernel) (by decide +kernel)
theorem wx_9 : (Jvm.Cond.instanceMethod ({ cls := "PerformRanges", name := "perform", desc := "(IIII)I" } : Jvm.MethodName)) ∈ GW := gw_of (i := 161) (by decide +kernel) (by decide +kernel)
theorem wx_10 : (Jvm.Cond.selects "PerformRanges" ({ cls := "PerformRanges", name := "perform", desc := "(IIII)I" } : Jvm.MethodName) ({ cls := "PerformRanges", name := "perform", desc := "(IIII)I" } : Jvm.MethodName)) ∈ GW := gw_of (i := 162) (by decide +kernel) (by decide +kernel)
theorem wx_11 : (Jvm.Cond.code ({ cls := "PerformRanges", name := "perform", desc := "(IIII)I" } : Jvm.MethodName) prog_1_method_3_code (5 : Nat) (Option.some Jvm.ClassFile.FieldType.int)) ∈ GW := gw_of (i := 163) (by decide +kernel) (by decide +kernel)
theorem wx_12 : (Jvm.Cond.methodLink "PerformRangesLaw" (32 : Nat) ({ cls := "PerformRangesModel", name := "perform", desc := "(IIII)I" } : Jvm.MethodName)) ∈ GW := gw_of (i := 622) (by decide +kernel) (by decide +kernel)
theorem wx_13 : (Jvm.Cond.instanceMethod ({ cls := "PerformRangesModel", name := "perform", desc := "(IIII)I" } : Jvm.MethodName)) ∈ GW := gw_of (i := 623) (by decide +kernel) (by decide +kernel)
theorem wx_14 : (Jvm.Cond.selects "PerformRangesModel" ({ cls := "PerformRangesModel", name := "perform", desc := "(IIII)I" } : Jvm.MethodName) ({ cls := "PerformRangesModel", name := "perform", desc := "(IIII)I" } : Jvm.MethodName)) ∈ GW := gw_of (i := 624) (by decide +kernel) (by decide +kernel)
theorem wx_15 : (Jvm.Cond.code ({ cls := "PerformRangesModel", name := "perform", desc := "(IIII)I" } : Jvm.MethodName) prog_8_method_7_code (5 : Nat) (Option.some Jvm.ClassFile.FieldType.int)) ∈ GW := gw_of (i := 625) (by decide +kernel) (by decide +kernel)
theorem wx_16 : (Jvm.Cond.constantLong "PerformRangesLaw" (33 : Nat) (4294967295 : Int64)) ∈ GW := gw_of (i := 730) (by decide +kernel) (by decide +kernel)
theorem wx_17 : (Jvm.Cond.methodLink "PerformRangesLaw" (35 : Nat) ({ cls := "PerformRanges", name := "until", desc := "(IIJZ)I" } : Jvm.MethodName)) ∈ GW := gw_of (i := 223) (by decide +kernel) (by decide +kernel)
theorem wx_18 : (Jvm.Cond.instanceMethod ({ cls := "PerformRanges", name := "until", desc := "(IIJZ)I" } : Jvm.MethodName)) ∈ GW := gw_of (i := 224) (by decide +kernel) (by decide +kernel)
theorem wx_19 : (Jvm.Cond.selects "PerformRanges" ({ cls := "PerformRanges", name := "until", desc := "(IIJZ)I" } : Jvm.MethodName) ({ cls := "PerformRanges", name := "until", desc := "(IIJZ)I" } : Jvm.MethodName)) ∈ GW := gw_of (i := 225) (by decide +kernel) (by decide +kernel)
theorem wx_20 : (Jvm.Cond.code ({ cls := "PerformRanges", name := "until", desc := "(IIJZ)I" } : Jvm.MethodName) prog_1_method_4_code (7 : Nat) (Option.some Jvm.ClassFile.FieldType.int)) ∈ GW := gw_of (i := 226) (by decide +kernel) (by decide +kernel)
theorem wx_21 : (Jvm.Cond.methodLink "PerformRangesLaw" (39 : Nat) ({ cls := "PerformRangesModel", name := "until", desc := "(IIJZ)I" } : Jvm.MethodName)) ∈ GW := gw_of (i := 630) (by decide +kernel) (by decide +kernel)
theorem wx_22 : (Jvm.Cond.instanceMethod ({ cls := "PerformRangesModel", name := "until", desc := "(IIJZ)I" } : Jvm.MethodName)) ∈ GW := gw_of (i := 631) (by decide +kernel) (by decide +kernel)
theorem wx_23 : (Jvm.Cond.selects "PerformRangesModel" ({ cls := "PerformRangesModel", name := "until", desc := "(IIJZ)I" } : Jvm.MethodName) ({ cls := "PerformRangesModel", name := "until", desc := "(IIJZ)I" } : Jvm.MethodName)) ∈ GW := gw_of (i := 632) (by decide +kernel) (by decide +kernel)
theorem wx_24 : (Jvm.Cond.code ({ cls := "PerformRangesModel", name := "until", desc := "(IIJZ)I" } : Jvm.MethodName) prog_8_method_8_code (7 : Nat) (Option.some Jvm.ClassFile.FieldType.int)) ∈ GW := gw_of (i := 633) (by decide +kernel) (by decide +kernel)
theorem wx_25 : (Jvm.Cond.methodLink "PerformRangesLaw" (40 : Nat) ({ cls := "PerformRanges", name := "vary", desc := "(IIIJJ)I" } : Jvm.MethodName)) ∈ GW := gw_of (i := 238) (by decide +kernel) (by decide +kernel)
theorem wx_26 : (Jvm.Cond.instanceMethod ({ cls := "PerformRanges", name := "vary", desc := "(IIIJJ)I" } : Jvm.MethodName)) ∈ GW := gw_of (i := 239) (by decide +kernel) (by decide +kernel)
theorem wx_27 : (Jvm.Cond.selects "PerformRanges" ({ cls := "PerformRanges", name := "vary", desc := "(IIIJJ)I" } : Jvm.MethodName) ({ cls := "PerformRanges", name := "vary", desc := "(IIIJJ)I" } : Jvm.MethodName)) ∈ GW := gw_of (i := 240) (by decide +kernel) (by decide +kernel)
theorem wx_28 : (Jvm.Cond.code ({ cls := "PerformRanges", name := "vary", desc := "(IIIJJ)I" } : Jvm.MethodName) prog_1_method_5_code (9 : Nat) (Option.some Jvm.ClassFile.FieldType.int)) ∈ GW := gw_of (i := 241) (by decide +kernel) (by decide +kernel)
theorem wx_29 : (Jvm.Cond.methodLink "PerformRangesLaw" (44 : Nat) ({ cls := "PerformRangesModel", name := "vary", desc := "(IIIJJ)I" } : Jvm.MethodName)) ∈ GW := gw_of (i := 641) (by decide +kernel) (by decide +kernel)
theorem wx_30 : (Jvm.Cond.instanceMethod ({ cls := "PerformRangesModel", name := "vary", desc := "(IIIJJ)I" } : Jvm.MethodName)) ∈ GW := gw_of (i := 642) (by decide +kernel) (by decide +kernel)
theorem wx_31 : (Jvm.Cond.selects "PerformRangesModel" ({ cls := "PerformRangesModel", name := "vary", desc := "(IIIJJ)I" } : Jvm.MethodName) ({ cls := "PerformRangesModel", name := "vary", desc := "(IIIJJ)I" } : Jvm.MethodName)) ∈ GW := gw_of (i := 643) (by decide +kernel) (by decide +kernel)
theorem wx_32 : (Jvm.Cond.code ({ cls := "PerformRangesModel", name := "vary", desc := "(IIIJJ)I" } : Jvm.MethodName) prog_8_method_9_code (9 : Nat) (Option.some Jvm.ClassFile.FieldType.int)) ∈ GW := gw_of (i := 644) (by decide +kernel) (by decide +kernel)
theorem wx_33 : (Jvm.Cond.methodLink "PerformRangesLaw" (45 : Nat) ({ cls := "PerformRanges", name := "goTo", desc := "(II)I" } : Jvm.MethodName)) ∈ GW := gw_of (i := 249) (by decide +kernel) (by decide +kernel)
theorem wx_34 : (Jvm.Cond.instanceMethod ({ cls := "PerformRanges", name := "goTo", desc := "(II)I" } : Jvm.MethodName)) ∈ GW := gw_of (i := 250) (by decide +kernel) (by decide +kernel)
theorem wx_35 : (Jvm.Cond.selects "PerformRanges" ({ cls := "PerformRanges", name := "goTo", desc := "(II)I" } : Jvm.MethodName) ({ cls := "PerformRanges", name := "goTo", desc := "(II)I" } : Jvm.MethodName)) ∈ GW := gw_of (i := 251) (by decide +kernel) (by decide +kernel)
theorem wx_36 : (Jvm.Cond.code ({ cls := "PerformRanges", name := "goTo", desc := "(II)I" } : Jvm.MethodName) prog_1_method_6_code (3 : Nat) (Option.some Jvm.ClassFile.FieldType.int)) ∈ GW := gw_of (i := 252) (by decide +kernel) (by decide +kernel)
theorem wx_37 : (Jvm.Cond.methodLink "PerformRangesLaw" (49 : Nat) ({ cls := "PerformRangesModel", name := "goTo", desc := "(II)I" } : Jvm.MethodName)) ∈ GW := gw_of (i := 645) (by decide +kernel) (by decide +kernel)
theorem wx_38 : (Jvm.Cond.instanceMethod ({ cls := "PerformRangesModel", name := "goTo", desc := "(II)I" } : Jvm.MethodName)) ∈ GW := gw_of (i := 646) (by decide +kernel) (by decide +kernel)
theorem wx_39 : (Jvm.Cond.selects "PerformRangesModel" ({ cls := "PerformRangesModel", name := "goTo", desc := "(II)I" } : Jvm.MethodName) ({ cls := "PerformRangesModel", name := "goTo", desc := "(II)I" } : Jvm.MethodName)) ∈ GW := gw_of (i := 647) (by decide +kernel) (by decide +kernel)
theorem wx_40 : (Jvm.Cond.code ({ cls := "PerformRangesModel", name := "goTo", desc := "(II)I" } : Jvm.MethodName) prog_8_method_10_code (4 : Nat) (Option.some Jvm.ClassFile.FieldType.int)) ∈ GW := gw_of (i := 648) (by decide +kernel) (by decide +kernel)
theorem wx_41 : (Jvm.Cond.methodLink "PerformRangesLaw" (50 : Nat) ({ cls := "PerformRanges", name := "run", desc := "(IJ)I" } : Jvm.MethodName)) ∈ GW := gw_of (i := 258) (by decide +kernel) (by decide +kernel)
theorem wx_42 : (Jvm.Cond.instanceMethod ({ cls := "PerformRanges", name := "run", desc := "(IJ)I" } : Jvm.MethodName)) ∈ GW := gw_of (i := 259) (by decide +kernel) (by decide +kernel)
theorem wx_43 : (Jvm.Cond.selects "PerformRanges" ({ cls := "PerformRanges", name := "run", desc := "(IJ)I" } : Jvm.MethodName) ({ cls := "PerformRanges", name := "run", desc := "(IJ)I" } : Jvm.MethodName)) ∈ GW := gw_of (i := 260) (by decide +kernel) (by decide +kernel)
theorem wx_44 : (Jvm.Cond.code ({ cls := "PerformRanges", name := "run", desc := "(IJ)I" } : Jvm.MethodName) prog_1_method_7_code (4 : Nat) (Option.some Jvm.ClassFile.FieldType.int)) ∈ GW := gw_of (i := 261) (by decide +kernel) (by decide +kernel)
theorem wx_45 : (Jvm.Cond.methodLink "PerformRangesLaw" (54 : Nat) ({ cls := "PerformRangesModel", name := "run", desc := "(IJ)I" } : Jvm.MethodName)) ∈ GW := gw_of (i := 649) (by decide +kernel) (by decide +kernel)
theorem wx_46 : (Jvm.Cond.instanceMethod ({ cls := "PerformRangesModel", name := "run", desc := "(IJ)I" } : Jvm.MethodName)) ∈ GW := gw_of (i := 650) (by decide +kernel) (by decide +kernel)
theorem wx_47 : (Jvm.Cond.selects "PerformRangesModel" ({ cls := "PerformRangesModel", name := "run", desc := "(IJ)I" } : Jvm.MethodName) ({ cls := "PerformRangesModel", name := "run", desc := "(IJ)I" } : Jvm.MethodName)) ∈ GW := gw_of (i := 651) (by decide +kernel) (by decide +kernel)
theorem wx_48 : (Jvm.Cond.code ({ cls := "PerformRangesModel", name := "run", desc := "(IJ)I" } : Jvm.MethodName) prog_8_method_24_code (5 : Nat) (Option.some Jvm.ClassFile.FieldType.int)) ∈ GW := gw_of (i := 652) (by decide +kernel) (by decide +kernel)
theorem wx_49 : (Jvm.Cond.methodLink "PerformRangesLaw" (55 : Nat) ({ cls := "PerformRanges", name := "plain", desc := "(IJ)I" } : Jvm.MethodName)) ∈ GW := gw_of (i := 396) (by decide +kernel) (by decide +kernel)
theorem wx_50 : (Jvm.Cond.instanceMethod ({ cls := "PerformRanges", name := "plain", desc := "(IJ)I" } : Jvm.MethodName)) ∈ GW := gw_of (i := 397) (by decide +kernel) (by decide +kernel)
theorem wx_51 : (Jvm.Cond.selects "PerformRanges" ({ cls := "PerformRanges", name := "plain", desc := "(IJ)I" } : Jvm.MethodName) ({ cls := "PerformRanges", name := "plain", desc := "(IJ)I" } : Jvm.MethodName)) ∈ GW := gw_of (i := 398) (by decide +kernel) (by decide +kernel)
theorem wx_52 : (Jvm.Cond.code ({ cls := "PerformRanges", name := "plain", desc := "(IJ)I" } : Jvm.MethodName) prog_1_method_8_code (4 : Nat) (Option.some Jvm.ClassFile.FieldType.int)) ∈ GW := gw_of (i := 399) (by decide +kernel) (by decide +kernel)
theorem wx_53 : (Jvm.Cond.methodLink "PerformRangesLaw" (58 : Nat) ({ cls := "PerformRangesModel", name := "plain", desc := "(IJ)I" } : Jvm.MethodName)) ∈ GW := gw_of (i := 706) (by decide +kernel) (by decide +kernel)
theorem wx_54 : (Jvm.Cond.instanceMethod ({ cls := "PerformRangesModel", name := "plain", desc := "(IJ)I" } : Jvm.MethodName)) ∈ GW := gw_of (i := 707) (by decide +kernel) (by decide +kernel)
theorem wx_55 : (Jvm.Cond.selects "PerformRangesModel" ({ cls := "PerformRangesModel", name := "plain", desc := "(IJ)I" } : Jvm.MethodName) ({ cls := "PerformRangesModel", name := "plain", desc := "(IJ)I" } : Jvm.MethodName)) ∈ GW := gw_of (i := 708) (by decide +kernel) (by decide +kernel)
theorem wx_56 : (Jvm.Cond.code ({ cls := "PerformRangesModel", name := "plain", desc := "(IJ)I" } : Jvm.MethodName) prog_8_method_25_code (5 : Nat) (Option.some Jvm.ClassFile.FieldType.int)) ∈ GW := gw_of (i := 709) (by decide +kernel) (by decide +kernel)
theorem wx_57 : (Jvm.Cond.methodLink "PerformRangesLaw" (59 : Nat) ({ cls := "PerformRanges", name := "order", desc := "(I)I" } : Jvm.MethodName)) ∈ GW := gw_of (i := 404) (by decide +kernel) (by decide +kernel)
theorem wx_58 : (Jvm.Cond.instanceMethod ({ cls := "PerformRanges", name := "order", desc := "(I)I" } : Jvm.MethodName)) ∈ GW := gw_of (i := 405) (by decide +kernel) (by decide +kernel)
theorem wx_59 : (Jvm.Cond.selects "PerformRanges" ({ cls := "PerformRanges", name := "order", desc := "(I)I" } : Jvm.MethodName) ({ cls := "PerformRanges", name := "order", desc := "(I)I" } : Jvm.MethodName)) ∈ GW := gw_of (i := 406) (by decide +kernel) (by decide +kernel)
theorem wx_60 : (Jvm.Cond.code ({ cls := "PerformRanges", name := "order", desc := "(I)I" } : Jvm.MethodName) prog_1_method_9_code (2 : Nat) (Option.some Jvm.ClassFile.FieldType.int)) ∈ GW := gw_of (i := 407) (by decide +kernel) (by decide +kernel)
theorem wx_61 : (Jvm.Cond.methodLink "PerformRangesLaw" (62 : Nat) ({ cls := "PerformRangesModel", name := "order", desc := "(I)I" } : Jvm.MethodName)) ∈ GW := gw_of (i := 710) (by decide +kernel) (by decide +kernel)
theorem wx_62 : (Jvm.Cond.instanceMethod ({ cls := "PerformRangesModel", name := "order", desc := "(I)I" } : Jvm.MethodName)) ∈ GW := gw_of (i := 711) (by decide +kernel) (by decide +kernel)
theorem wx_63 : (Jvm.Cond.selects "PerformRangesModel" ({ cls := "PerformRangesModel", name := "order", desc := "(I)I" } : Jvm.MethodName) ({ cls := "PerformRangesModel", name := "order", desc := "(I)I" } : Jvm.MethodName)) ∈ GW := gw_of (i := 712) (by decide +kernel) (by decide +kernel)
theorem wx_64 : (Jvm.Cond.code ({ cls := "PerformRangesModel", name := "order", desc := "(I)I" } : Jvm.MethodName) prog_8_method_26_code (2 : Nat) (Option.some Jvm.ClassFile.FieldType.int)) ∈ GW := gw_of (i := 713) (by decide +kernel) (by decide +kernel)
theorem wx_65 : (Jvm.Cond.methodLink "PerformRangesLaw" (63 : Nat) ({ cls := "PerformRanges", name := "active", desc := "(I)I" } : Jvm.MethodName)) ∈ GW := gw_of (i := 412) (by decide +kernel) (by decide +kernel)
theorem wx_66 : (Jvm.Cond.instanceMethod ({ cls := "PerformRanges", name := "active", desc := "(I)I" } : Jvm.MethodName)) ∈ GW := gw_of (i := 413) (by decide +kernel) (by decide +kernel)
theorem wx_67 : (Jvm.Cond.selects "PerformRanges" ({ cls := "PerformRanges", name := "active", desc := "(I)I" } : Jvm.MethodName) ({ cls := "PerformRanges", name := "active", desc := "(I)I" } : Jvm.MethodName)) ∈ GW := gw_of (i := 414) (by decide +kernel) (by decide +kernel)
theorem wx_68 : (Jvm.Cond.code ({ cls := "PerformRanges", name := "active", desc := "(I)I" } : Jvm.MethodName) prog_1_method_10_code (2 : Nat) (Option.some Jvm.ClassFile.FieldType.int)) ∈ GW := gw_of (i := 415) (by decide +kernel) (by decide +kernel)
theorem wx_69 : (Jvm.Cond.methodLink "PerformRangesLaw" (66 : Nat) ({ cls := "PerformRangesModel", name := "active", desc := "(I)I" } : Jvm.MethodName)) ∈ GW := gw_of (i := 714) (by decide +kernel) (by decide +kernel)
theorem wx_70 : (Jvm.Cond.instanceMethod ({ cls := "PerformRangesModel", name := "active", desc := "(I)I" } : Jvm.MethodName)) ∈ GW := gw_of (i := 715) (by decide +kernel) (by decide +kernel)
theorem wx_71 : (Jvm.Cond.selects "PerformRangesModel" ({ cls := "PerformRangesModel", name := "active", desc := "(I)I" } : Jvm.MethodName) ({ cls := "PerformRangesModel", name := "active", desc := "(I)I" } : Jvm.MethodName)) ∈ GW := gw_of (i := 716) (by decide +kernel) (by decide +kernel)
theorem wx_72 : (Jvm.Cond.code ({ cls := "PerformRangesModel", name := "active", desc := "(I)I" } : Jvm.MethodName) prog_8_method_27_code (4 : Nat) (Option.some Jvm.ClassFile.FieldType.int)) ∈ GW := gw_of (i := 717) (by decide +kernel) (by decide +kernel)
theorem wx_73 : (Jvm.Cond.methodLink "PerformRangesLaw" (67 : Nat) ({ cls := "PerformRangesLaw", name := "get", desc := "(LPerformRanges;I[J)I" } : Jvm.MethodName)) ∈ GW := gw_of (i := 424) (by decide +kernel) (by decide +kernel)
theorem wx_74 : (Jvm.Cond.static ({ cls := "PerformRangesLaw", name := "get", desc := "(LPerformRanges;I[J)I" } : Jvm.MethodName)) ∈ GW := gw_of (i := 425) (by decide +kernel) (by decide +kernel)
theorem wx_75 : (Jvm.Cond.initialized "PerformRangesLaw") ∈ GW := gw_of (i := 30) (by decide +kernel) (by decide +kernel)
theorem wx_76 : (Jvm.Cond.codeWith ({ cls := "PerformRangesLaw", name := "get", desc := "(LPerformRanges;I[J)I" } : Jvm.MethodName) method_3_code (4 : Nat) (Option.some Jvm.ClassFile.FieldType.int) [((0 : Nat), (8 : Nat), (11 : Nat), (13 : Nat))]) ∈ GW := gw_of (i := 426) (by decide +kernel) (by decide +kernel)
theorem wx_77 : (Jvm.Cond.methodLink "PerformRangesLaw" (72 : Nat) ({ cls := "PerformRangesModel", name := "get", desc := "(I)J" } : Jvm.MethodName)) ∈ GW := gw_of (i := 718) (by decide +kernel) (by decide +kernel)
theorem wx_78 : (Jvm.Cond.instanceMethod ({ cls := "PerformRangesModel", name := "get", desc := "(I)J" } : Jvm.MethodName)) ∈ GW := gw_of (i := 719) (by decide +kernel) (by decide +kernel)
theorem wx_79 : (Jvm.Cond.selects "PerformRangesModel" ({ cls := "PerformRangesModel", name := "get", desc := "(I)J" } : Jvm.MethodName) ({ cls := "PerformRangesModel", name := "get", desc := "(I)J" } : Jvm.MethodName)) ∈ GW := gw_of (i := 720) (by decide +kernel) (by decide +kernel)
theorem wx_80 : (Jvm.Cond.code ({ cls := "PerformRangesModel", name := "get", desc := "(I)J" } : Jvm.MethodName) prog_8_method_28_code (2 : Nat) (Option.some Jvm.ClassFile.FieldType.long)) ∈ GW := gw_of (i := 721) (by decide +kernel) (by decide +kernel)
theorem wx_81 : (Jvm.Cond.methodLink "PerformRangesLaw" (73 : Nat) ({ cls := "PerformRangesModel", name := "thrown", desc := "()I" } : Jvm.MethodName)) ∈ GW := gw_of (i := 614) (by decide +kernel) (by decide +kernel)
theorem wx_82 : (Jvm.Cond.instanceMethod ({ cls := "PerformRangesModel", name := "thrown", desc := "()I" } : Jvm.MethodName)) ∈ GW := gw_of (i := 615) (by decide +kernel) (by decide +kernel)
theorem wx_83 : (Jvm.Cond.selects "PerformRangesModel" ({ cls := "PerformRangesModel", name := "thrown", desc := "()I" } : Jvm.MethodName) ({ cls := "PerformRangesModel", name := "thrown", desc := "()I" } : Jvm.MethodName)) ∈ GW := gw_of (i := 616) (by decide +kernel) (by decide +kernel)
theorem wx_84 : (Jvm.Cond.code ({ cls := "PerformRangesModel", name := "thrown", desc := "()I" } : Jvm.MethodName) prog_8_method_2_code (1 : Nat) (Option.some Jvm.ClassFile.FieldType.int)) ∈ GW := gw_of (i := 617) (by decide +kernel) (by decide +kernel)
theorem wx_85 : (Jvm.Cond.methodLink "PerformRangesLaw" (77 : Nat) ({ cls := "PerformRangesLaw", name := "put", desc := "(LPerformRanges;IJ[J)I" } : Jvm.MethodName)) ∈ GW := gw_of (i := 499) (by decide +kernel) (by decide +kernel)
theorem wx_86 : (Jvm.Cond.static ({ cls := "PerformRangesLaw", name := "put", desc := "(LPerformRanges;IJ[J)I" } : Jvm.MethodName)) ∈ GW := gw_of (i := 500) (by decide +kernel) (by decide +kernel)
theorem wx_87 : (Jvm.Cond.codeWith ({ cls := "PerformRangesLaw", name := "put", desc := "(LPerformRanges;IJ[J)I" } : Jvm.MethodName) method_4_code (6 : Nat) (Option.some Jvm.ClassFile.FieldType.int) [((0 : Nat), (10 : Nat), (13 : Nat), (13 : Nat))]) ∈ GW := gw_of (i := 501) (by decide +kernel) (by decide +kernel)
theorem wx_88 : (Jvm.Cond.methodLink "PerformRangesLaw" (80 : Nat) ({ cls := "PerformRangesModel", name := "put", desc := "(IJ)J" } : Jvm.MethodName)) ∈ GW := gw_of (i := 722) (by decide +kernel) (by decide +kernel)
theorem wx_89 : (Jvm.Cond.instanceMethod ({ cls := "PerformRangesModel", name := "put", desc := "(IJ)J" } : Jvm.MethodName)) ∈ GW := gw_of (i := 723) (by decide +kernel) (by decide +kernel)
theorem wx_90 : (Jvm.Cond.selects "PerformRangesModel" ({ cls := "PerformRangesModel", name := "put", desc := "(IJ)J" } : Jvm.MethodName) ({ cls := "PerformRangesModel", name := "put", desc := "(IJ)J" } : Jvm.MethodName)) ∈ GW := gw_of (i := 724) (by decide +kernel) (by decide +kernel)
theorem wx_91 : (Jvm.Cond.code ({ cls := "PerformRangesModel", name := "put", desc := "(IJ)J" } : Jvm.MethodName) prog_8_method_29_code (6 : Nat) (Option.some Jvm.ClassFile.FieldType.long)) ∈ GW := gw_of (i := 725) (by decide +kernel) (by decide +kernel)
theorem wx_92 : (Jvm.Cond.methodLink "PerformRangesLaw" (81 : Nat) ({ cls := "PerformRanges", name := "count", desc := "(I)I" } : Jvm.MethodName)) ∈ GW := gw_of (i := 420) (by decide +kernel) (by decide +kernel)
theorem wx_93 : (Jvm.Cond.instanceMethod ({ cls := "PerformRanges", name := "count", desc := "(I)I" } : Jvm.MethodName)) ∈ GW := gw_of (i := 421) (by decide +kernel) (by decide +kernel)
theorem wx_94 : (Jvm.Cond.selects "PerformRanges" ({ cls := "PerformRanges", name := "count", desc := "(I)I" } : Jvm.MethodName) ({ cls := "PerformRanges", name := "count", desc := "(I)I" } : Jvm.MethodName)) ∈ GW := gw_of (i := 422) (by decide +kernel) (by decide +kernel)
theorem wx_95 : (Jvm.Cond.code ({ cls := "PerformRanges", name := "count", desc := "(I)I" } : Jvm.MethodName) prog_1_method_13_code (2 : Nat) (Option.some Jvm.ClassFile.FieldType.int)) ∈ GW := gw_of (i := 423) (by decide +kernel) (by decide +kernel)
theorem wx_96 : (Jvm.Cond.methodLink "PerformRangesLaw" (84 : Nat) ({ cls := "PerformRangesModel", name := "count", desc := "(I)I" } : Jvm.MethodName)) ∈ GW := gw_of (i := 726) (by decide +kernel) (by decide +kernel)
theorem wx_97 : (Jvm.Cond.instanceMethod ({ cls := "PerformRangesModel", name := "count", desc := "(I)I" } : Jvm.MethodName)) ∈ GW := gw_of (i := 727) (by decide +kernel) (by decide +kernel)
theorem wx_98 : (Jvm.Cond.selects "PerformRangesModel" ({ cls := "PerformRangesModel", name := "count", desc := "(I)I" } : Jvm.MethodName) ({ cls := "PerformRangesModel", name := "count", desc := "(I)I" } : Jvm.MethodName)) ∈ GW := gw_of (i := 728) (by decide +kernel) (by decide +kernel)
theorem wx_99 : (Jvm.Cond.code ({ cls := "PerformRangesModel", name := "count", desc := "(I)I" } : Jvm.MethodName) prog_8_method_30_code (2 : Nat) (Option.some Jvm.ClassFile.FieldType.int)) ∈ GW := gw_of (i := 729) (by decide +kernel) (by decide +kernel)
set_option maxHeartbeats 4000000 in
set_option maxRecDepth 100000 in
theorem k_par {p : Program} {l : Launch} {e : Env} {s : State} {m : MethodId} {args : Array Value} {below : List Frame} {meth : Method} {c : Code} {D : va_G} {Q : State → Prop} {z : Cond} {b L : Nat} {xs : Nat → Int32} {i : Int32} {k0 n0 : Nat} {cI cL cQ cB : ClassId} {px pg lt tr dg gg tg0 ce va pi la pe tu ra ce2 va2 pi2 la2 pe2 tu2 ra2 mo ou : Nat} {ad : Nat → Nat} {M : mp} {sa u1 u2 u3 u4 u5 : Nat → Nat} {σ : Nat → Stm} {np : Int32} {ns : Int32} {ln : Int32} {en : Int32} {ln2 : Int32} {en2 : Int32} {hh : Int32} {hi : Int32} {hh2 : Int32} {hi2 : Int32} {dd : Nat → Int32} {gd : Nat → Int32} {f : Nat → Int64} {f2 : Nat → Int64} {lo : Nat → Option Nat} {lo2 : Nat → Option Nat} {pd : Nat → Int32} {ud : Nat → Int32} {rd : Nat → Int32} {pd2 : Nat → Int32} {ud2 : Nat → Int32} {rd2 : Nat → Int32} {fo : Nat → Int64} {xcode : Int32} {vkept : Nat → Int64} {vdoes : Nat → Int32} {vgos : Nat → Int32} {vfrom : Nat → Int32} {vto : Nat → Int32} {vkind : Nat → Int32} {vtimes : Nat → Int32} {vcond : Nat → Int32} {vlev : Nat → Int32} {vask : Nat → Int32} {vcc : Nat → Int32} {vvar : Nat → Int32} {vleast : Nat → Int64} {vfirst : Nat → Int64} {vstep : Nat → Int64} {vpile : Nat → Int32} {vcall : Nat → Int32} {vleft : Nat → Int32} {xsize : Int32} {xmost : Int32} {xend : Int32} {xran : Int32} {vord : Nat → Int32} {vlord : Nat → Int32} {vlpile : Nat → Int32} {x1 x2 x3 x4 x5 x6 x7 : Int32} (A : LX p l m c s args z D cI cL cQ cB b L xs px pg lt tr dg gg tg0 ce va pi la pe tu ra ce2 va2 pi2 la2 pe2 tu2 ra2 mo ou ad) (hk : k0 + 6 ≤ room_1.cells) (hn : n0 + 47 ≤ room_1.slots) (hs : SX L xs i x1 x2 x3 x4 x5 x6 x7) (I0 : INV cI cL cQ cB px pg lt tr dg gg tg0 ce va pi la pe tu ra ce2 va2 pi2 la2 pe2 tu2 ra2 mo ou ad sa u1 u2 u3 u4 u5 σ np ns ln en ln2 en2 hh hi hh2 hi2 dd gd f f2 lo lo2 pd ud rd pd2 ud2 rd2 fo xcode vkept vdoes vgos vfrom vto vkind vtimes vcond vlev vask vcc vvar vleast vfirst vstep vpile vcall vleft xsize xmost xend xran vord vlord vlpile M) (K : ∀ {M : mp} {sa u1 u2 u3 u4 u5 : Nat → Nat} {σ : Nat → Stm} {np : Int32} {ns : Int32} {ln : Int32} {en : Int32} {ln2 : Int32} {en2 : Int32} {hh : Int32} {hi : Int32} {hh2 : Int32} {hi2 : Int32} {dd : Nat → Int32} {gd : Nat → Int32} {f : Nat → Int64} {f2 : Nat → Int64} {lo : Nat → Option Nat} {lo2 : Nat → Option Nat} {pd : Nat → Int32} {ud : Nat → Int32} {rd : Nat → Int32} {pd2 : Nat → Int32} {ud2 : Nat → Int32} {rd2 : Nat → Int32} {fo : Nat → Int64} {xcode : Int32} {vkept : Nat → Int64} {vdoes : Nat → Int32} {vgos : Nat → Int32} {vfrom : Nat → Int32} {vto : Nat → Int32} {vkind : Nat → Int32} {vtimes : Nat → Int32} {vcond : Nat → Int32} {vlev : Nat → Int32} {vask : Nat → Int32} {vcc : Nat → Int32} {vvar : Nat → Int32} {vleast : Nat → Int64} {vfirst : Nat → Int64} {vstep : Nat → Int64} {vpile : Nat → Int32} {vcall : Nat → Int32} {vleft : Nat → Int32} {xsize : Int32} {xmost : Int32} {xend : Int32} {xran : Int32} {vord : Nat → Int32} {vlord : Nat → Int32} {vlpile : Nat → Int32}, INV cI cL cQ cB px pg lt tr dg gg tg0 ce va pi la pe tu ra ce2 va2 pi2 la2 pe2 tu2 ra2 mo ou ad sa u1 u2 u3 u4 u5 σ np ns ln en ln2 en2 hh hi hh2 hi2 dd gd f f2 lo lo2 pd ud rd pd2 ud2 rd2 fo xcode vkept vdoes vgos vfrom vto vkind vtimes vcond vlev vask vcc vvar vleast vfirst vstep vpile vcall vleft xsize xmost xend xran vord vlord vlpile M → V p l e room_1 s m args below meth c s.heap D cls7 Q 8 M (k0 + 6) (n0 + 47) 844 [(0, .ref b), (1, .ref px), (2, .ref mo), (3, .ref ou), (4, .int i)] [])  : V p l e room_1 s m args below meth c s.heap D cls7 Q 8 M k0 n0 104 [(0, .ref b), (1, .ref px), (2, .ref mo), (3, .ref ou), (4, .int i)] [] := by
  obtain ⟨X, hK, hZ, hfl, hX, hbl, hinj, ne0, ne1, ne2, ne3, ne4, ne5, ne6, ne7, ne8, ne9, ne10, ne11, ne12, ne13, ne14, ne15⟩ := A
  obtain ⟨g_px, g_pg, g_lt, g_tr, g_dg, g_gg, g_tg0, g_ce, g_va, g_pi, g_la, g_pe, g_tu, g_ra, g_ce2, g_va2, g_pi2, g_la2, g_pe2, g_tu2, g_ra2, g_mo, g_ad1, g_ad2, g_ad5, g_ad6, g_ad7, g_ad8, g_ad9, g_ad10, g_ad11, g_ad12, g_ad13, g_ad14, g_ad15, g_ad16, g_ad17, g_ad18, g_ad19, g_ad20, g_ad21, g_ad26, g_ad31, g_ad32, g_ou, hp, hj, HP, HQ, HR⟩ := I0
  obtain ⟨hs1, hs2, hs3, hs4, hs5, hs6, hs7⟩ := hs
  have hσ := rp_sl HP
  have hlo := HR.2.2.2.1
  have hlo2 := HR.2.2.2.2.1
  refine V.widen (k := k0 + 0) (n := n0 + 0) (Nat.le_refl _) (Nat.le_refl _) ?_
  refine V.rd (pc' := 105) (fun hl => lv_aload_n X.1 X.2.1 d_Law_law_104 rfl (lv_at hl 1 rfl)) ?_
  refine V.rd (pc' := 106) (fun hl => lv_aload_n X.1 X.2.1 d_Law_law_105 rfl (lv_at hl 0 rfl)) ?_
  refine V.rd (pc' := 108) (fun hl => lv_iload X.1 X.2.1 d_Law_law_106 (lv_at hl 4 rfl)) ?_
  refine V.go (pc' := 109) (lv_iconst (v := 1) X.1 X.2.1 d_Law_law_108 (by decide)) ?_
  refine V.go (pc' := 110) (lv_iadd X.1 X.2.1 d_Law_law_109) ?_
  refine V.scr (pc' := 111) X hX hbl hs1.1 hs1.2 d_Law_law_110 rfl ?_
  refine V.callV (pc' := 114) X hK (c_PR_paragraph  (px := px) (pg := pg) (lt := lt) (tr := tr) (dg := dg) (gg := gg) (tg0 := tg0) (np := np) (ns := ns) (dd := dd) (x := x1) HP.1.1.1  g_px g_pg g_dg  ) g_px rfl (cwG (n := 1) X (mcs wx_0) (mcs wx_1) (mcs wx_2) (mcs wd_289) wx_3 (by decide +kernel) (by decide) (by decide)) rfl rfl (Nat.le_of_ble_eq_true rfl) d_Law_law_111 ⟨lk hk (A := 0) (c := 0) (by decide), lk hn (A := 0) (c := 0) (by decide)⟩ rfl (st1 := [.int (sp_addParagraph np x1)]) rfl (fun M_1 ⟨h_2, h_3, fr_4⟩ => ?_)
  have h_5 : M_1 px = some (.inr (5, [.ref pg, .ref lt, .ref tr])) := (fr_4 _ (ne_k g_px g_dg (i := 5) (j := 1060) rfl rfl (by decide)) (ne_k g_px g_pg (i := 5) (j := 3) rfl rfl (by decide))).trans g_px
  have h_6 : M_1 lt = some (.inr (1, [.ref pg, .ref ce, .ref pi, .ref ra, .int ln, .int en])) := (fr_4 _ (ne_k g_lt g_dg (i := 1) (j := 1060) rfl rfl (by decide)) (ne_k g_lt g_pg (i := 1) (j := 3) rfl rfl (by decide))).trans g_lt
  have h_7 : M_1 tr = some (.inr (1, [.ref pg, .ref ce2, .ref pi2, .ref ra2, .int ln2, .int en2])) := (fr_4 _ (ne_k g_tr g_dg (i := 1) (j := 1060) rfl rfl (by decide)) (ne_k g_tr g_pg (i := 1) (j := 3) rfl rfl (by decide))).trans g_tr
  have h_8 : M_1 gg = some (.inl (cI, 60, .inl gd)) := (fr_4 _ (Ne.symm ne1) (ne_k g_gg g_pg (i := 1060) (j := 3) rfl rfl (by decide))).trans g_gg
  have h_9 : M_1 tg0 = some (.inl (cQ, 60, .inr (.inr (.inr (.inr (tdOf ns sa)))))) := (fr_4 _ (ne_k g_tg0 g_dg (i := 10000060) (j := 1060) rfl rfl (by decide)) (ne_k g_tg0 g_pg (i := 10000060) (j := 3) rfl rfl (by decide))).trans g_tg0
  have h_10 : M_1 ce = some (.inr (0, [.ref va])) := (fr_4 _ (ne_k g_ce g_dg (i := 0) (j := 1060) rfl rfl (by decide)) (ne_k g_ce g_pg (i := 0) (j := 3) rfl rfl (by decide))).trans g_ce
  have h_11 : M_1 va = some (.inl (cL, 16, .inr (.inl f))) := (fr_4 _ (ne_k g_va g_dg (i := 100016) (j := 1060) rfl rfl (by decide)) (ne_k g_va g_pg (i := 100016) (j := 3) rfl rfl (by decide))).trans g_va
  have h_12 : M_1 pi = some (.inr (2, [.ref la, .ref pe, .ref tu, .int hh, .int hi])) := (fr_4 _ (ne_k g_pi g_dg (i := 2) (j := 1060) rfl rfl (by decide)) (ne_k g_pi g_pg (i := 2) (j := 3) rfl rfl (by decide))).trans g_pi
  have h_13 : M_1 la = some (.inl (cQ, 100, .inr (.inr (.inr (.inr (lq lo sa)))))) := (fr_4 _ (ne_k g_la g_dg (i := 10000100) (j := 1060) rfl rfl (by decide)) (ne_k g_la g_pg (i := 10000100) (j := 3) rfl rfl (by decide))).trans g_la
  have h_14 : M_1 pe = some (.inl (cI, 100, .inl pd)) := (fr_4 _ (ne_k g_pe g_dg (i := 1100) (j := 1060) rfl rfl (by decide)) (ne_k g_pe g_pg (i := 1100) (j := 3) rfl rfl (by decide))).trans g_pe
  have h_15 : M_1 tu = some (.inl (cI, 100, .inl ud)) := (fr_4 _ (ne_k g_tu g_dg (i := 1100) (j := 1060) rfl rfl (by decide)) (ne_k g_tu g_pg (i := 1100) (j := 3) rfl rfl (by decide))).trans g_tu
  have h_16 : M_1 ra = some (.inl (cI, 4096, .inl rd)) := (fr_4 _ (ne_k g_ra g_dg (i := 5096) (j := 1060) rfl rfl (by decide)) (ne_k g_ra g_pg (i := 5096) (j := 3) rfl rfl (by decide))).trans g_ra
  have h_17 : M_1 ce2 = some (.inr (0, [.ref va2])) := (fr_4 _ (ne_k g_ce2 g_dg (i := 0) (j := 1060) rfl rfl (by decide)) (ne_k g_ce2 g_pg (i := 0) (j := 3) rfl rfl (by decide))).trans g_ce2
  have h_18 : M_1 va2 = some (.inl (cL, 16, .inr (.inl f2))) := (fr_4 _ (ne_k g_va2 g_dg (i := 100016) (j := 1060) rfl rfl (by decide)) (ne_k g_va2 g_pg (i := 100016) (j := 3) rfl rfl (by decide))).trans g_va2
  have h_19 : M_1 pi2 = some (.inr (2, [.ref la2, .ref pe2, .ref tu2, .int hh2, .int hi2])) := (fr_4 _ (ne_k g_pi2 g_dg (i := 2) (j := 1060) rfl rfl (by decide)) (ne_k g_pi2 g_pg (i := 2) (j := 3) rfl rfl (by decide))).trans g_pi2
  have h_20 : M_1 la2 = some (.inl (cQ, 100, .inr (.inr (.inr (.inr (lq lo2 sa)))))) := (fr_4 _ (ne_k g_la2 g_dg (i := 10000100) (j := 1060) rfl rfl (by decide)) (ne_k g_la2 g_pg (i := 10000100) (j := 3) rfl rfl (by decide))).trans g_la2
  have h_21 : M_1 pe2 = some (.inl (cI, 100, .inl pd2)) := (fr_4 _ (ne_k g_pe2 g_dg (i := 1100) (j := 1060) rfl rfl (by decide)) (ne_k g_pe2 g_pg (i := 1100) (j := 3) rfl rfl (by decide))).trans g_pe2
  have h_22 : M_1 tu2 = some (.inl (cI, 100, .inl ud2)) := (fr_4 _ (ne_k g_tu2 g_dg (i := 1100) (j := 1060) rfl rfl (by decide)) (ne_k g_tu2 g_pg (i := 1100) (j := 3) rfl rfl (by decide))).trans g_tu2
  have h_23 : M_1 ra2 = some (.inl (cI, 0, .inl rd2)) := (fr_4 _ (ne_k g_ra2 g_dg (i := 1000) (j := 1060) rfl rfl (by decide)) (ne_k g_ra2 g_pg (i := 1000) (j := 3) rfl rfl (by decide))).trans g_ra2
  have h_24 : M_1 mo = some (.inr (6, [.int xcode, .ref (ad 1), .ref (ad 2), .int np, .int ns, .ref (ad 5), .ref (ad 6), .ref (ad 7), .ref (ad 8), .ref (ad 9), .ref (ad 10), .ref (ad 11), .ref (ad 12), .ref (ad 13), .ref (ad 14), .ref (ad 15), .ref (ad 16), .ref (ad 17), .ref (ad 18), .ref (ad 19), .ref (ad 20), .ref (ad 21), .int xsize, .int xmost, .int xend, .int xran, .ref (ad 26), .int en, .int hh, .int hi, .int ln, .ref (ad 31), .ref (ad 32)])) := (fr_4 _ (ne_k g_mo g_dg (i := 6) (j := 1060) rfl rfl (by decide)) (ne_k g_mo g_pg (i := 6) (j := 3) rfl rfl (by decide))).trans g_mo
  have h_25 : M_1 (ad 1) = some (.inl (cL, 16, .inr (.inl f))) := (fr_4 _ (ne_k g_ad1 g_dg (i := 100016) (j := 1060) rfl rfl (by decide)) (ne_k g_ad1 g_pg (i := 100016) (j := 3) rfl rfl (by decide))).trans g_ad1
  have h_26 : M_1 (ad 2) = some (.inl (cL, 16, .inr (.inl vkept))) := (fr_4 _ (ne_k g_ad2 g_dg (i := 100016) (j := 1060) rfl rfl (by decide)) (ne_k g_ad2 g_pg (i := 100016) (j := 3) rfl rfl (by decide))).trans g_ad2
  have h_27 : M_1 (ad 5) = some (.inl (cI, 61, .inl vdoes)) := (fr_4 _ (ne_k g_ad5 g_dg (i := 1061) (j := 1060) rfl rfl (by decide)) (ne_k g_ad5 g_pg (i := 1061) (j := 3) rfl rfl (by decide))).trans g_ad5
  have h_28 : M_1 (ad 6) = some (.inl (cI, 61, .inl vgos)) := (fr_4 _ (ne_k g_ad6 g_dg (i := 1061) (j := 1060) rfl rfl (by decide)) (ne_k g_ad6 g_pg (i := 1061) (j := 3) rfl rfl (by decide))).trans g_ad6
  have h_29 : M_1 (ad 7) = some (.inl (cI, 61, .inl vfrom)) := (fr_4 _ (ne_k g_ad7 g_dg (i := 1061) (j := 1060) rfl rfl (by decide)) (ne_k g_ad7 g_pg (i := 1061) (j := 3) rfl rfl (by decide))).trans g_ad7
  have h_30 : M_1 (ad 8) = some (.inl (cI, 61, .inl vto)) := (fr_4 _ (ne_k g_ad8 g_dg (i := 1061) (j := 1060) rfl rfl (by decide)) (ne_k g_ad8 g_pg (i := 1061) (j := 3) rfl rfl (by decide))).trans g_ad8
  have h_31 : M_1 (ad 9) = some (.inl (cI, 61, .inl vkind)) := (fr_4 _ (ne_k g_ad9 g_dg (i := 1061) (j := 1060) rfl rfl (by decide)) (ne_k g_ad9 g_pg (i := 1061) (j := 3) rfl rfl (by decide))).trans g_ad9
  have h_32 : M_1 (ad 10) = some (.inl (cI, 61, .inl vtimes)) := (fr_4 _ (ne_k g_ad10 g_dg (i := 1061) (j := 1060) rfl rfl (by decide)) (ne_k g_ad10 g_pg (i := 1061) (j := 3) rfl rfl (by decide))).trans g_ad10
  have h_33 : M_1 (ad 11) = some (.inl (cI, 61, .inl vcond)) := (fr_4 _ (ne_k g_ad11 g_dg (i := 1061) (j := 1060) rfl rfl (by decide)) (ne_k g_ad11 g_pg (i := 1061) (j := 3) rfl rfl (by decide))).trans g_ad11
  have h_34 : M_1 (ad 12) = some (.inl (cI, 61, .inl vlev)) := (fr_4 _ (ne_k g_ad12 g_dg (i := 1061) (j := 1060) rfl rfl (by decide)) (ne_k g_ad12 g_pg (i := 1061) (j := 3) rfl rfl (by decide))).trans g_ad12
  have h_35 : M_1 (ad 13) = some (.inl (cB, 61, .inl vask)) := (fr_4 _ (ne_k g_ad13 g_dg (i := 1061) (j := 1060) rfl rfl (by decide)) (ne_k g_ad13 g_pg (i := 1061) (j := 3) rfl rfl (by decide))).trans g_ad13
  have h_36 : M_1 (ad 14) = some (.inl (cI, 488, .inl vcc)) := (fr_4 _ (ne_k g_ad14 g_dg (i := 1488) (j := 1060) rfl rfl (by decide)) (ne_k g_ad14 g_pg (i := 1488) (j := 3) rfl rfl (by decide))).trans g_ad14
  have h_37 : M_1 (ad 15) = some (.inl (cI, 488, .inl vvar)) := (fr_4 _ (ne_k g_ad15 g_dg (i := 1488) (j := 1060) rfl rfl (by decide)) (ne_k g_ad15 g_pg (i := 1488) (j := 3) rfl rfl (by decide))).trans g_ad15
  have h_38 : M_1 (ad 16) = some (.inl (cL, 488, .inr (.inl vleast))) := (fr_4 _ (ne_k g_ad16 g_dg (i := 100488) (j := 1060) rfl rfl (by decide)) (ne_k g_ad16 g_pg (i := 100488) (j := 3) rfl rfl (by decide))).trans g_ad16
  have h_39 : M_1 (ad 17) = some (.inl (cL, 488, .inr (.inl vfirst))) := (fr_4 _ (ne_k g_ad17 g_dg (i := 100488) (j := 1060) rfl rfl (by decide)) (ne_k g_ad17 g_pg (i := 100488) (j := 3) rfl rfl (by decide))).trans g_ad17
  have h_40 : M_1 (ad 18) = some (.inl (cL, 488, .inr (.inl vstep))) := (fr_4 _ (ne_k g_ad18 g_dg (i := 100488) (j := 1060) rfl rfl (by decide)) (ne_k g_ad18 g_pg (i := 100488) (j := 3) rfl rfl (by decide))).trans g_ad18
  have h_41 : M_1 (ad 19) = some (.inl (cI, 101, .inl vpile)) := (fr_4 _ (ne_k g_ad19 g_dg (i := 1101) (j := 1060) rfl rfl (by decide)) (ne_k g_ad19 g_pg (i := 1101) (j := 3) rfl rfl (by decide))).trans g_ad19
  have h_42 : M_1 (ad 20) = some (.inl (cI, 101, .inl vcall)) := (fr_4 _ (ne_k g_ad20 g_dg (i := 1101) (j := 1060) rfl rfl (by decide)) (ne_k g_ad20 g_pg (i := 1101) (j := 3) rfl rfl (by decide))).trans g_ad20
  have h_43 : M_1 (ad 21) = some (.inl (cI, 101, .inl vleft)) := (fr_4 _ (ne_k g_ad21 g_dg (i := 1101) (j := 1060) rfl rfl (by decide)) (ne_k g_ad21 g_pg (i := 1101) (j := 3) rfl rfl (by decide))).trans g_ad21
  have h_44 : M_1 (ad 26) = some (.inl (cI, 4097, .inl vord)) := (fr_4 _ (ne_k g_ad26 g_dg (i := 5097) (j := 1060) rfl rfl (by decide)) (ne_k g_ad26 g_pg (i := 5097) (j := 3) rfl rfl (by decide))).trans g_ad26
  have h_45 : M_1 (ad 31) = some (.inl (cI, 4097, .inl vlord)) := (fr_4 _ (ne_k g_ad31 g_dg (i := 5097) (j := 1060) rfl rfl (by decide)) (ne_k g_ad31 g_pg (i := 5097) (j := 3) rfl rfl (by decide))).trans g_ad31
  have h_46 : M_1 (ad 32) = some (.inl (cI, 101, .inl vlpile)) := (fr_4 _ (ne_k g_ad32 g_dg (i := 1101) (j := 1060) rfl rfl (by decide)) (ne_k g_ad32 g_pg (i := 1101) (j := 3) rfl rfl (by decide))).trans g_ad32
  have h_47 : M_1 ou = some (.inl (cL, 1, .inr (.inl fo))) := (fr_4 _ (ne_k g_ou g_dg (i := 100001) (j := 1060) rfl rfl (by decide)) (ne_k g_ou g_pg (i := 100001) (j := 3) rfl rfl (by decide))).trans g_ou
  have hp_48 := hp.keep (M' := M_1) (fun q e he ht => fr_4 q (ne_p he ht g_dg (j := 1060) rfl (by decide)) (ne_p he ht g_pg (j := 3) rfl (by decide)))
  refine V.widen (k := k0 + 0) (n := n0 + 0) (Nat.le_refl _) (Nat.le_refl _) ?_
  refine V.rd (pc' := 115) (fun hl => lv_aload_n X.1 X.2.1 d_Law_law_114 rfl (lv_at hl 2 rfl)) ?_
  refine V.rd (pc' := 116) (fun hl => lv_aload_n X.1 X.2.1 d_Law_law_115 rfl (lv_at hl 0 rfl)) ?_
  refine V.rd (pc' := 118) (fun hl => lv_iload X.1 X.2.1 d_Law_law_116 (lv_at hl 4 rfl)) ?_
  refine V.go (pc' := 119) (lv_iconst (v := 1) X.1 X.2.1 d_Law_law_118 (by decide)) ?_
  refine V.go (pc' := 120) (lv_iadd X.1 X.2.1 d_Law_law_119) ?_
  refine V.scr (pc' := 121) X hX hbl hs1.1 hs1.2 d_Law_law_120 rfl ?_
  refine V.callV (pc' := 124) X hK (c_M_paragraph hinj (mo := mo) (xcode := xcode) (np := np) (ns := ns) (xsize := xsize) (xmost := xmost) (xend := xend) (xran := xran) (yend := en) (ysize := hh) (ymost := hi) (yran := ln) (vdoes := vdoes) (x := x1) ⟨HP.1.1.1, HP.1.1.2.1⟩  h_24 h_27  ) h_24 rfl (cwG (n := 1) X (mcs wx_4) (mcs wx_5) (mcs wx_6) (mcs wd_174) wx_7 (by decide +kernel) (by decide) (by decide)) rfl rfl (Nat.le_of_ble_eq_true rfl) d_Law_law_121 ⟨lk hk (A := 0) (c := 0) (by decide), lk hn (A := 0) (c := 0) (by decide)⟩ rfl (st1 := [.int (sp_M_paragraph np x1), .int (sp_addParagraph np x1)]) rfl (fun M_49 ⟨h_50, h_51, fr_52⟩ => ?_)
  have h_53 : M_49 px = some (.inr (5, [.ref pg, .ref lt, .ref tr])) := (fr_52 _ (ne_k h_5 h_24 (i := 5) (j := 6) rfl rfl (by decide)) (ne_k h_5 h_27 (i := 5) (j := 1061) rfl rfl (by decide))).trans h_5
  have h_54 : M_49 lt = some (.inr (1, [.ref pg, .ref ce, .ref pi, .ref ra, .int ln, .int en])) := (fr_52 _ (ne_k h_6 h_24 (i := 1) (j := 6) rfl rfl (by decide)) (ne_k h_6 h_27 (i := 1) (j := 1061) rfl rfl (by decide))).trans h_6
  have h_55 : M_49 tr = some (.inr (1, [.ref pg, .ref ce2, .ref pi2, .ref ra2, .int ln2, .int en2])) := (fr_52 _ (ne_k h_7 h_24 (i := 1) (j := 6) rfl rfl (by decide)) (ne_k h_7 h_27 (i := 1) (j := 1061) rfl rfl (by decide))).trans h_7
  have h_56 : M_49 gg = some (.inl (cI, 60, .inl gd)) := (fr_52 _ (ne_k h_8 h_24 (i := 1060) (j := 6) rfl rfl (by decide)) (ne_k h_8 h_27 (i := 1060) (j := 1061) rfl rfl (by decide))).trans h_8
  have h_57 : M_49 tg0 = some (.inl (cQ, 60, .inr (.inr (.inr (.inr (tdOf ns sa)))))) := (fr_52 _ (ne_k h_9 h_24 (i := 10000060) (j := 6) rfl rfl (by decide)) (ne_k h_9 h_27 (i := 10000060) (j := 1061) rfl rfl (by decide))).trans h_9
  have h_58 : M_49 ce = some (.inr (0, [.ref va])) := (fr_52 _ (ne_k h_10 h_24 (i := 0) (j := 6) rfl rfl (by decide)) (ne_k h_10 h_27 (i := 0) (j := 1061) rfl rfl (by decide))).trans h_10
  have h_59 : M_49 va = some (.inl (cL, 16, .inr (.inl f))) := (fr_52 _ (ne_k h_11 h_24 (i := 100016) (j := 6) rfl rfl (by decide)) (ne_k h_11 h_27 (i := 100016) (j := 1061) rfl rfl (by decide))).trans h_11
  have h_60 : M_49 pi = some (.inr (2, [.ref la, .ref pe, .ref tu, .int hh, .int hi])) := (fr_52 _ (ne_k h_12 h_24 (i := 2) (j := 6) rfl rfl (by decide)) (ne_k h_12 h_27 (i := 2) (j := 1061) rfl rfl (by decide))).trans h_12
  have h_61 : M_49 la = some (.inl (cQ, 100, .inr (.inr (.inr (.inr (lq lo sa)))))) := (fr_52 _ (ne_k h_13 h_24 (i := 10000100) (j := 6) rfl rfl (by decide)) (ne_k h_13 h_27 (i := 10000100) (j := 1061) rfl rfl (by decide))).trans h_13
  have h_62 : M_49 pe = some (.inl (cI, 100, .inl pd)) := (fr_52 _ (ne_k h_14 h_24 (i := 1100) (j := 6) rfl rfl (by decide)) (ne_k h_14 h_27 (i := 1100) (j := 1061) rfl rfl (by decide))).trans h_14
  have h_63 : M_49 tu = some (.inl (cI, 100, .inl ud)) := (fr_52 _ (ne_k h_15 h_24 (i := 1100) (j := 6) rfl rfl (by decide)) (ne_k h_15 h_27 (i := 1100) (j := 1061) rfl rfl (by decide))).trans h_15
  have h_64 : M_49 ra = some (.inl (cI, 4096, .inl rd)) := (fr_52 _ (ne_k h_16 h_24 (i := 5096) (j := 6) rfl rfl (by decide)) (ne_k h_16 h_27 (i := 5096) (j := 1061) rfl rfl (by decide))).trans h_16
  have h_65 : M_49 ce2 = some (.inr (0, [.ref va2])) := (fr_52 _ (ne_k h_17 h_24 (i := 0) (j := 6) rfl rfl (by decide)) (ne_k h_17 h_27 (i := 0) (j := 1061) rfl rfl (by decide))).trans h_17
  have h_66 : M_49 va2 = some (.inl (cL, 16, .inr (.inl f2))) := (fr_52 _ (ne_k h_18 h_24 (i := 100016) (j := 6) rfl rfl (by decide)) (ne_k h_18 h_27 (i := 100016) (j := 1061) rfl rfl (by decide))).trans h_18
  have h_67 : M_49 pi2 = some (.inr (2, [.ref la2, .ref pe2, .ref tu2, .int hh2, .int hi2])) := (fr_52 _ (ne_k h_19 h_24 (i := 2) (j := 6) rfl rfl (by decide)) (ne_k h_19 h_27 (i := 2) (j := 1061) rfl rfl (by decide))).trans h_19
  have h_68 : M_49 la2 = some (.inl (cQ, 100, .inr (.inr (.inr (.inr (lq lo2 sa)))))) := (fr_52 _ (ne_k h_20 h_24 (i := 10000100) (j := 6) rfl rfl (by decide)) (ne_k h_20 h_27 (i := 10000100) (j := 1061) rfl rfl (by decide))).trans h_20
  have h_69 : M_49 pe2 = some (.inl (cI, 100, .inl pd2)) := (fr_52 _ (ne_k h_21 h_24 (i := 1100) (j := 6) rfl rfl (by decide)) (ne_k h_21 h_27 (i := 1100) (j := 1061) rfl rfl (by decide))).trans h_21
  have h_70 : M_49 tu2 = some (.inl (cI, 100, .inl ud2)) := (fr_52 _ (ne_k h_22 h_24 (i := 1100) (j := 6) rfl rfl (by decide)) (ne_k h_22 h_27 (i := 1100) (j := 1061) rfl rfl (by decide))).trans h_22
  have h_71 : M_49 ra2 = some (.inl (cI, 0, .inl rd2)) := (fr_52 _ (ne_k h_23 h_24 (i := 1000) (j := 6) rfl rfl (by decide)) (ne_k h_23 h_27 (i := 1000) (j := 1061) rfl rfl (by decide))).trans h_23
  have h_72 : M_49 (ad 1) = some (.inl (cL, 16, .inr (.inl f))) := (fr_52 _ (ne_k h_25 h_24 (i := 100016) (j := 6) rfl rfl (by decide)) (ad_ne hinj (i := 1) (j := 5) (by decide) (by decide) (by decide))).trans h_25
  have h_73 : M_49 (ad 2) = some (.inl (cL, 16, .inr (.inl vkept))) := (fr_52 _ (ne_k h_26 h_24 (i := 100016) (j := 6) rfl rfl (by decide)) (ad_ne hinj (i := 2) (j := 5) (by decide) (by decide) (by decide))).trans h_26
  have h_74 : M_49 (ad 6) = some (.inl (cI, 61, .inl vgos)) := (fr_52 _ (ne_k h_28 h_24 (i := 1061) (j := 6) rfl rfl (by decide)) (ad_ne hinj (i := 6) (j := 5) (by decide) (by decide) (by decide))).trans h_28
  have h_75 : M_49 (ad 7) = some (.inl (cI, 61, .inl vfrom)) := (fr_52 _ (ne_k h_29 h_24 (i := 1061) (j := 6) rfl rfl (by decide)) (ad_ne hinj (i := 7) (j := 5) (by decide) (by decide) (by decide))).trans h_29
  have h_76 : M_49 (ad 8) = some (.inl (cI, 61, .inl vto)) := (fr_52 _ (ne_k h_30 h_24 (i := 1061) (j := 6) rfl rfl (by decide)) (ad_ne hinj (i := 8) (j := 5) (by decide) (by decide) (by decide))).trans h_30
  have h_77 : M_49 (ad 9) = some (.inl (cI, 61, .inl vkind)) := (fr_52 _ (ne_k h_31 h_24 (i := 1061) (j := 6) rfl rfl (by decide)) (ad_ne hinj (i := 9) (j := 5) (by decide) (by decide) (by decide))).trans h_31
  have h_78 : M_49 (ad 10) = some (.inl (cI, 61, .inl vtimes)) := (fr_52 _ (ne_k h_32 h_24 (i := 1061) (j := 6) rfl rfl (by decide)) (ad_ne hinj (i := 10) (j := 5) (by decide) (by decide) (by decide))).trans h_32
  have h_79 : M_49 (ad 11) = some (.inl (cI, 61, .inl vcond)) := (fr_52 _ (ne_k h_33 h_24 (i := 1061) (j := 6) rfl rfl (by decide)) (ad_ne hinj (i := 11) (j := 5) (by decide) (by decide) (by decide))).trans h_33
  have h_80 : M_49 (ad 12) = some (.inl (cI, 61, .inl vlev)) := (fr_52 _ (ne_k h_34 h_24 (i := 1061) (j := 6) rfl rfl (by decide)) (ad_ne hinj (i := 12) (j := 5) (by decide) (by decide) (by decide))).trans h_34
  have h_81 : M_49 (ad 13) = some (.inl (cB, 61, .inl vask)) := (fr_52 _ (ne_k h_35 h_24 (i := 1061) (j := 6) rfl rfl (by decide)) (ad_ne hinj (i := 13) (j := 5) (by decide) (by decide) (by decide))).trans h_35
  have h_82 : M_49 (ad 14) = some (.inl (cI, 488, .inl vcc)) := (fr_52 _ (ne_k h_36 h_24 (i := 1488) (j := 6) rfl rfl (by decide)) (ad_ne hinj (i := 14) (j := 5) (by decide) (by decide) (by decide))).trans h_36
  have h_83 : M_49 (ad 15) = some (.inl (cI, 488, .inl vvar)) := (fr_52 _ (ne_k h_37 h_24 (i := 1488) (j := 6) rfl rfl (by decide)) (ad_ne hinj (i := 15) (j := 5) (by decide) (by decide) (by decide))).trans h_37
  have h_84 : M_49 (ad 16) = some (.inl (cL, 488, .inr (.inl vleast))) := (fr_52 _ (ne_k h_38 h_24 (i := 100488) (j := 6) rfl rfl (by decide)) (ad_ne hinj (i := 16) (j := 5) (by decide) (by decide) (by decide))).trans h_38
  have h_85 : M_49 (ad 17) = some (.inl (cL, 488, .inr (.inl vfirst))) := (fr_52 _ (ne_k h_39 h_24 (i := 100488) (j := 6) rfl rfl (by decide)) (ad_ne hinj (i := 17) (j := 5) (by decide) (by decide) (by decide))).trans h_39
  have h_86 : M_49 (ad 18) = some (.inl (cL, 488, .inr (.inl vstep))) := (fr_52 _ (ne_k h_40 h_24 (i := 100488) (j := 6) rfl rfl (by decide)) (ad_ne hinj (i := 18) (j := 5) (by decide) (by decide) (by decide))).trans h_40
  have h_87 : M_49 (ad 19) = some (.inl (cI, 101, .inl vpile)) := (fr_52 _ (ne_k h_41 h_24 (i := 1101) (j := 6) rfl rfl (by decide)) (ad_ne hinj (i := 19) (j := 5) (by decide) (by decide) (by decide))).trans h_41
  have h_88 : M_49 (ad 20) = some (.inl (cI, 101, .inl vcall)) := (fr_52 _ (ne_k h_42 h_24 (i := 1101) (j := 6) rfl rfl (by decide)) (ad_ne hinj (i := 20) (j := 5) (by decide) (by decide) (by decide))).trans h_42
  have h_89 : M_49 (ad 21) = some (.inl (cI, 101, .inl vleft)) := (fr_52 _ (ne_k h_43 h_24 (i := 1101) (j := 6) rfl rfl (by decide)) (ad_ne hinj (i := 21) (j := 5) (by decide) (by decide) (by decide))).trans h_43
  have h_90 : M_49 (ad 26) = some (.inl (cI, 4097, .inl vord)) := (fr_52 _ (ne_k h_44 h_24 (i := 5097) (j := 6) rfl rfl (by decide)) (ad_ne hinj (i := 26) (j := 5) (by decide) (by decide) (by decide))).trans h_44
  have h_91 : M_49 (ad 31) = some (.inl (cI, 4097, .inl vlord)) := (fr_52 _ (ne_k h_45 h_24 (i := 5097) (j := 6) rfl rfl (by decide)) (ad_ne hinj (i := 31) (j := 5) (by decide) (by decide) (by decide))).trans h_45
  have h_92 : M_49 (ad 32) = some (.inl (cI, 101, .inl vlpile)) := (fr_52 _ (ne_k h_46 h_24 (i := 1101) (j := 6) rfl rfl (by decide)) (ad_ne hinj (i := 32) (j := 5) (by decide) (by decide) (by decide))).trans h_46
  have h_93 : M_49 ou = some (.inl (cL, 1, .inr (.inl fo))) := (fr_52 _ (ne_k h_47 h_24 (i := 100001) (j := 6) rfl rfl (by decide)) (ne_k h_47 h_27 (i := 100001) (j := 1061) rfl rfl (by decide))).trans h_47
  have h_94 : M_49 dg = some (.inl (cI, 60, .inl (sp_addParagraph_dg np dd x1))) := (fr_52 _ (ne_k h_2 h_24 (i := 1060) (j := 6) rfl rfl (by decide)) (ne_k h_2 h_27 (i := 1060) (j := 1061) rfl rfl (by decide))).trans h_2
  have h_95 : M_49 pg = some (.inr (3, [.ref dg, .ref gg, .ref tg0, .int (sp_addParagraph_pg_3 np x1), .int ns])) := (fr_52 _ (ne_k h_3 h_24 (i := 3) (j := 6) rfl rfl (by decide)) (ne_k h_3 h_27 (i := 3) (j := 1061) rfl rfl (by decide))).trans h_3
  have hp_96 := hp_48.keep (M' := M_49) (fun q e he ht => fr_52 q (ne_p he ht h_24 (j := 6) rfl (by decide)) (ne_p he ht h_27 (j := 1061) rfl (by decide)))
  refine V.widen (k := k0 + 0) (n := n0 + 0) (Nat.le_refl _) (Nat.le_refl _) ?_
  refine V.brT (pc' := 127) (tgt := 844) (lv_icmp_eq X.1 X.2.1 d_Law_law_124 (by decide)) (e_par HP x1).1 ?_
  have HE := e_par HP x1
  rw [← HE.2.1] at h_50
  refine V.widen (k := k0 + 6) (n := n0 + 47) (Nat.add_le_add_left (by decide) k0) (Nat.add_le_add_left (by decide) n0) ?_
  exact K (INV.mk h_53 h_95 h_54 h_55 h_94 h_56 h_57 h_58 h_59 h_60 h_61 h_62 h_63 h_64 h_65 h_66 h_67 h_68 h_69 h_70 h_71 h_50 h_72 h_73 h_51 h_74 h_75 h_76 h_77 h_78 h_79 h_80 h_81 h_82 h_83 h_84 h_85 h_86 h_87 h_88 h_89 h_90 h_91 h_92 h_93 hp_96 hj HE.2.2 HQ HR)

set_option maxHeartbeats 4000000 in
set_option maxRecDepth 100000 in
theorem k_perfN {p : Program} {l : Launch} {e : Env} {s : State} {m : MethodId} {args : Array Value} {below : List Frame} {meth : Method} {c : Code} {D : va_G} {Q : State → Prop} {z : Cond} {b L : Nat} {xs : Nat → Int32} {i : Int32} {k0 n0 : Nat} {cI cL cQ cB : ClassId} {px pg lt tr dg gg tg0 ce va pi la pe tu ra ce2 va2 pi2 la2 pe2 tu2 ra2 mo ou : Nat} {ad : Nat → Nat} {M : mp} {sa u1 u2 u3 u4 u5 : Nat → Nat} {σ : Nat → Stm} {np : Int32} {ns : Int32} {ln : Int32} {en : Int32} {ln2 : Int32} {en2 : Int32} {hh : Int32} {hi : Int32} {hh2 : Int32} {hi2 : Int32} {dd : Nat → Int32} {gd : Nat → Int32} {f : Nat → Int64} {f2 : Nat → Int64} {lo : Nat → Option Nat} {lo2 : Nat → Option Nat} {pd : Nat → Int32} {ud : Nat → Int32} {rd : Nat → Int32} {pd2 : Nat → Int32} {ud2 : Nat → Int32} {rd2 : Nat → Int32} {fo : Nat → Int64} {xcode : Int32} {vkept : Nat → Int64} {vdoes : Nat → Int32} {vgos : Nat → Int32} {vfrom : Nat → Int32} {vto : Nat → Int32} {vkind : Nat → Int32} {vtimes : Nat → Int32} {vcond : Nat → Int32} {vlev : Nat → Int32} {vask : Nat → Int32} {vcc : Nat → Int32} {vvar : Nat → Int32} {vleast : Nat → Int64} {vfirst : Nat → Int64} {vstep : Nat → Int64} {vpile : Nat → Int32} {vcall : Nat → Int32} {vleft : Nat → Int32} {xsize : Int32} {xmost : Int32} {xend : Int32} {xran : Int32} {vord : Nat → Int32} {vlord : Nat → Int32} {vlpile : Nat → Int32} {x1 x2 x3 x4 x5 x6 x7 : Int32} (A : LX p l m c s args z D cI cL cQ cB b L xs px pg lt tr dg gg tg0 ce va pi la pe tu ra ce2 va2 pi2 la2 pe2 tu2 ra2 mo ou ad) (hk : k0 + 6 ≤ room_1.cells) (hn : n0 + 47 ≤ room_1.slots) (hs : SX L xs i x1 x2 x3 x4 x5 x6 x7) (I0 : INV cI cL cQ cB px pg lt tr dg gg tg0 ce va pi la pe tu ra ce2 va2 pi2 la2 pe2 tu2 ra2 mo ou ad sa u1 u2 u3 u4 u5 σ np ns ln en ln2 en2 hh hi hh2 hi2 dd gd f f2 lo lo2 pd ud rd pd2 ud2 rd2 fo xcode vkept vdoes vgos vfrom vto vkind vtimes vcond vlev vask vcc vvar vleast vfirst vstep vpile vcall vleft xsize xmost xend xran vord vlord vlpile M) (K : ∀ {M : mp} {sa u1 u2 u3 u4 u5 : Nat → Nat} {σ : Nat → Stm} {np : Int32} {ns : Int32} {ln : Int32} {en : Int32} {ln2 : Int32} {en2 : Int32} {hh : Int32} {hi : Int32} {hh2 : Int32} {hi2 : Int32} {dd : Nat → Int32} {gd : Nat → Int32} {f : Nat → Int64} {f2 : Nat → Int64} {lo : Nat → Option Nat} {lo2 : Nat → Option Nat} {pd : Nat → Int32} {ud : Nat → Int32} {rd : Nat → Int32} {pd2 : Nat → Int32} {ud2 : Nat → Int32} {rd2 : Nat → Int32} {fo : Nat → Int64} {xcode : Int32} {vkept : Nat → Int64} {vdoes : Nat → Int32} {vgos : Nat → Int32} {vfrom : Nat → Int32} {vto : Nat → Int32} {vkind : Nat → Int32} {vtimes : Nat → Int32} {vcond : Nat → Int32} {vlev : Nat → Int32} {vask : Nat → Int32} {vcc : Nat → Int32} {vvar : Nat → Int32} {vleast : Nat → Int64} {vfirst : Nat → Int64} {vstep : Nat → Int64} {vpile : Nat → Int32} {vcall : Nat → Int32} {vleft : Nat → Int32} {xsize : Int32} {xmost : Int32} {xend : Int32} {xran : Int32} {vord : Nat → Int32} {vlord : Nat → Int32} {vlpile : Nat → Int32}, INV cI cL cQ cB px pg lt tr dg gg tg0 ce va pi la pe tu ra ce2 va2 pi2 la2 pe2 tu2 ra2 mo ou ad sa u1 u2 u3 u4 u5 σ np ns ln en ln2 en2 hh hi hh2 hi2 dd gd f f2 lo lo2 pd ud rd pd2 ud2 rd2 fo xcode vkept vdoes vgos vfrom vto vkind vtimes vcond vlev vask vcc vvar vleast vfirst vstep vpile vcall vleft xsize xmost xend xran vord vlord vlpile M → V p l e room_1 s m args below meth c s.heap D cls7 Q 8 M (k0 + 6) (n0 + 47) 844 [(0, .ref b), (1, .ref px), (2, .ref mo), (3, .ref ou), (4, .int i)] []) (hN : (sp_isParagraph np x1) = 0 ∨ (sp_isParagraph np x2) = 0 ∨ x3 < 0 ∨ 3 < x3 ∨ ¬ (sp_isFullOfStatements ns) = 0) : V p l e room_1 s m args below meth c s.heap D cls7 Q 8 M k0 n0 129 [(0, .ref b), (1, .ref px), (2, .ref mo), (3, .ref ou), (4, .int i)] [] := by
  obtain ⟨X, hK, hZ, hfl, hX, hbl, hinj, ne0, ne1, ne2, ne3, ne4, ne5, ne6, ne7, ne8, ne9, ne10, ne11, ne12, ne13, ne14, ne15⟩ := A
  obtain ⟨g_px, g_pg, g_lt, g_tr, g_dg, g_gg, g_tg0, g_ce, g_va, g_pi, g_la, g_pe, g_tu, g_ra, g_ce2, g_va2, g_pi2, g_la2, g_pe2, g_tu2, g_ra2, g_mo, g_ad1, g_ad2, g_ad5, g_ad6, g_ad7, g_ad8, g_ad9, g_ad10, g_ad11, g_ad12, g_ad13, g_ad14, g_ad15, g_ad16, g_ad17, g_ad18, g_ad19, g_ad20, g_ad21, g_ad26, g_ad31, g_ad32, g_ou, hp, hj, HP, HQ, HR⟩ := I0
  obtain ⟨hs1, hs2, hs3, hs4, hs5, hs6, hs7⟩ := hs
  have hσ := rp_sl HP
  have hlo := HR.2.2.2.1
  have hlo2 := HR.2.2.2.2.1
  refine V.widen (k := k0 + 0) (n := n0 + 0) (Nat.le_refl _) (Nat.le_refl _) ?_
  refine V.rd (pc' := 130) (fun hl => lv_aload_n X.1 X.2.1 d_Law_law_129 rfl (lv_at hl 1 rfl)) ?_
  refine V.rd (pc' := 131) (fun hl => lv_aload_n X.1 X.2.1 d_Law_law_130 rfl (lv_at hl 0 rfl)) ?_
  refine V.rd (pc' := 133) (fun hl => lv_iload X.1 X.2.1 d_Law_law_131 (lv_at hl 4 rfl)) ?_
  refine V.go (pc' := 134) (lv_iconst (v := 1) X.1 X.2.1 d_Law_law_133 (by decide)) ?_
  refine V.go (pc' := 135) (lv_iadd X.1 X.2.1 d_Law_law_134) ?_
  refine V.scr (pc' := 136) X hX hbl hs1.1 hs1.2 d_Law_law_135 rfl ?_
  refine V.rd (pc' := 137) (fun hl => lv_aload_n X.1 X.2.1 d_Law_law_136 rfl (lv_at hl 0 rfl)) ?_
  refine V.rd (pc' := 139) (fun hl => lv_iload X.1 X.2.1 d_Law_law_137 (lv_at hl 4 rfl)) ?_
  refine V.go (pc' := 140) (lv_iconst (v := 2) X.1 X.2.1 d_Law_law_139 (by decide)) ?_
  refine V.go (pc' := 141) (lv_iadd X.1 X.2.1 d_Law_law_140) ?_
  refine V.scr (pc' := 142) X hX hbl hs2.1 hs2.2 d_Law_law_141 rfl ?_
  refine V.rd (pc' := 143) (fun hl => lv_aload_n X.1 X.2.1 d_Law_law_142 rfl (lv_at hl 0 rfl)) ?_
  refine V.rd (pc' := 145) (fun hl => lv_iload X.1 X.2.1 d_Law_law_143 (lv_at hl 4 rfl)) ?_
  refine V.go (pc' := 146) (lv_iconst (v := 3) X.1 X.2.1 d_Law_law_145 (by decide)) ?_
  refine V.go (pc' := 147) (lv_iadd X.1 X.2.1 d_Law_law_146) ?_
  refine V.scr (pc' := 148) X hX hbl hs3.1 hs3.2 d_Law_law_147 rfl ?_
  refine V.rd (pc' := 149) (fun hl => lv_aload_n X.1 X.2.1 d_Law_law_148 rfl (lv_at hl 0 rfl)) ?_
  refine V.rd (pc' := 151) (fun hl => lv_iload X.1 X.2.1 d_Law_law_149 (lv_at hl 4 rfl)) ?_
  refine V.go (pc' := 152) (lv_iconst (v := 4) X.1 X.2.1 d_Law_law_151 (by decide)) ?_
  refine V.go (pc' := 153) (lv_iadd X.1 X.2.1 d_Law_law_152) ?_
  refine V.scr (pc' := 154) X hX hbl hs4.1 hs4.2 d_Law_law_153 rfl ?_
  refine V.callV0 (pc' := 157) X hK (c_PR_performN  (px := px) (pg := pg) (lt := lt) (tr := tr) (dg := dg) (gg := gg) (tg0 := tg0) (np := np) (ns := ns) (x := x1) (y := x2) (kd := x3) (tm := x4) hN  g_px g_pg g_tg0  ) g_px rfl (cwG (n := 4) X (mcs wx_8) (mcs wx_9) (mcs wx_10) (mcs wd_289) wx_11 (by decide +kernel) (by decide) (by decide)) rfl rfl (Nat.le_of_ble_eq_true rfl) d_Law_law_154 ⟨lk hk (A := 0) (c := 0) (by decide), lk hn (A := 0) (c := 0) (by decide)⟩ rfl (st1 := [.int (-1)]) rfl ?_
  refine V.widen (k := k0 + 0) (n := n0 + 0) (Nat.le_refl _) (Nat.le_refl _) ?_
  refine V.rd (pc' := 158) (fun hl => lv_aload_n X.1 X.2.1 d_Law_law_157 rfl (lv_at hl 2 rfl)) ?_
  refine V.rd (pc' := 159) (fun hl => lv_aload_n X.1 X.2.1 d_Law_law_158 rfl (lv_at hl 0 rfl)) ?_
  refine V.rd (pc' := 161) (fun hl => lv_iload X.1 X.2.1 d_Law_law_159 (lv_at hl 4 rfl)) ?_
  refine V.go (pc' := 162) (lv_iconst (v := 1) X.1 X.2.1 d_Law_law_161 (by decide)) ?_
  refine V.go (pc' := 163) (lv_iadd X.1 X.2.1 d_Law_law_162) ?_
  refine V.scr (pc' := 164) X hX hbl hs1.1 hs1.2 d_Law_law_163 rfl ?_
  refine V.rd (pc' := 165) (fun hl => lv_aload_n X.1 X.2.1 d_Law_law_164 rfl (lv_at hl 0 rfl)) ?_
  refine V.rd (pc' := 167) (fun hl => lv_iload X.1 X.2.1 d_Law_law_165 (lv_at hl 4 rfl)) ?_
  refine V.go (pc' := 168) (lv_iconst (v := 2) X.1 X.2.1 d_Law_law_167 (by decide)) ?_
  refine V.go (pc' := 169) (lv_iadd X.1 X.2.1 d_Law_law_168) ?_
  refine V.scr (pc' := 170) X hX hbl hs2.1 hs2.2 d_Law_law_169 rfl ?_
  refine V.rd (pc' := 171) (fun hl => lv_aload_n X.1 X.2.1 d_Law_law_170 rfl (lv_at hl 0 rfl)) ?_
  refine V.rd (pc' := 173) (fun hl => lv_iload X.1 X.2.1 d_Law_law_171 (lv_at hl 4 rfl)) ?_
  refine V.go (pc' := 174) (lv_iconst (v := 3) X.1 X.2.1 d_Law_law_173 (by decide)) ?_
  refine V.go (pc' := 175) (lv_iadd X.1 X.2.1 d_Law_law_174) ?_
  refine V.scr (pc' := 176) X hX hbl hs3.1 hs3.2 d_Law_law_175 rfl ?_
  refine V.rd (pc' := 177) (fun hl => lv_aload_n X.1 X.2.1 d_Law_law_176 rfl (lv_at hl 0 rfl)) ?_
  refine V.rd (pc' := 179) (fun hl => lv_iload X.1 X.2.1 d_Law_law_177 (lv_at hl 4 rfl)) ?_
  refine V.go (pc' := 180) (lv_iconst (v := 4) X.1 X.2.1 d_Law_law_179 (by decide)) ?_
  refine V.go (pc' := 181) (lv_iadd X.1 X.2.1 d_Law_law_180) ?_
  refine V.scr (pc' := 182) X hX hbl hs4.1 hs4.2 d_Law_law_181 rfl ?_
  refine V.callV (pc' := 185) X hK (c_M_perform hinj (mo := mo) (xcode := xcode) (np := np) (ns := ns) (xsize := xsize) (xmost := xmost) (xend := xend) (xran := xran) (yend := en) (ysize := hh) (ymost := hi) (yran := ln) (vfrom := vfrom) (vto := vto) (vkind := vkind) (vtimes := vtimes) (x := x1) (y := x2) (kd := x3) (tm := x4) ⟨HP.1.1.2.2.1, HP.1.1.2.2.2⟩  g_mo g_ad7 g_ad8 g_ad9 g_ad10  ) g_mo rfl (cwG (n := 4) X (mcs wx_12) (mcs wx_13) (mcs wx_14) (mcs wd_174) wx_15 (by decide +kernel) (by decide) (by decide)) rfl rfl (Nat.le_of_ble_eq_true rfl) d_Law_law_182 ⟨lk hk (A := 0) (c := 0) (by decide), lk hn (A := 0) (c := 0) (by decide)⟩ rfl (st1 := [.int (sp_M_perform np ns x1 x2 x3), .int (-1)]) rfl (fun M_2 ⟨h_3, h_4, h_5, h_6, h_7, fr_8⟩ => ?_)
  have h_9 : M_2 px = some (.inr (5, [.ref pg, .ref lt, .ref tr])) := (fr_8 _ (ne_k g_px g_mo (i := 5) (j := 6) rfl rfl (by decide)) (ne_k g_px g_ad7 (i := 5) (j := 1061) rfl rfl (by decide)) (ne_k g_px g_ad8 (i := 5) (j := 1061) rfl rfl (by decide)) (ne_k g_px g_ad9 (i := 5) (j := 1061) rfl rfl (by decide)) (ne_k g_px g_ad10 (i := 5) (j := 1061) rfl rfl (by decide))).trans g_px
  have h_10 : M_2 pg = some (.inr (3, [.ref dg, .ref gg, .ref tg0, .int np, .int ns])) := (fr_8 _ (ne_k g_pg g_mo (i := 3) (j := 6) rfl rfl (by decide)) (ne_k g_pg g_ad7 (i := 3) (j := 1061) rfl rfl (by decide)) (ne_k g_pg g_ad8 (i := 3) (j := 1061) rfl rfl (by decide)) (ne_k g_pg g_ad9 (i := 3) (j := 1061) rfl rfl (by decide)) (ne_k g_pg g_ad10 (i := 3) (j := 1061) rfl rfl (by decide))).trans g_pg
  have h_11 : M_2 lt = some (.inr (1, [.ref pg, .ref ce, .ref pi, .ref ra, .int ln, .int en])) := (fr_8 _ (ne_k g_lt g_mo (i := 1) (j := 6) rfl rfl (by decide)) (ne_k g_lt g_ad7 (i := 1) (j := 1061) rfl rfl (by decide)) (ne_k g_lt g_ad8 (i := 1) (j := 1061) rfl rfl (by decide)) (ne_k g_lt g_ad9 (i := 1) (j := 1061) rfl rfl (by decide)) (ne_k g_lt g_ad10 (i := 1) (j := 1061) rfl rfl (by decide))).trans g_lt
  have h_12 : M_2 tr = some (.inr (1, [.ref pg, .ref ce2, .ref pi2, .ref ra2, .int ln2, .int en2])) := (fr_8 _ (ne_k g_tr g_mo (i := 1) (j := 6) rfl rfl (by decide)) (ne_k g_tr g_ad7 (i := 1) (j := 1061) rfl rfl (by decide)) (ne_k g_tr g_ad8 (i := 1) (j := 1061) rfl rfl (by decide)) (ne_k g_tr g_ad9 (i := 1) (j := 1061) rfl rfl (by decide)) (ne_k g_tr g_ad10 (i := 1) (j := 1061) rfl rfl (by decide))).trans g_tr
  have h_13 : M_2 dg = some (.inl (cI, 60, .inl dd)) := (fr_8 _ (ne_k g_dg g_mo (i := 1060) (j := 6) rfl rfl (by decide)) (ne_k g_dg g_ad7 (i := 1060) (j := 1061) rfl rfl (by decide)) (ne_k g_dg g_ad8 (i := 1060) (j := 1061) rfl rfl (by decide)) (ne_k g_dg g_ad9 (i := 1060) (j := 1061) rfl rfl (by decide)) (ne_k g_dg g_ad10 (i := 1060) (j := 1061) rfl rfl (by decide))).trans g_dg
  have h_14 : M_2 gg = some (.inl (cI, 60, .inl gd)) := (fr_8 _ (ne_k g_gg g_mo (i := 1060) (j := 6) rfl rfl (by decide)) (ne_k g_gg g_ad7 (i := 1060) (j := 1061) rfl rfl (by decide)) (ne_k g_gg g_ad8 (i := 1060) (j := 1061) rfl rfl (by decide)) (ne_k g_gg g_ad9 (i := 1060) (j := 1061) rfl rfl (by decide)) (ne_k g_gg g_ad10 (i := 1060) (j := 1061) rfl rfl (by decide))).trans g_gg
  have h_15 : M_2 tg0 = some (.inl (cQ, 60, .inr (.inr (.inr (.inr (tdOf ns sa)))))) := (fr_8 _ (ne_k g_tg0 g_mo (i := 10000060) (j := 6) rfl rfl (by decide)) (ne_k g_tg0 g_ad7 (i := 10000060) (j := 1061) rfl rfl (by decide)) (ne_k g_tg0 g_ad8 (i := 10000060) (j := 1061) rfl rfl (by decide)) (ne_k g_tg0 g_ad9 (i := 10000060) (j := 1061) rfl rfl (by decide)) (ne_k g_tg0 g_ad10 (i := 10000060) (j := 1061) rfl rfl (by decide))).trans g_tg0
  have h_16 : M_2 ce = some (.inr (0, [.ref va])) := (fr_8 _ (ne_k g_ce g_mo (i := 0) (j := 6) rfl rfl (by decide)) (ne_k g_ce g_ad7 (i := 0) (j := 1061) rfl rfl (by decide)) (ne_k g_ce g_ad8 (i := 0) (j := 1061) rfl rfl (by decide)) (ne_k g_ce g_ad9 (i := 0) (j := 1061) rfl rfl (by decide)) (ne_k g_ce g_ad10 (i := 0) (j := 1061) rfl rfl (by decide))).trans g_ce
  have h_17 : M_2 va = some (.inl (cL, 16, .inr (.inl f))) := (fr_8 _ (ne_k g_va g_mo (i := 100016) (j := 6) rfl rfl (by decide)) (ne_k g_va g_ad7 (i := 100016) (j := 1061) rfl rfl (by decide)) (ne_k g_va g_ad8 (i := 100016) (j := 1061) rfl rfl (by decide)) (ne_k g_va g_ad9 (i := 100016) (j := 1061) rfl rfl (by decide)) (ne_k g_va g_ad10 (i := 100016) (j := 1061) rfl rfl (by decide))).trans g_va
  have h_18 : M_2 pi = some (.inr (2, [.ref la, .ref pe, .ref tu, .int hh, .int hi])) := (fr_8 _ (ne_k g_pi g_mo (i := 2) (j := 6) rfl rfl (by decide)) (ne_k g_pi g_ad7 (i := 2) (j := 1061) rfl rfl (by decide)) (ne_k g_pi g_ad8 (i := 2) (j := 1061) rfl rfl (by decide)) (ne_k g_pi g_ad9 (i := 2) (j := 1061) rfl rfl (by decide)) (ne_k g_pi g_ad10 (i := 2) (j := 1061) rfl rfl (by decide))).trans g_pi
  have h_19 : M_2 la = some (.inl (cQ, 100, .inr (.inr (.inr (.inr (lq lo sa)))))) := (fr_8 _ (ne_k g_la g_mo (i := 10000100) (j := 6) rfl rfl (by decide)) (ne_k g_la g_ad7 (i := 10000100) (j := 1061) rfl rfl (by decide)) (ne_k g_la g_ad8 (i := 10000100) (j := 1061) rfl rfl (by decide)) (ne_k g_la g_ad9 (i := 10000100) (j := 1061) rfl rfl (by decide)) (ne_k g_la g_ad10 (i := 10000100) (j := 1061) rfl rfl (by decide))).trans g_la
  have h_20 : M_2 pe = some (.inl (cI, 100, .inl pd)) := (fr_8 _ (ne_k g_pe g_mo (i := 1100) (j := 6) rfl rfl (by decide)) (ne_k g_pe g_ad7 (i := 1100) (j := 1061) rfl rfl (by decide)) (ne_k g_pe g_ad8 (i := 1100) (j := 1061) rfl rfl (by decide)) (ne_k g_pe g_ad9 (i := 1100) (j := 1061) rfl rfl (by decide)) (ne_k g_pe g_ad10 (i := 1100) (j := 1061) rfl rfl (by decide))).trans g_pe
  have h_21 : M_2 tu = some (.inl (cI, 100, .inl ud)) := (fr_8 _ (ne_k g_tu g_mo (i := 1100) (j := 6) rfl rfl (by decide)) (ne_k g_tu g_ad7 (i := 1100) (j := 1061) rfl rfl (by decide)) (ne_k g_tu g_ad8 (i := 1100) (j := 1061) rfl rfl (by decide)) (ne_k g_tu g_ad9 (i := 1100) (j := 1061) rfl rfl (by decide)) (ne_k g_tu g_ad10 (i := 1100) (j := 1061) rfl rfl (by decide))).trans g_tu
  have h_22 : M_2 ra = some (.inl (cI, 4096, .inl rd)) := (fr_8 _ (ne_k g_ra g_mo (i := 5096) (j := 6) rfl rfl (by decide)) (ne_k g_ra g_ad7 (i := 5096) (j := 1061) rfl rfl (by decide)) (ne_k g_ra g_ad8 (i := 5096) (j := 1061) rfl rfl (by decide)) (ne_k g_ra g_ad9 (i := 5096) (j := 1061) rfl rfl (by decide)) (ne_k g_ra g_ad10 (i := 5096) (j := 1061) rfl rfl (by decide))).trans g_ra
  have h_23 : M_2 ce2 = some (.inr (0, [.ref va2])) := (fr_8 _ (ne_k g_ce2 g_mo (i := 0) (j := 6) rfl rfl (by decide)) (ne_k g_ce2 g_ad7 (i := 0) (j := 1061) rfl rfl (by decide)) (ne_k g_ce2 g_ad8 (i := 0) (j := 1061) rfl rfl (by decide)) (ne_k g_ce2 g_ad9 (i := 0) (j := 1061) rfl rfl (by decide)) (ne_k g_ce2 g_ad10 (i := 0) (j := 1061) rfl rfl (by decide))).trans g_ce2
  have h_24 : M_2 va2 = some (.inl (cL, 16, .inr (.inl f2))) := (fr_8 _ (ne_k g_va2 g_mo (i := 100016) (j := 6) rfl rfl (by decide)) (ne_k g_va2 g_ad7 (i := 100016) (j := 1061) rfl rfl (by decide)) (ne_k g_va2 g_ad8 (i := 100016) (j := 1061) rfl rfl (by decide)) (ne_k g_va2 g_ad9 (i := 100016) (j := 1061) rfl rfl (by decide)) (ne_k g_va2 g_ad10 (i := 100016) (j := 1061) rfl rfl (by decide))).trans g_va2
  have h_25 : M_2 pi2 = some (.inr (2, [.ref la2, .ref pe2, .ref tu2, .int hh2, .int hi2])) := (fr_8 _ (ne_k g_pi2 g_mo (i := 2) (j := 6) rfl rfl (by decide)) (ne_k g_pi2 g_ad7 (i := 2) (j := 1061) rfl rfl (by decide)) (ne_k g_pi2 g_ad8 (i := 2) (j := 1061) rfl rfl (by decide)) (ne_k g_pi2 g_ad9 (i := 2) (j := 1061) rfl rfl (by decide)) (ne_k g_pi2 g_ad10 (i := 2) (j := 1061) rfl rfl (by decide))).trans g_pi2
  have h_26 : M_2 la2 = some (.inl (cQ, 100, .inr (.inr (.inr (.inr (lq lo2 sa)))))) := (fr_8 _ (ne_k g_la2 g_mo (i := 10000100) (j := 6) rfl rfl (by decide)) (ne_k g_la2 g_ad7 (i := 10000100) (j := 1061) rfl rfl (by decide)) (ne_k g_la2 g_ad8 (i := 10000100) (j := 1061) rfl rfl (by decide)) (ne_k g_la2 g_ad9 (i := 10000100) (j := 1061) rfl rfl (by decide)) (ne_k g_la2 g_ad10 (i := 10000100) (j := 1061) rfl rfl (by decide))).trans g_la2
  have h_27 : M_2 pe2 = some (.inl (cI, 100, .inl pd2)) := (fr_8 _ (ne_k g_pe2 g_mo (i := 1100) (j := 6) rfl rfl (by decide)) (ne_k g_pe2 g_ad7 (i := 1100) (j := 1061) rfl rfl (by decide)) (ne_k g_pe2 g_ad8 (i := 1100) (j := 1061) rfl rfl (by decide)) (ne_k g_pe2 g_ad9 (i := 1100) (j := 1061) rfl rfl (by decide)) (ne_k g_pe2 g_ad10 (i := 1100) (j := 1061) rfl rfl (by decide))).trans g_pe2
  have h_28 : M_2 tu2 = some (.inl (cI, 100, .inl ud2)) := (fr_8 _ (ne_k g_tu2 g_mo (i := 1100) (j := 6) rfl rfl (by decide)) (ne_k g_tu2 g_ad7 (i := 1100) (j := 1061) rfl rfl (by decide)) (ne_k g_tu2 g_ad8 (i := 1100) (j := 1061) rfl rfl (by decide)) (ne_k g_tu2 g_ad9 (i := 1100) (j := 1061) rfl rfl (by decide)) (ne_k g_tu2 g_ad10 (i := 1100) (j := 1061) rfl rfl (by decide))).trans g_tu2
  have h_29 : M_2 ra2 = some (.inl (cI, 0, .inl rd2)) := (fr_8 _ (ne_k g_ra2 g_mo (i := 1000) (j := 6) rfl rfl (by decide)) (ne_k g_ra2 g_ad7 (i := 1000) (j := 1061) rfl rfl (by decide)) (ne_k g_ra2 g_ad8 (i := 1000) (j := 1061) rfl rfl (by decide)) (ne_k g_ra2 g_ad9 (i := 1000) (j := 1061) rfl rfl (by decide)) (ne_k g_ra2 g_ad10 (i := 1000) (j := 1061) rfl rfl (by decide))).trans g_ra2
  have h_30 : M_2 (ad 1) = some (.inl (cL, 16, .inr (.inl f))) := (fr_8 _ (ne_k g_ad1 g_mo (i := 100016) (j := 6) rfl rfl (by decide)) (ad_ne hinj (i := 1) (j := 7) (by decide) (by decide) (by decide)) (ad_ne hinj (i := 1) (j := 8) (by decide) (by decide) (by decide)) (ad_ne hinj (i := 1) (j := 9) (by decide) (by decide) (by decide)) (ad_ne hinj (i := 1) (j := 10) (by decide) (by decide) (by decide))).trans g_ad1
  have h_31 : M_2 (ad 2) = some (.inl (cL, 16, .inr (.inl vkept))) := (fr_8 _ (ne_k g_ad2 g_mo (i := 100016) (j := 6) rfl rfl (by decide)) (ad_ne hinj (i := 2) (j := 7) (by decide) (by decide) (by decide)) (ad_ne hinj (i := 2) (j := 8) (by decide) (by decide) (by decide)) (ad_ne hinj (i := 2) (j := 9) (by decide) (by decide) (by decide)) (ad_ne hinj (i := 2) (j := 10) (by decide) (by decide) (by decide))).trans g_ad2
  have h_32 : M_2 (ad 5) = some (.inl (cI, 61, .inl vdoes)) := (fr_8 _ (ne_k g_ad5 g_mo (i := 1061) (j := 6) rfl rfl (by decide)) (ad_ne hinj (i := 5) (j := 7) (by decide) (by decide) (by decide)) (ad_ne hinj (i := 5) (j := 8) (by decide) (by decide) (by decide)) (ad_ne hinj (i := 5) (j := 9) (by decide) (by decide) (by decide)) (ad_ne hinj (i := 5) (j := 10) (by decide) (by decide) (by decide))).trans g_ad5
  have h_33 : M_2 (ad 6) = some (.inl (cI, 61, .inl vgos)) := (fr_8 _ (ne_k g_ad6 g_mo (i := 1061) (j := 6) rfl rfl (by decide)) (ad_ne hinj (i := 6) (j := 7) (by decide) (by decide) (by decide)) (ad_ne hinj (i := 6) (j := 8) (by decide) (by decide) (by decide)) (ad_ne hinj (i := 6) (j := 9) (by decide) (by decide) (by decide)) (ad_ne hinj (i := 6) (j := 10) (by decide) (by decide) (by decide))).trans g_ad6
  have h_34 : M_2 (ad 11) = some (.inl (cI, 61, .inl vcond)) := (fr_8 _ (ne_k g_ad11 g_mo (i := 1061) (j := 6) rfl rfl (by decide)) (ad_ne hinj (i := 11) (j := 7) (by decide) (by decide) (by decide)) (ad_ne hinj (i := 11) (j := 8) (by decide) (by decide) (by decide)) (ad_ne hinj (i := 11) (j := 9) (by decide) (by decide) (by decide)) (ad_ne hinj (i := 11) (j := 10) (by decide) (by decide) (by decide))).trans g_ad11
  have h_35 : M_2 (ad 12) = some (.inl (cI, 61, .inl vlev)) := (fr_8 _ (ne_k g_ad12 g_mo (i := 1061) (j := 6) rfl rfl (by decide)) (ad_ne hinj (i := 12) (j := 7) (by decide) (by decide) (by decide)) (ad_ne hinj (i := 12) (j := 8) (by decide) (by decide) (by decide)) (ad_ne hinj (i := 12) (j := 9) (by decide) (by decide) (by decide)) (ad_ne hinj (i := 12) (j := 10) (by decide) (by decide) (by decide))).trans g_ad12
  have h_36 : M_2 (ad 13) = some (.inl (cB, 61, .inl vask)) := (fr_8 _ (ne_k g_ad13 g_mo (i := 1061) (j := 6) rfl rfl (by decide)) (ad_ne hinj (i := 13) (j := 7) (by decide) (by decide) (by decide)) (ad_ne hinj (i := 13) (j := 8) (by decide) (by decide) (by decide)) (ad_ne hinj (i := 13) (j := 9) (by decide) (by decide) (by decide)) (ad_ne hinj (i := 13) (j := 10) (by decide) (by decide) (by decide))).trans g_ad13
  have h_37 : M_2 (ad 14) = some (.inl (cI, 488, .inl vcc)) := (fr_8 _ (ne_k g_ad14 g_mo (i := 1488) (j := 6) rfl rfl (by decide)) (ad_ne hinj (i := 14) (j := 7) (by decide) (by decide) (by decide)) (ad_ne hinj (i := 14) (j := 8) (by decide) (by decide) (by decide)) (ad_ne hinj (i := 14) (j := 9) (by decide) (by decide) (by decide)) (ad_ne hinj (i := 14) (j := 10) (by decide) (by decide) (by decide))).trans g_ad14
  have h_38 : M_2 (ad 15) = some (.inl (cI, 488, .inl vvar)) := (fr_8 _ (ne_k g_ad15 g_mo (i := 1488) (j := 6) rfl rfl (by decide)) (ad_ne hinj (i := 15) (j := 7) (by decide) (by decide) (by decide)) (ad_ne hinj (i := 15) (j := 8) (by decide) (by decide) (by decide)) (ad_ne hinj (i := 15) (j := 9) (by decide) (by decide) (by decide)) (ad_ne hinj (i := 15) (j := 10) (by decide) (by decide) (by decide))).trans g_ad15
  have h_39 : M_2 (ad 16) = some (.inl (cL, 488, .inr (.inl vleast))) := (fr_8 _ (ne_k g_ad16 g_mo (i := 100488) (j := 6) rfl rfl (by decide)) (ad_ne hinj (i := 16) (j := 7) (by decide) (by decide) (by decide)) (ad_ne hinj (i := 16) (j := 8) (by decide) (by decide) (by decide)) (ad_ne hinj (i := 16) (j := 9) (by decide) (by decide) (by decide)) (ad_ne hinj (i := 16) (j := 10) (by decide) (by decide) (by decide))).trans g_ad16
  have h_40 : M_2 (ad 17) = some (.inl (cL, 488, .inr (.inl vfirst))) := (fr_8 _ (ne_k g_ad17 g_mo (i := 100488) (j := 6) rfl rfl (by decide)) (ad_ne hinj (i := 17) (j := 7) (by decide) (by decide) (by decide)) (ad_ne hinj (i := 17) (j := 8) (by decide) (by decide) (by decide)) (ad_ne hinj (i := 17) (j := 9) (by decide) (by decide) (by decide)) (ad_ne hinj (i := 17) (j := 10) (by decide) (by decide) (by decide))).trans g_ad17
  have h_41 : M_2 (ad 18) = some (.inl (cL, 488, .inr (.inl vstep))) := (fr_8 _ (ne_k g_ad18 g_mo (i := 100488) (j := 6) rfl rfl (by decide)) (ad_ne hinj (i := 18) (j := 7) (by decide) (by decide) (by decide)) (ad_ne hinj (i := 18) (j := 8) (by decide) (by decide) (by decide)) (ad_ne hinj (i := 18) (j := 9) (by decide) (by decide) (by decide)) (ad_ne hinj (i := 18) (j := 10) (by decide) (by decide) (by decide))).trans g_ad18
  have h_42 : M_2 (ad 19) = some (.inl (cI, 101, .inl vpile)) := (fr_8 _ (ne_k g_ad19 g_mo (i := 1101) (j := 6) rfl rfl (by decide)) (ad_ne hinj (i := 19) (j := 7) (by decide) (by decide) (by decide)) (ad_ne hinj (i := 19) (j := 8) (by decide) (by decide) (by decide)) (ad_ne hinj (i := 19) (j := 9) (by decide) (by decide) (by decide)) (ad_ne hinj (i := 19) (j := 10) (by decide) (by decide) (by decide))).trans g_ad19
  have h_43 : M_2 (ad 20) = some (.inl (cI, 101, .inl vcall)) := (fr_8 _ (ne_k g_ad20 g_mo (i := 1101) (j := 6) rfl rfl (by decide)) (ad_ne hinj (i := 20) (j := 7) (by decide) (by decide) (by decide)) (ad_ne hinj (i := 20) (j := 8) (by decide) (by decide) (by decide)) (ad_ne hinj (i := 20) (j := 9) (by decide) (by decide) (by decide)) (ad_ne hinj (i := 20) (j := 10) (by decide) (by decide) (by decide))).trans g_ad20
  have h_44 : M_2 (ad 21) = some (.inl (cI, 101, .inl vleft)) := (fr_8 _ (ne_k g_ad21 g_mo (i := 1101) (j := 6) rfl rfl (by decide)) (ad_ne hinj (i := 21) (j := 7) (by decide) (by decide) (by decide)) (ad_ne hinj (i := 21) (j := 8) (by decide) (by decide) (by decide)) (ad_ne hinj (i := 21) (j := 9) (by decide) (by decide) (by decide)) (ad_ne hinj (i := 21) (j := 10) (by decide) (by decide) (by decide))).trans g_ad21
  have h_45 : M_2 (ad 26) = some (.inl (cI, 4097, .inl vord)) := (fr_8 _ (ne_k g_ad26 g_mo (i := 5097) (j := 6) rfl rfl (by decide)) (ad_ne hinj (i := 26) (j := 7) (by decide) (by decide) (by decide)) (ad_ne hinj (i := 26) (j := 8) (by decide) (by decide) (by decide)) (ad_ne hinj (i := 26) (j := 9) (by decide) (by decide) (by decide)) (ad_ne hinj (i := 26) (j := 10) (by decide) (by decide) (by decide))).trans g_ad26
  have h_46 : M_2 (ad 31) = some (.inl (cI, 4097, .inl vlord)) := (fr_8 _ (ne_k g_ad31 g_mo (i := 5097) (j := 6) rfl rfl (by decide)) (ad_ne hinj (i := 31) (j := 7) (by decide) (by decide) (by decide)) (ad_ne hinj (i := 31) (j := 8) (by decide) (by decide) (by decide)) (ad_ne hinj (i := 31) (j := 9) (by decide) (by decide) (by decide)) (ad_ne hinj (i := 31) (j := 10) (by decide) (by decide) (by decide))).trans g_ad31
  have h_47 : M_2 (ad 32) = some (.inl (cI, 101, .inl vlpile)) := (fr_8 _ (ne_k g_ad32 g_mo (i := 1101) (j := 6) rfl rfl (by decide)) (ad_ne hinj (i := 32) (j := 7) (by decide) (by decide) (by decide)) (ad_ne hinj (i := 32) (j := 8) (by decide) (by decide) (by decide)) (ad_ne hinj (i := 32) (j := 9) (by decide) (by decide) (by decide)) (ad_ne hinj (i := 32) (j := 10) (by decide) (by decide) (by decide))).trans g_ad32
  have h_48 : M_2 ou = some (.inl (cL, 1, .inr (.inl fo))) := (fr_8 _ (ne_k g_ou g_mo (i := 100001) (j := 6) rfl rfl (by decide)) (ne_k g_ou g_ad7 (i := 100001) (j := 1061) rfl rfl (by decide)) (ne_k g_ou g_ad8 (i := 100001) (j := 1061) rfl rfl (by decide)) (ne_k g_ou g_ad9 (i := 100001) (j := 1061) rfl rfl (by decide)) (ne_k g_ou g_ad10 (i := 100001) (j := 1061) rfl rfl (by decide))).trans g_ou
  have hp_49 := hp.keep (M' := M_2) (fun q e he ht => fr_8 q (ne_p he ht g_mo (j := 6) rfl (by decide)) (ne_p he ht g_ad7 (j := 1061) rfl (by decide)) (ne_p he ht g_ad8 (j := 1061) rfl (by decide)) (ne_p he ht g_ad9 (j := 1061) rfl (by decide)) (ne_p he ht g_ad10 (j := 1061) rfl (by decide)))
  refine V.widen (k := k0 + 0) (n := n0 + 0) (Nat.le_refl _) (Nat.le_refl _) ?_
  refine V.brT (pc' := 188) (tgt := 844) (lv_icmp_eq X.1 X.2.1 d_Law_law_185 (by decide)) (e_performN (vfrom := vfrom) (vto := vto) (vkind := vkind) (vtimes := vtimes) HP.1.1.2.1 HP.1.1.2.2.2 hN x4).1.symm ?_
  have HE := e_performN (vfrom := vfrom) (vto := vto) (vkind := vkind) (vtimes := vtimes) HP.1.1.2.1 HP.1.1.2.2.2 hN x4
  rw [HE.2.1] at h_3
  rw [HE.2.2.1] at h_4
  rw [HE.2.2.2.1] at h_5
  rw [HE.2.2.2.2.1] at h_6
  rw [HE.2.2.2.2.2] at h_7
  refine V.widen (k := k0 + 6) (n := n0 + 47) (Nat.add_le_add_left (by decide) k0) (Nat.add_le_add_left (by decide) n0) ?_
  exact K (INV.mk h_9 h_10 h_11 h_12 h_13 h_14 h_15 h_16 h_17 h_18 h_19 h_20 h_21 h_22 h_23 h_24 h_25 h_26 h_27 h_28 h_29 h_3 h_30 h_31 h_32 h_33 h_4 h_5 h_6 h_7 h_34 h_35 h_36 h_37 h_38 h_39 h_40 h_41 h_42 h_43 h_44 h_45 h_46 h_47 h_48 hp_49 hj HP HQ HR)

set_option maxHeartbeats 4000000 in
set_option maxRecDepth 100000 in
theorem k_perf {p : Program} {l : Launch} {e : Env} {s : State} {m : MethodId} {args : Array Value} {below : List Frame} {meth : Method} {c : Code} {D : va_G} {Q : State → Prop} {z : Cond} {b L : Nat} {xs : Nat → Int32} {i : Int32} {k0 n0 : Nat} {cI cL cQ cB : ClassId} {px pg lt tr dg gg tg0 ce va pi la pe tu ra ce2 va2 pi2 la2 pe2 tu2 ra2 mo ou : Nat} {ad : Nat → Nat} {M : mp} {sa u1 u2 u3 u4 u5 : Nat → Nat} {σ : Nat → Stm} {np : Int32} {ns : Int32} {ln : Int32} {en : Int32} {ln2 : Int32} {en2 : Int32} {hh : Int32} {hi : Int32} {hh2 : Int32} {hi2 : Int32} {dd : Nat → Int32} {gd : Nat → Int32} {f : Nat → Int64} {f2 : Nat → Int64} {lo : Nat → Option Nat} {lo2 : Nat → Option Nat} {pd : Nat → Int32} {ud : Nat → Int32} {rd : Nat → Int32} {pd2 : Nat → Int32} {ud2 : Nat → Int32} {rd2 : Nat → Int32} {fo : Nat → Int64} {xcode : Int32} {vkept : Nat → Int64} {vdoes : Nat → Int32} {vgos : Nat → Int32} {vfrom : Nat → Int32} {vto : Nat → Int32} {vkind : Nat → Int32} {vtimes : Nat → Int32} {vcond : Nat → Int32} {vlev : Nat → Int32} {vask : Nat → Int32} {vcc : Nat → Int32} {vvar : Nat → Int32} {vleast : Nat → Int64} {vfirst : Nat → Int64} {vstep : Nat → Int64} {vpile : Nat → Int32} {vcall : Nat → Int32} {vleft : Nat → Int32} {xsize : Int32} {xmost : Int32} {xend : Int32} {xran : Int32} {vord : Nat → Int32} {vlord : Nat → Int32} {vlpile : Nat → Int32} {x1 x2 x3 x4 x5 x6 x7 : Int32} (A : LX p l m c s args z D cI cL cQ cB b L xs px pg lt tr dg gg tg0 ce va pi la pe tu ra ce2 va2 pi2 la2 pe2 tu2 ra2 mo ou ad) (hk : k0 + 6 ≤ room_1.cells) (hn : n0 + 47 ≤ room_1.slots) (hs : SX L xs i x1 x2 x3 x4 x5 x6 x7) (I0 : INV cI cL cQ cB px pg lt tr dg gg tg0 ce va pi la pe tu ra ce2 va2 pi2 la2 pe2 tu2 ra2 mo ou ad sa u1 u2 u3 u4 u5 σ np ns ln en ln2 en2 hh hi hh2 hi2 dd gd f f2 lo lo2 pd ud rd pd2 ud2 rd2 fo xcode vkept vdoes vgos vfrom vto vkind vtimes vcond vlev vask vcc vvar vleast vfirst vstep vpile vcall vleft xsize xmost xend xran vord vlord vlpile M) (K : ∀ {M : mp} {sa u1 u2 u3 u4 u5 : Nat → Nat} {σ : Nat → Stm} {np : Int32} {ns : Int32} {ln : Int32} {en : Int32} {ln2 : Int32} {en2 : Int32} {hh : Int32} {hi : Int32} {hh2 : Int32} {hi2 : Int32} {dd : Nat → Int32} {gd : Nat → Int32} {f : Nat → Int64} {f2 : Nat → Int64} {lo : Nat → Option Nat} {lo2 : Nat → Option Nat} {pd : Nat → Int32} {ud : Nat → Int32} {rd : Nat → Int32} {pd2 : Nat → Int32} {ud2 : Nat → Int32} {rd2 : Nat → Int32} {fo : Nat → Int64} {xcode : Int32} {vkept : Nat → Int64} {vdoes : Nat → Int32} {vgos : Nat → Int32} {vfrom : Nat → Int32} {vto : Nat → Int32} {vkind : Nat → Int32} {vtimes : Nat → Int32} {vcond : Nat → Int32} {vlev : Nat → Int32} {vask : Nat → Int32} {vcc : Nat → Int32} {vvar : Nat → Int32} {vleast : Nat → Int64} {vfirst : Nat → Int64} {vstep : Nat → Int64} {vpile : Nat → Int32} {vcall : Nat → Int32} {vleft : Nat → Int32} {xsize : Int32} {xmost : Int32} {xend : Int32} {xran : Int32} {vord : Nat → Int32} {vlord : Nat → Int32} {vlpile : Nat → Int32}, INV cI cL cQ cB px pg lt tr dg gg tg0 ce va pi la pe tu ra ce2 va2 pi2 la2 pe2 tu2 ra2 mo ou ad sa u1 u2 u3 u4 u5 σ np ns ln en ln2 en2 hh hi hh2 hi2 dd gd f f2 lo lo2 pd ud rd pd2 ud2 rd2 fo xcode vkept vdoes vgos vfrom vto vkind vtimes vcond vlev vask vcc vvar vleast vfirst vstep vpile vcall vleft xsize xmost xend xran vord vlord vlpile M → V p l e room_1 s m args below meth c s.heap D cls7 Q 8 M (k0 + 6) (n0 + 47) 844 [(0, .ref b), (1, .ref px), (2, .ref mo), (3, .ref ou), (4, .int i)] []) (hx1 : ¬ (sp_isParagraph np x1) = 0) (hx2 : ¬ (sp_isParagraph np x2) = 0) (hx3 : ¬ x3 < 0) (hx4 : ¬ 3 < x3) (hx5 : (sp_isFullOfStatements ns) = 0) : V p l e room_1 s m args below meth c s.heap D cls7 Q 8 M k0 n0 129 [(0, .ref b), (1, .ref px), (2, .ref mo), (3, .ref ou), (4, .int i)] [] := by
  obtain ⟨X, hK, hZ, hfl, hX, hbl, hinj, ne0, ne1, ne2, ne3, ne4, ne5, ne6, ne7, ne8, ne9, ne10, ne11, ne12, ne13, ne14, ne15⟩ := A
  obtain ⟨g_px, g_pg, g_lt, g_tr, g_dg, g_gg, g_tg0, g_ce, g_va, g_pi, g_la, g_pe, g_tu, g_ra, g_ce2, g_va2, g_pi2, g_la2, g_pe2, g_tu2, g_ra2, g_mo, g_ad1, g_ad2, g_ad5, g_ad6, g_ad7, g_ad8, g_ad9, g_ad10, g_ad11, g_ad12, g_ad13, g_ad14, g_ad15, g_ad16, g_ad17, g_ad18, g_ad19, g_ad20, g_ad21, g_ad26, g_ad31, g_ad32, g_ou, hp, hj, HP, HQ, HR⟩ := I0
  obtain ⟨hs1, hs2, hs3, hs4, hs5, hs6, hs7⟩ := hs
  have hσ := rp_sl HP
  have hlo := HR.2.2.2.1
  have hlo2 := HR.2.2.2.2.1
  have HE := e_perform (tm := x4) HP HQ HR hx1 hx2 hx3 hx4 hx5
  refine V.widen (k := k0 + 0) (n := n0 + 0) (Nat.le_refl _) (Nat.le_refl _) ?_
  refine V.rd (pc' := 130) (fun hl => lv_aload_n X.1 X.2.1 d_Law_law_129 rfl (lv_at hl 1 rfl)) ?_
  refine V.rd (pc' := 131) (fun hl => lv_aload_n X.1 X.2.1 d_Law_law_130 rfl (lv_at hl 0 rfl)) ?_
  refine V.rd (pc' := 133) (fun hl => lv_iload X.1 X.2.1 d_Law_law_131 (lv_at hl 4 rfl)) ?_
  refine V.go (pc' := 134) (lv_iconst (v := 1) X.1 X.2.1 d_Law_law_133 (by decide)) ?_
  refine V.go (pc' := 135) (lv_iadd X.1 X.2.1 d_Law_law_134) ?_
  refine V.scr (pc' := 136) X hX hbl hs1.1 hs1.2 d_Law_law_135 rfl ?_
  refine V.rd (pc' := 137) (fun hl => lv_aload_n X.1 X.2.1 d_Law_law_136 rfl (lv_at hl 0 rfl)) ?_
  refine V.rd (pc' := 139) (fun hl => lv_iload X.1 X.2.1 d_Law_law_137 (lv_at hl 4 rfl)) ?_
  refine V.go (pc' := 140) (lv_iconst (v := 2) X.1 X.2.1 d_Law_law_139 (by decide)) ?_
  refine V.go (pc' := 141) (lv_iadd X.1 X.2.1 d_Law_law_140) ?_
  refine V.scr (pc' := 142) X hX hbl hs2.1 hs2.2 d_Law_law_141 rfl ?_
  refine V.rd (pc' := 143) (fun hl => lv_aload_n X.1 X.2.1 d_Law_law_142 rfl (lv_at hl 0 rfl)) ?_
  refine V.rd (pc' := 145) (fun hl => lv_iload X.1 X.2.1 d_Law_law_143 (lv_at hl 4 rfl)) ?_
  refine V.go (pc' := 146) (lv_iconst (v := 3) X.1 X.2.1 d_Law_law_145 (by decide)) ?_
  refine V.go (pc' := 147) (lv_iadd X.1 X.2.1 d_Law_law_146) ?_
  refine V.scr (pc' := 148) X hX hbl hs3.1 hs3.2 d_Law_law_147 rfl ?_
  refine V.rd (pc' := 149) (fun hl => lv_aload_n X.1 X.2.1 d_Law_law_148 rfl (lv_at hl 0 rfl)) ?_
  refine V.rd (pc' := 151) (fun hl => lv_iload X.1 X.2.1 d_Law_law_149 (lv_at hl 4 rfl)) ?_
  refine V.go (pc' := 152) (lv_iconst (v := 4) X.1 X.2.1 d_Law_law_151 (by decide)) ?_
  refine V.go (pc' := 153) (lv_iadd X.1 X.2.1 d_Law_law_152) ?_
  refine V.scr (pc' := 154) X hX hbl hs4.1 hs4.2 d_Law_law_153 rfl ?_
  refine V.callV (pc' := 157) X hK (c_PR_perform  (px := px) (pg := pg) (lt := lt) (tr := tr) (dg := dg) (gg := gg) (tg0 := tg0) (np := np) (ns := ns) (x := x1) (y := x2) (kd := x3) (tm := x4) HP.1.1.2.2.1 hx1 hx2 hx3 hx4 hx5  g_px g_pg g_tg0  ) g_px rfl (cwG (n := 4) X (mcs wx_8) (mcs wx_9) (mcs wx_10) (mcs wd_289) wx_11 (by decide +kernel) (by decide) (by decide)) rfl rfl (Nat.le_of_ble_eq_true rfl) d_Law_law_154 ⟨lk hk (A := 0) (c := 6) (by decide), lk hn (A := 0) (c := 47) (by decide)⟩ rfl (st1 := [.int (ns + 1)]) rfl (fun M_1 ⟨q_5, q_6, q_7, q_8, q_9, q_10, z_11, z_12, z_13, z_14, z_15, z_16, n_17, n_18, n_19, n_20, n_21, n_22, n_23, n_24, n_25, n_26, n_27, n_28, n_29, n_30, n_31, h_2, h_3, h_32, h_33, h_34, h_35, h_36, h_37, fr_4⟩ => ?_)
  have n_38 : px ≠ q_5 := ne_z g_px z_11
  have n_39 : pg ≠ q_5 := ne_z g_pg z_11
  have n_40 : lt ≠ q_5 := ne_z g_lt z_11
  have n_41 : tr ≠ q_5 := ne_z g_tr z_11
  have n_42 : dg ≠ q_5 := ne_z g_dg z_11
  have n_43 : gg ≠ q_5 := ne_z g_gg z_11
  have n_44 : tg0 ≠ q_5 := ne_z g_tg0 z_11
  have n_45 : ce ≠ q_5 := ne_z g_ce z_11
  have n_46 : va ≠ q_5 := ne_z g_va z_11
  have n_47 : pi ≠ q_5 := ne_z g_pi z_11
  have n_48 : la ≠ q_5 := ne_z g_la z_11
  have n_49 : pe ≠ q_5 := ne_z g_pe z_11
  have n_50 : tu ≠ q_5 := ne_z g_tu z_11
  have n_51 : ra ≠ q_5 := ne_z g_ra z_11
  have n_52 : ce2 ≠ q_5 := ne_z g_ce2 z_11
  have n_53 : va2 ≠ q_5 := ne_z g_va2 z_11
  have n_54 : pi2 ≠ q_5 := ne_z g_pi2 z_11
  have n_55 : la2 ≠ q_5 := ne_z g_la2 z_11
  have n_56 : pe2 ≠ q_5 := ne_z g_pe2 z_11
  have n_57 : tu2 ≠ q_5 := ne_z g_tu2 z_11
  have n_58 : ra2 ≠ q_5 := ne_z g_ra2 z_11
  have n_59 : mo ≠ q_5 := ne_z g_mo z_11
  have n_60 : (ad 1) ≠ q_5 := ne_z g_ad1 z_11
  have n_61 : (ad 2) ≠ q_5 := ne_z g_ad2 z_11
  have n_62 : (ad 5) ≠ q_5 := ne_z g_ad5 z_11
  have n_63 : (ad 6) ≠ q_5 := ne_z g_ad6 z_11
  have n_64 : (ad 7) ≠ q_5 := ne_z g_ad7 z_11
  have n_65 : (ad 8) ≠ q_5 := ne_z g_ad8 z_11
  have n_66 : (ad 9) ≠ q_5 := ne_z g_ad9 z_11
  have n_67 : (ad 10) ≠ q_5 := ne_z g_ad10 z_11
  have n_68 : (ad 11) ≠ q_5 := ne_z g_ad11 z_11
  have n_69 : (ad 12) ≠ q_5 := ne_z g_ad12 z_11
  have n_70 : (ad 13) ≠ q_5 := ne_z g_ad13 z_11
  have n_71 : (ad 14) ≠ q_5 := ne_z g_ad14 z_11
  have n_72 : (ad 15) ≠ q_5 := ne_z g_ad15 z_11
  have n_73 : (ad 16) ≠ q_5 := ne_z g_ad16 z_11
  have n_74 : (ad 17) ≠ q_5 := ne_z g_ad17 z_11
  have n_75 : (ad 18) ≠ q_5 := ne_z g_ad18 z_11
  have n_76 : (ad 19) ≠ q_5 := ne_z g_ad19 z_11
  have n_77 : (ad 20) ≠ q_5 := ne_z g_ad20 z_11
  have n_78 : (ad 21) ≠ q_5 := ne_z g_ad21 z_11
  have n_79 : (ad 26) ≠ q_5 := ne_z g_ad26 z_11
  have n_80 : (ad 31) ≠ q_5 := ne_z g_ad31 z_11
  have n_81 : (ad 32) ≠ q_5 := ne_z g_ad32 z_11
  have n_82 : ou ≠ q_5 := ne_z g_ou z_11
  have n_83 : px ≠ q_6 := ne_z g_px z_12
  have n_84 : pg ≠ q_6 := ne_z g_pg z_12
  have n_85 : lt ≠ q_6 := ne_z g_lt z_12
  have n_86 : tr ≠ q_6 := ne_z g_tr z_12
  have n_87 : dg ≠ q_6 := ne_z g_dg z_12
  have n_88 : gg ≠ q_6 := ne_z g_gg z_12
  have n_89 : tg0 ≠ q_6 := ne_z g_tg0 z_12
  have n_90 : ce ≠ q_6 := ne_z g_ce z_12
  have n_91 : va ≠ q_6 := ne_z g_va z_12
  have n_92 : pi ≠ q_6 := ne_z g_pi z_12
  have n_93 : la ≠ q_6 := ne_z g_la z_12
  have n_94 : pe ≠ q_6 := ne_z g_pe z_12
  have n_95 : tu ≠ q_6 := ne_z g_tu z_12
  have n_96 : ra ≠ q_6 := ne_z g_ra z_12
  have n_97 : ce2 ≠ q_6 := ne_z g_ce2 z_12
  have n_98 : va2 ≠ q_6 := ne_z g_va2 z_12
  have n_99 : pi2 ≠ q_6 := ne_z g_pi2 z_12
  have n_100 : la2 ≠ q_6 := ne_z g_la2 z_12
  have n_101 : pe2 ≠ q_6 := ne_z g_pe2 z_12
  have n_102 : tu2 ≠ q_6 := ne_z g_tu2 z_12
  have n_103 : ra2 ≠ q_6 := ne_z g_ra2 z_12
  have n_104 : mo ≠ q_6 := ne_z g_mo z_12
  have n_105 : (ad 1) ≠ q_6 := ne_z g_ad1 z_12
  have n_106 : (ad 2) ≠ q_6 := ne_z g_ad2 z_12
  have n_107 : (ad 5) ≠ q_6 := ne_z g_ad5 z_12
  have n_108 : (ad 6) ≠ q_6 := ne_z g_ad6 z_12
  have n_109 : (ad 7) ≠ q_6 := ne_z g_ad7 z_12
  have n_110 : (ad 8) ≠ q_6 := ne_z g_ad8 z_12
  have n_111 : (ad 9) ≠ q_6 := ne_z g_ad9 z_12
  have n_112 : (ad 10) ≠ q_6 := ne_z g_ad10 z_12
  have n_113 : (ad 11) ≠ q_6 := ne_z g_ad11 z_12
  have n_114 : (ad 12) ≠ q_6 := ne_z g_ad12 z_12
  have n_115 : (ad 13) ≠ q_6 := ne_z g_ad13 z_12
  have n_116 : (ad 14) ≠ q_6 := ne_z g_ad14 z_12
  have n_117 : (ad 15) ≠ q_6 := ne_z g_ad15 z_12
  have n_118 : (ad 16) ≠ q_6 := ne_z g_ad16 z_12
  have n_119 : (ad 17) ≠ q_6 := ne_z g_ad17 z_12
  have n_120 : (ad 18) ≠ q_6 := ne_z g_ad18 z_12
  have n_121 : (ad 19) ≠ q_6 := ne_z g_ad19 z_12
  have n_122 : (ad 20) ≠ q_6 := ne_z g_ad20 z_12
  have n_123 : (ad 21) ≠ q_6 := ne_z g_ad21 z_12
  have n_124 : (ad 26) ≠ q_6 := ne_z g_ad26 z_12
  have n_125 : (ad 31) ≠ q_6 := ne_z g_ad31 z_12
  have n_126 : (ad 32) ≠ q_6 := ne_z g_ad32 z_12
  have n_127 : ou ≠ q_6 := ne_z g_ou z_12
  have n_128 : px ≠ q_7 := ne_z g_px z_13
  have n_129 : pg ≠ q_7 := ne_z g_pg z_13
  have n_130 : lt ≠ q_7 := ne_z g_lt z_13
  have n_131 : tr ≠ q_7 := ne_z g_tr z_13
  have n_132 : dg ≠ q_7 := ne_z g_dg z_13
  have n_133 : gg ≠ q_7 := ne_z g_gg z_13
  have n_134 : tg0 ≠ q_7 := ne_z g_tg0 z_13
  have n_135 : ce ≠ q_7 := ne_z g_ce z_13
  have n_136 : va ≠ q_7 := ne_z g_va z_13
  have n_137 : pi ≠ q_7 := ne_z g_pi z_13
  have n_138 : la ≠ q_7 := ne_z g_la z_13
  have n_139 : pe ≠ q_7 := ne_z g_pe z_13
  have n_140 : tu ≠ q_7 := ne_z g_tu z_13
  have n_141 : ra ≠ q_7 := ne_z g_ra z_13
  have n_142 : ce2 ≠ q_7 := ne_z g_ce2 z_13
  have n_143 : va2 ≠ q_7 := ne_z g_va2 z_13
  have n_144 : pi2 ≠ q_7 := ne_z g_pi2 z_13
  have n_145 : la2 ≠ q_7 := ne_z g_la2 z_13
  have n_146 : pe2 ≠ q_7 := ne_z g_pe2 z_13
  have n_147 : tu2 ≠ q_7 := ne_z g_tu2 z_13
  have n_148 : ra2 ≠ q_7 := ne_z g_ra2 z_13
  have n_149 : mo ≠ q_7 := ne_z g_mo z_13
  have n_150 : (ad 1) ≠ q_7 := ne_z g_ad1 z_13
  have n_151 : (ad 2) ≠ q_7 := ne_z g_ad2 z_13
  have n_152 : (ad 5) ≠ q_7 := ne_z g_ad5 z_13
  have n_153 : (ad 6) ≠ q_7 := ne_z g_ad6 z_13
  have n_154 : (ad 7) ≠ q_7 := ne_z g_ad7 z_13
  have n_155 : (ad 8) ≠ q_7 := ne_z g_ad8 z_13
  have n_156 : (ad 9) ≠ q_7 := ne_z g_ad9 z_13
  have n_157 : (ad 10) ≠ q_7 := ne_z g_ad10 z_13
  have n_158 : (ad 11) ≠ q_7 := ne_z g_ad11 z_13
  have n_159 : (ad 12) ≠ q_7 := ne_z g_ad12 z_13
  have n_160 : (ad 13) ≠ q_7 := ne_z g_ad13 z_13
  have n_161 : (ad 14) ≠ q_7 := ne_z g_ad14 z_13
  have n_162 : (ad 15) ≠ q_7 := ne_z g_ad15 z_13
  have n_163 : (ad 16) ≠ q_7 := ne_z g_ad16 z_13
  have n_164 : (ad 17) ≠ q_7 := ne_z g_ad17 z_13
  have n_165 : (ad 18) ≠ q_7 := ne_z g_ad18 z_13
  have n_166 : (ad 19) ≠ q_7 := ne_z g_ad19 z_13
  have n_167 : (ad 20) ≠ q_7 := ne_z g_ad20 z_13
  have n_168 : (ad 21) ≠ q_7 := ne_z g_ad21 z_13
  have n_169 : (ad 26) ≠ q_7 := ne_z g_ad26 z_13
  have n_170 : (ad 31) ≠ q_7 := ne_z g_ad31 z_13
  have n_171 : (ad 32) ≠ q_7 := ne_z g_ad32 z_13
  have n_172 : ou ≠ q_7 := ne_z g_ou z_13
  have n_173 : px ≠ q_8 := ne_z g_px z_14
  have n_174 : pg ≠ q_8 := ne_z g_pg z_14
  have n_175 : lt ≠ q_8 := ne_z g_lt z_14
  have n_176 : tr ≠ q_8 := ne_z g_tr z_14
  have n_177 : dg ≠ q_8 := ne_z g_dg z_14
  have n_178 : gg ≠ q_8 := ne_z g_gg z_14
  have n_179 : tg0 ≠ q_8 := ne_z g_tg0 z_14
  have n_180 : ce ≠ q_8 := ne_z g_ce z_14
  have n_181 : va ≠ q_8 := ne_z g_va z_14
  have n_182 : pi ≠ q_8 := ne_z g_pi z_14
  have n_183 : la ≠ q_8 := ne_z g_la z_14
  have n_184 : pe ≠ q_8 := ne_z g_pe z_14
  have n_185 : tu ≠ q_8 := ne_z g_tu z_14
  have n_186 : ra ≠ q_8 := ne_z g_ra z_14
  have n_187 : ce2 ≠ q_8 := ne_z g_ce2 z_14
  have n_188 : va2 ≠ q_8 := ne_z g_va2 z_14
  have n_189 : pi2 ≠ q_8 := ne_z g_pi2 z_14
  have n_190 : la2 ≠ q_8 := ne_z g_la2 z_14
  have n_191 : pe2 ≠ q_8 := ne_z g_pe2 z_14
  have n_192 : tu2 ≠ q_8 := ne_z g_tu2 z_14
  have n_193 : ra2 ≠ q_8 := ne_z g_ra2 z_14
  have n_194 : mo ≠ q_8 := ne_z g_mo z_14
  have n_195 : (ad 1) ≠ q_8 := ne_z g_ad1 z_14
  have n_196 : (ad 2) ≠ q_8 := ne_z g_ad2 z_14
  have n_197 : (ad 5) ≠ q_8 := ne_z g_ad5 z_14
  have n_198 : (ad 6) ≠ q_8 := ne_z g_ad6 z_14
  have n_199 : (ad 7) ≠ q_8 := ne_z g_ad7 z_14
  have n_200 : (ad 8) ≠ q_8 := ne_z g_ad8 z_14
  have n_201 : (ad 9) ≠ q_8 := ne_z g_ad9 z_14
  have n_202 : (ad 10) ≠ q_8 := ne_z g_ad10 z_14
  have n_203 : (ad 11) ≠ q_8 := ne_z g_ad11 z_14
  have n_204 : (ad 12) ≠ q_8 := ne_z g_ad12 z_14
  have n_205 : (ad 13) ≠ q_8 := ne_z g_ad13 z_14
  have n_206 : (ad 14) ≠ q_8 := ne_z g_ad14 z_14
  have n_207 : (ad 15) ≠ q_8 := ne_z g_ad15 z_14
  have n_208 : (ad 16) ≠ q_8 := ne_z g_ad16 z_14
  have n_209 : (ad 17) ≠ q_8 := ne_z g_ad17 z_14
  have n_210 : (ad 18) ≠ q_8 := ne_z g_ad18 z_14
  have n_211 : (ad 19) ≠ q_8 := ne_z g_ad19 z_14
  have n_212 : (ad 20) ≠ q_8 := ne_z g_ad20 z_14
  have n_213 : (ad 21) ≠ q_8 := ne_z g_ad21 z_14
  have n_214 : (ad 26) ≠ q_8 := ne_z g_ad26 z_14
  have n_215 : (ad 31) ≠ q_8 := ne_z g_ad31 z_14
  have n_216 : (ad 32) ≠ q_8 := ne_z g_ad32 z_14
  have n_217 : ou ≠ q_8 := ne_z g_ou z_14
  have n_218 : px ≠ q_9 := ne_z g_px z_15
  have n_219 : pg ≠ q_9 := ne_z g_pg z_15
  have n_220 : lt ≠ q_9 := ne_z g_lt z_15
  have n_221 : tr ≠ q_9 := ne_z g_tr z_15
  have n_222 : dg ≠ q_9 := ne_z g_dg z_15
  have n_223 : gg ≠ q_9 := ne_z g_gg z_15
  have n_224 : tg0 ≠ q_9 := ne_z g_tg0 z_15
  have n_225 : ce ≠ q_9 := ne_z g_ce z_15
  have n_226 : va ≠ q_9 := ne_z g_va z_15
  have n_227 : pi ≠ q_9 := ne_z g_pi z_15
  have n_228 : la ≠ q_9 := ne_z g_la z_15
  have n_229 : pe ≠ q_9 := ne_z g_pe z_15
  have n_230 : tu ≠ q_9 := ne_z g_tu z_15
  have n_231 : ra ≠ q_9 := ne_z g_ra z_15
  have n_232 : ce2 ≠ q_9 := ne_z g_ce2 z_15
  have n_233 : va2 ≠ q_9 := ne_z g_va2 z_15
  have n_234 : pi2 ≠ q_9 := ne_z g_pi2 z_15
  have n_235 : la2 ≠ q_9 := ne_z g_la2 z_15
  have n_236 : pe2 ≠ q_9 := ne_z g_pe2 z_15
  have n_237 : tu2 ≠ q_9 := ne_z g_tu2 z_15
  have n_238 : ra2 ≠ q_9 := ne_z g_ra2 z_15
  have n_239 : mo ≠ q_9 := ne_z g_mo z_15
  have n_240 : (ad 1) ≠ q_9 := ne_z g_ad1 z_15
  have n_241 : (ad 2) ≠ q_9 := ne_z g_ad2 z_15
  have n_242 : (ad 5) ≠ q_9 := ne_z g_ad5 z_15
  have n_243 : (ad 6) ≠ q_9 := ne_z g_ad6 z_15
  have n_244 : (ad 7) ≠ q_9 := ne_z g_ad7 z_15
  have n_245 : (ad 8) ≠ q_9 := ne_z g_ad8 z_15
  have n_246 : (ad 9) ≠ q_9 := ne_z g_ad9 z_15
  have n_247 : (ad 10) ≠ q_9 := ne_z g_ad10 z_15
  have n_248 : (ad 11) ≠ q_9 := ne_z g_ad11 z_15
  have n_249 : (ad 12) ≠ q_9 := ne_z g_ad12 z_15
  have n_250 : (ad 13) ≠ q_9 := ne_z g_ad13 z_15
  have n_251 : (ad 14) ≠ q_9 := ne_z g_ad14 z_15
  have n_252 : (ad 15) ≠ q_9 := ne_z g_ad15 z_15
  have n_253 : (ad 16) ≠ q_9 := ne_z g_ad16 z_15
  have n_254 : (ad 17) ≠ q_9 := ne_z g_ad17 z_15
  have n_255 : (ad 18) ≠ q_9 := ne_z g_ad18 z_15
  have n_256 : (ad 19) ≠ q_9 := ne_z g_ad19 z_15
  have n_257 : (ad 20) ≠ q_9 := ne_z g_ad20 z_15
  have n_258 : (ad 21) ≠ q_9 := ne_z g_ad21 z_15
  have n_259 : (ad 26) ≠ q_9 := ne_z g_ad26 z_15
  have n_260 : (ad 31) ≠ q_9 := ne_z g_ad31 z_15
  have n_261 : (ad 32) ≠ q_9 := ne_z g_ad32 z_15
  have n_262 : ou ≠ q_9 := ne_z g_ou z_15
  have n_263 : px ≠ q_10 := ne_z g_px z_16
  have n_264 : pg ≠ q_10 := ne_z g_pg z_16
  have n_265 : lt ≠ q_10 := ne_z g_lt z_16
  have n_266 : tr ≠ q_10 := ne_z g_tr z_16
  have n_267 : dg ≠ q_10 := ne_z g_dg z_16
  have n_268 : gg ≠ q_10 := ne_z g_gg z_16
  have n_269 : tg0 ≠ q_10 := ne_z g_tg0 z_16
  have n_270 : ce ≠ q_10 := ne_z g_ce z_16
  have n_271 : va ≠ q_10 := ne_z g_va z_16
  have n_272 : pi ≠ q_10 := ne_z g_pi z_16
  have n_273 : la ≠ q_10 := ne_z g_la z_16
  have n_274 : pe ≠ q_10 := ne_z g_pe z_16
  have n_275 : tu ≠ q_10 := ne_z g_tu z_16
  have n_276 : ra ≠ q_10 := ne_z g_ra z_16
  have n_277 : ce2 ≠ q_10 := ne_z g_ce2 z_16
  have n_278 : va2 ≠ q_10 := ne_z g_va2 z_16
  have n_279 : pi2 ≠ q_10 := ne_z g_pi2 z_16
  have n_280 : la2 ≠ q_10 := ne_z g_la2 z_16
  have n_281 : pe2 ≠ q_10 := ne_z g_pe2 z_16
  have n_282 : tu2 ≠ q_10 := ne_z g_tu2 z_16
  have n_283 : ra2 ≠ q_10 := ne_z g_ra2 z_16
  have n_284 : mo ≠ q_10 := ne_z g_mo z_16
  have n_285 : (ad 1) ≠ q_10 := ne_z g_ad1 z_16
  have n_286 : (ad 2) ≠ q_10 := ne_z g_ad2 z_16
  have n_287 : (ad 5) ≠ q_10 := ne_z g_ad5 z_16
  have n_288 : (ad 6) ≠ q_10 := ne_z g_ad6 z_16
  have n_289 : (ad 7) ≠ q_10 := ne_z g_ad7 z_16
  have n_290 : (ad 8) ≠ q_10 := ne_z g_ad8 z_16
  have n_291 : (ad 9) ≠ q_10 := ne_z g_ad9 z_16
  have n_292 : (ad 10) ≠ q_10 := ne_z g_ad10 z_16
  have n_293 : (ad 11) ≠ q_10 := ne_z g_ad11 z_16
  have n_294 : (ad 12) ≠ q_10 := ne_z g_ad12 z_16
  have n_295 : (ad 13) ≠ q_10 := ne_z g_ad13 z_16
  have n_296 : (ad 14) ≠ q_10 := ne_z g_ad14 z_16
  have n_297 : (ad 15) ≠ q_10 := ne_z g_ad15 z_16
  have n_298 : (ad 16) ≠ q_10 := ne_z g_ad16 z_16
  have n_299 : (ad 17) ≠ q_10 := ne_z g_ad17 z_16
  have n_300 : (ad 18) ≠ q_10 := ne_z g_ad18 z_16
  have n_301 : (ad 19) ≠ q_10 := ne_z g_ad19 z_16
  have n_302 : (ad 20) ≠ q_10 := ne_z g_ad20 z_16
  have n_303 : (ad 21) ≠ q_10 := ne_z g_ad21 z_16
  have n_304 : (ad 26) ≠ q_10 := ne_z g_ad26 z_16
  have n_305 : (ad 31) ≠ q_10 := ne_z g_ad31 z_16
  have n_306 : (ad 32) ≠ q_10 := ne_z g_ad32 z_16
  have n_307 : ou ≠ q_10 := ne_z g_ou z_16
  have zb_308 : M q_5 = none := z_11
  have zb_309 : M q_6 = none := z_12
  have zb_310 : M q_7 = none := z_13
  have zb_311 : M q_8 = none := z_14
  have zb_312 : M q_9 = none := z_15
  have zb_313 : M q_10 = none := z_16
  have h_314 : M_1 px = some (.inr (5, [.ref pg, .ref lt, .ref tr])) := (fr_4 _ (ne_k g_px g_tg0 (i := 5) (j := 10000060) rfl rfl (by decide)) (ne_k g_px g_pg (i := 5) (j := 3) rfl rfl (by decide)) n_38 n_83 n_128 n_173 n_218 n_263).trans g_px
  have h_315 : M_1 lt = some (.inr (1, [.ref pg, .ref ce, .ref pi, .ref ra, .int ln, .int en])) := (fr_4 _ (ne_k g_lt g_tg0 (i := 1) (j := 10000060) rfl rfl (by decide)) (ne_k g_lt g_pg (i := 1) (j := 3) rfl rfl (by decide)) n_40 n_85 n_130 n_175 n_220 n_265).trans g_lt
  have h_316 : M_1 tr = some (.inr (1, [.ref pg, .ref ce2, .ref pi2, .ref ra2, .int ln2, .int en2])) := (fr_4 _ (ne_k g_tr g_tg0 (i := 1) (j := 10000060) rfl rfl (by decide)) (ne_k g_tr g_pg (i := 1) (j := 3) rfl rfl (by decide)) n_41 n_86 n_131 n_176 n_221 n_266).trans g_tr
  have h_317 : M_1 dg = some (.inl (cI, 60, .inl dd)) := (fr_4 _ (ne_k g_dg g_tg0 (i := 1060) (j := 10000060) rfl rfl (by decide)) (ne_k g_dg g_pg (i := 1060) (j := 3) rfl rfl (by decide)) n_42 n_87 n_132 n_177 n_222 n_267).trans g_dg
  have h_318 : M_1 gg = some (.inl (cI, 60, .inl gd)) := (fr_4 _ (ne_k g_gg g_tg0 (i := 1060) (j := 10000060) rfl rfl (by decide)) (ne_k g_gg g_pg (i := 1060) (j := 3) rfl rfl (by decide)) n_43 n_88 n_133 n_178 n_223 n_268).trans g_gg
  have h_319 : M_1 ce = some (.inr (0, [.ref va])) := (fr_4 _ (ne_k g_ce g_tg0 (i := 0) (j := 10000060) rfl rfl (by decide)) (ne_k g_ce g_pg (i := 0) (j := 3) rfl rfl (by decide)) n_45 n_90 n_135 n_180 n_225 n_270).trans g_ce
  have h_320 : M_1 va = some (.inl (cL, 16, .inr (.inl f))) := (fr_4 _ (ne_k g_va g_tg0 (i := 100016) (j := 10000060) rfl rfl (by decide)) (ne_k g_va g_pg (i := 100016) (j := 3) rfl rfl (by decide)) n_46 n_91 n_136 n_181 n_226 n_271).trans g_va
  have h_321 : M_1 pi = some (.inr (2, [.ref la, .ref pe, .ref tu, .int hh, .int hi])) := (fr_4 _ (ne_k g_pi g_tg0 (i := 2) (j := 10000060) rfl rfl (by decide)) (ne_k g_pi g_pg (i := 2) (j := 3) rfl rfl (by decide)) n_47 n_92 n_137 n_182 n_227 n_272).trans g_pi
  have h_322 : M_1 la = some (.inl (cQ, 100, .inr (.inr (.inr (.inr (lq lo sa)))))) := (fr_4 _ (ne_k g_la g_tg0 (i := 10000100) (j := 10000060) rfl rfl (by decide)) (ne_k g_la g_pg (i := 10000100) (j := 3) rfl rfl (by decide)) n_48 n_93 n_138 n_183 n_228 n_273).trans g_la
  have h_323 : M_1 pe = some (.inl (cI, 100, .inl pd)) := (fr_4 _ (ne_k g_pe g_tg0 (i := 1100) (j := 10000060) rfl rfl (by decide)) (ne_k g_pe g_pg (i := 1100) (j := 3) rfl rfl (by decide)) n_49 n_94 n_139 n_184 n_229 n_274).trans g_pe
  have h_324 : M_1 tu = some (.inl (cI, 100, .inl ud)) := (fr_4 _ (ne_k g_tu g_tg0 (i := 1100) (j := 10000060) rfl rfl (by decide)) (ne_k g_tu g_pg (i := 1100) (j := 3) rfl rfl (by decide)) n_50 n_95 n_140 n_185 n_230 n_275).trans g_tu
  have h_325 : M_1 ra = some (.inl (cI, 4096, .inl rd)) := (fr_4 _ (ne_k g_ra g_tg0 (i := 5096) (j := 10000060) rfl rfl (by decide)) (ne_k g_ra g_pg (i := 5096) (j := 3) rfl rfl (by decide)) n_51 n_96 n_141 n_186 n_231 n_276).trans g_ra
  have h_326 : M_1 ce2 = some (.inr (0, [.ref va2])) := (fr_4 _ (ne_k g_ce2 g_tg0 (i := 0) (j := 10000060) rfl rfl (by decide)) (ne_k g_ce2 g_pg (i := 0) (j := 3) rfl rfl (by decide)) n_52 n_97 n_142 n_187 n_232 n_277).trans g_ce2
  have h_327 : M_1 va2 = some (.inl (cL, 16, .inr (.inl f2))) := (fr_4 _ (ne_k g_va2 g_tg0 (i := 100016) (j := 10000060) rfl rfl (by decide)) (ne_k g_va2 g_pg (i := 100016) (j := 3) rfl rfl (by decide)) n_53 n_98 n_143 n_188 n_233 n_278).trans g_va2
  have h_328 : M_1 pi2 = some (.inr (2, [.ref la2, .ref pe2, .ref tu2, .int hh2, .int hi2])) := (fr_4 _ (ne_k g_pi2 g_tg0 (i := 2) (j := 10000060) rfl rfl (by decide)) (ne_k g_pi2 g_pg (i := 2) (j := 3) rfl rfl (by decide)) n_54 n_99 n_144 n_189 n_234 n_279).trans g_pi2
  have h_329 : M_1 la2 = some (.inl (cQ, 100, .inr (.inr (.inr (.inr (lq lo2 sa)))))) := (fr_4 _ (ne_k g_la2 g_tg0 (i := 10000100) (j := 10000060) rfl rfl (by decide)) (ne_k g_la2 g_pg (i := 10000100) (j := 3) rfl rfl (by decide)) n_55 n_100 n_145 n_190 n_235 n_280).trans g_la2
  have h_330 : M_1 pe2 = some (.inl (cI, 100, .inl pd2)) := (fr_4 _ (ne_k g_pe2 g_tg0 (i := 1100) (j := 10000060) rfl rfl (by decide)) (ne_k g_pe2 g_pg (i := 1100) (j := 3) rfl rfl (by decide)) n_56 n_101 n_146 n_191 n_236 n_281).trans g_pe2
  have h_331 : M_1 tu2 = some (.inl (cI, 100, .inl ud2)) := (fr_4 _ (ne_k g_tu2 g_tg0 (i := 1100) (j := 10000060) rfl rfl (by decide)) (ne_k g_tu2 g_pg (i := 1100) (j := 3) rfl rfl (by decide)) n_57 n_102 n_147 n_192 n_237 n_282).trans g_tu2
  have h_332 : M_1 ra2 = some (.inl (cI, 0, .inl rd2)) := (fr_4 _ (ne_k g_ra2 g_tg0 (i := 1000) (j := 10000060) rfl rfl (by decide)) (ne_k g_ra2 g_pg (i := 1000) (j := 3) rfl rfl (by decide)) n_58 n_103 n_148 n_193 n_238 n_283).trans g_ra2
  have h_333 : M_1 mo = some (.inr (6, [.int xcode, .ref (ad 1), .ref (ad 2), .int np, .int ns, .ref (ad 5), .ref (ad 6), .ref (ad 7), .ref (ad 8), .ref (ad 9), .ref (ad 10), .ref (ad 11), .ref (ad 12), .ref (ad 13), .ref (ad 14), .ref (ad 15), .ref (ad 16), .ref (ad 17), .ref (ad 18), .ref (ad 19), .ref (ad 20), .ref (ad 21), .int xsize, .int xmost, .int xend, .int xran, .ref (ad 26), .int en, .int hh, .int hi, .int ln, .ref (ad 31), .ref (ad 32)])) := (fr_4 _ (ne_k g_mo g_tg0 (i := 6) (j := 10000060) rfl rfl (by decide)) (ne_k g_mo g_pg (i := 6) (j := 3) rfl rfl (by decide)) n_59 n_104 n_149 n_194 n_239 n_284).trans g_mo
  have h_334 : M_1 (ad 1) = some (.inl (cL, 16, .inr (.inl f))) := (fr_4 _ (ne_k g_ad1 g_tg0 (i := 100016) (j := 10000060) rfl rfl (by decide)) (ne_k g_ad1 g_pg (i := 100016) (j := 3) rfl rfl (by decide)) n_60 n_105 n_150 n_195 n_240 n_285).trans g_ad1
  have h_335 : M_1 (ad 2) = some (.inl (cL, 16, .inr (.inl vkept))) := (fr_4 _ (ne_k g_ad2 g_tg0 (i := 100016) (j := 10000060) rfl rfl (by decide)) (ne_k g_ad2 g_pg (i := 100016) (j := 3) rfl rfl (by decide)) n_61 n_106 n_151 n_196 n_241 n_286).trans g_ad2
  have h_336 : M_1 (ad 5) = some (.inl (cI, 61, .inl vdoes)) := (fr_4 _ (ne_k g_ad5 g_tg0 (i := 1061) (j := 10000060) rfl rfl (by decide)) (ne_k g_ad5 g_pg (i := 1061) (j := 3) rfl rfl (by decide)) n_62 n_107 n_152 n_197 n_242 n_287).trans g_ad5
  have h_337 : M_1 (ad 6) = some (.inl (cI, 61, .inl vgos)) := (fr_4 _ (ne_k g_ad6 g_tg0 (i := 1061) (j := 10000060) rfl rfl (by decide)) (ne_k g_ad6 g_pg (i := 1061) (j := 3) rfl rfl (by decide)) n_63 n_108 n_153 n_198 n_243 n_288).trans g_ad6
  have h_338 : M_1 (ad 7) = some (.inl (cI, 61, .inl vfrom)) := (fr_4 _ (ne_k g_ad7 g_tg0 (i := 1061) (j := 10000060) rfl rfl (by decide)) (ne_k g_ad7 g_pg (i := 1061) (j := 3) rfl rfl (by decide)) n_64 n_109 n_154 n_199 n_244 n_289).trans g_ad7
  have h_339 : M_1 (ad 8) = some (.inl (cI, 61, .inl vto)) := (fr_4 _ (ne_k g_ad8 g_tg0 (i := 1061) (j := 10000060) rfl rfl (by decide)) (ne_k g_ad8 g_pg (i := 1061) (j := 3) rfl rfl (by decide)) n_65 n_110 n_155 n_200 n_245 n_290).trans g_ad8
  have h_340 : M_1 (ad 9) = some (.inl (cI, 61, .inl vkind)) := (fr_4 _ (ne_k g_ad9 g_tg0 (i := 1061) (j := 10000060) rfl rfl (by decide)) (ne_k g_ad9 g_pg (i := 1061) (j := 3) rfl rfl (by decide)) n_66 n_111 n_156 n_201 n_246 n_291).trans g_ad9
  have h_341 : M_1 (ad 10) = some (.inl (cI, 61, .inl vtimes)) := (fr_4 _ (ne_k g_ad10 g_tg0 (i := 1061) (j := 10000060) rfl rfl (by decide)) (ne_k g_ad10 g_pg (i := 1061) (j := 3) rfl rfl (by decide)) n_67 n_112 n_157 n_202 n_247 n_292).trans g_ad10
  have h_342 : M_1 (ad 11) = some (.inl (cI, 61, .inl vcond)) := (fr_4 _ (ne_k g_ad11 g_tg0 (i := 1061) (j := 10000060) rfl rfl (by decide)) (ne_k g_ad11 g_pg (i := 1061) (j := 3) rfl rfl (by decide)) n_68 n_113 n_158 n_203 n_248 n_293).trans g_ad11
  have h_343 : M_1 (ad 12) = some (.inl (cI, 61, .inl vlev)) := (fr_4 _ (ne_k g_ad12 g_tg0 (i := 1061) (j := 10000060) rfl rfl (by decide)) (ne_k g_ad12 g_pg (i := 1061) (j := 3) rfl rfl (by decide)) n_69 n_114 n_159 n_204 n_249 n_294).trans g_ad12
  have h_344 : M_1 (ad 13) = some (.inl (cB, 61, .inl vask)) := (fr_4 _ (ne_k g_ad13 g_tg0 (i := 1061) (j := 10000060) rfl rfl (by decide)) (ne_k g_ad13 g_pg (i := 1061) (j := 3) rfl rfl (by decide)) n_70 n_115 n_160 n_205 n_250 n_295).trans g_ad13
  have h_345 : M_1 (ad 14) = some (.inl (cI, 488, .inl vcc)) := (fr_4 _ (ne_k g_ad14 g_tg0 (i := 1488) (j := 10000060) rfl rfl (by decide)) (ne_k g_ad14 g_pg (i := 1488) (j := 3) rfl rfl (by decide)) n_71 n_116 n_161 n_206 n_251 n_296).trans g_ad14
  have h_346 : M_1 (ad 15) = some (.inl (cI, 488, .inl vvar)) := (fr_4 _ (ne_k g_ad15 g_tg0 (i := 1488) (j := 10000060) rfl rfl (by decide)) (ne_k g_ad15 g_pg (i := 1488) (j := 3) rfl rfl (by decide)) n_72 n_117 n_162 n_207 n_252 n_297).trans g_ad15
  have h_347 : M_1 (ad 16) = some (.inl (cL, 488, .inr (.inl vleast))) := (fr_4 _ (ne_k g_ad16 g_tg0 (i := 100488) (j := 10000060) rfl rfl (by decide)) (ne_k g_ad16 g_pg (i := 100488) (j := 3) rfl rfl (by decide)) n_73 n_118 n_163 n_208 n_253 n_298).trans g_ad16
  have h_348 : M_1 (ad 17) = some (.inl (cL, 488, .inr (.inl vfirst))) := (fr_4 _ (ne_k g_ad17 g_tg0 (i := 100488) (j := 10000060) rfl rfl (by decide)) (ne_k g_ad17 g_pg (i := 100488) (j := 3) rfl rfl (by decide)) n_74 n_119 n_164 n_209 n_254 n_299).trans g_ad17
  have h_349 : M_1 (ad 18) = some (.inl (cL, 488, .inr (.inl vstep))) := (fr_4 _ (ne_k g_ad18 g_tg0 (i := 100488) (j := 10000060) rfl rfl (by decide)) (ne_k g_ad18 g_pg (i := 100488) (j := 3) rfl rfl (by decide)) n_75 n_120 n_165 n_210 n_255 n_300).trans g_ad18
  have h_350 : M_1 (ad 19) = some (.inl (cI, 101, .inl vpile)) := (fr_4 _ (ne_k g_ad19 g_tg0 (i := 1101) (j := 10000060) rfl rfl (by decide)) (ne_k g_ad19 g_pg (i := 1101) (j := 3) rfl rfl (by decide)) n_76 n_121 n_166 n_211 n_256 n_301).trans g_ad19
  have h_351 : M_1 (ad 20) = some (.inl (cI, 101, .inl vcall)) := (fr_4 _ (ne_k g_ad20 g_tg0 (i := 1101) (j := 10000060) rfl rfl (by decide)) (ne_k g_ad20 g_pg (i := 1101) (j := 3) rfl rfl (by decide)) n_77 n_122 n_167 n_212 n_257 n_302).trans g_ad20
  have h_352 : M_1 (ad 21) = some (.inl (cI, 101, .inl vleft)) := (fr_4 _ (ne_k g_ad21 g_tg0 (i := 1101) (j := 10000060) rfl rfl (by decide)) (ne_k g_ad21 g_pg (i := 1101) (j := 3) rfl rfl (by decide)) n_78 n_123 n_168 n_213 n_258 n_303).trans g_ad21
  have h_353 : M_1 (ad 26) = some (.inl (cI, 4097, .inl vord)) := (fr_4 _ (ne_k g_ad26 g_tg0 (i := 5097) (j := 10000060) rfl rfl (by decide)) (ne_k g_ad26 g_pg (i := 5097) (j := 3) rfl rfl (by decide)) n_79 n_124 n_169 n_214 n_259 n_304).trans g_ad26
  have h_354 : M_1 (ad 31) = some (.inl (cI, 4097, .inl vlord)) := (fr_4 _ (ne_k g_ad31 g_tg0 (i := 5097) (j := 10000060) rfl rfl (by decide)) (ne_k g_ad31 g_pg (i := 5097) (j := 3) rfl rfl (by decide)) n_80 n_125 n_170 n_215 n_260 n_305).trans g_ad31
  have h_355 : M_1 (ad 32) = some (.inl (cI, 101, .inl vlpile)) := (fr_4 _ (ne_k g_ad32 g_tg0 (i := 1101) (j := 10000060) rfl rfl (by decide)) (ne_k g_ad32 g_pg (i := 1101) (j := 3) rfl rfl (by decide)) n_81 n_126 n_171 n_216 n_261 n_306).trans g_ad32
  have h_356 : M_1 ou = some (.inl (cL, 1, .inr (.inl fo))) := (fr_4 _ (ne_k g_ou g_tg0 (i := 100001) (j := 10000060) rfl rfl (by decide)) (ne_k g_ou g_pg (i := 100001) (j := 3) rfl rfl (by decide)) n_82 n_127 n_172 n_217 n_262 n_307).trans g_ou
  refine V.widen (k := k0 + 6) (n := n0 + 47) (Nat.le_refl _) (Nat.le_refl _) ?_
  refine V.rd (pc' := 158) (fun hl => lv_aload_n X.1 X.2.1 d_Law_law_157 rfl (lv_at hl 2 rfl)) ?_
  refine V.rd (pc' := 159) (fun hl => lv_aload_n X.1 X.2.1 d_Law_law_158 rfl (lv_at hl 0 rfl)) ?_
  refine V.rd (pc' := 161) (fun hl => lv_iload X.1 X.2.1 d_Law_law_159 (lv_at hl 4 rfl)) ?_
  refine V.go (pc' := 162) (lv_iconst (v := 1) X.1 X.2.1 d_Law_law_161 (by decide)) ?_
  refine V.go (pc' := 163) (lv_iadd X.1 X.2.1 d_Law_law_162) ?_
  refine V.scr (pc' := 164) X hX hbl hs1.1 hs1.2 d_Law_law_163 rfl ?_
  refine V.rd (pc' := 165) (fun hl => lv_aload_n X.1 X.2.1 d_Law_law_164 rfl (lv_at hl 0 rfl)) ?_
  refine V.rd (pc' := 167) (fun hl => lv_iload X.1 X.2.1 d_Law_law_165 (lv_at hl 4 rfl)) ?_
  refine V.go (pc' := 168) (lv_iconst (v := 2) X.1 X.2.1 d_Law_law_167 (by decide)) ?_
  refine V.go (pc' := 169) (lv_iadd X.1 X.2.1 d_Law_law_168) ?_
  refine V.scr (pc' := 170) X hX hbl hs2.1 hs2.2 d_Law_law_169 rfl ?_
  refine V.rd (pc' := 171) (fun hl => lv_aload_n X.1 X.2.1 d_Law_law_170 rfl (lv_at hl 0 rfl)) ?_
  refine V.rd (pc' := 173) (fun hl => lv_iload X.1 X.2.1 d_Law_law_171 (lv_at hl 4 rfl)) ?_
  refine V.go (pc' := 174) (lv_iconst (v := 3) X.1 X.2.1 d_Law_law_173 (by decide)) ?_
  refine V.go (pc' := 175) (lv_iadd X.1 X.2.1 d_Law_law_174) ?_
  refine V.scr (pc' := 176) X hX hbl hs3.1 hs3.2 d_Law_law_175 rfl ?_
  refine V.rd (pc' := 177) (fun hl => lv_aload_n X.1 X.2.1 d_Law_law_176 rfl (lv_at hl 0 rfl)) ?_
  refine V.rd (pc' := 179) (fun hl => lv_iload X.1 X.2.1 d_Law_law_177 (lv_at hl 4 rfl)) ?_
  refine V.go (pc' := 180) (lv_iconst (v := 4) X.1 X.2.1 d_Law_law_179 (by decide)) ?_
  refine V.go (pc' := 181) (lv_iadd X.1 X.2.1 d_Law_law_180) ?_
  refine V.scr (pc' := 182) X hX hbl hs4.1 hs4.2 d_Law_law_181 rfl ?_
  refine V.callV (pc' := 185) X hK (c_M_perform hinj (mo := mo) (xcode := xcode) (np := np) (ns := ns) (xsize := xsize) (xmost := xmost) (xend := xend) (xran := xran) (yend := en) (ysize := hh) (ymost := hi) (yran := ln) (vfrom := vfrom) (vto := vto) (vkind := vkind) (vtimes := vtimes) (x := x1) (y := x2) (kd := x3) (tm := x4) ⟨HP.1.1.2.2.1, HP.1.1.2.2.2⟩  h_333 h_338 h_339 h_340 h_341  ) h_333 rfl (cwG (n := 4) X (mcs wx_12) (mcs wx_13) (mcs wx_14) (mcs wd_174) wx_15 (by decide +kernel) (by decide) (by decide)) rfl rfl (Nat.le_of_ble_eq_true rfl) d_Law_law_182 ⟨lk hk (A := 6) (c := 0) (by decide), lk hn (A := 47) (c := 0) (by decide)⟩ rfl (st1 := [.int (sp_M_perform np ns x1 x2 x3), .int (ns + 1)]) rfl (fun M_357 ⟨h_358, h_359, h_360, h_361, h_362, fr_363⟩ => ?_)
  have h_364 : M_357 px = some (.inr (5, [.ref pg, .ref lt, .ref tr])) := (fr_363 _ (ne_k h_314 h_333 (i := 5) (j := 6) rfl rfl (by decide)) (ne_k h_314 h_338 (i := 5) (j := 1061) rfl rfl (by decide)) (ne_k h_314 h_339 (i := 5) (j := 1061) rfl rfl (by decide)) (ne_k h_314 h_340 (i := 5) (j := 1061) rfl rfl (by decide)) (ne_k h_314 h_341 (i := 5) (j := 1061) rfl rfl (by decide))).trans h_314
  have h_365 : M_357 lt = some (.inr (1, [.ref pg, .ref ce, .ref pi, .ref ra, .int ln, .int en])) := (fr_363 _ (ne_k h_315 h_333 (i := 1) (j := 6) rfl rfl (by decide)) (ne_k h_315 h_338 (i := 1) (j := 1061) rfl rfl (by decide)) (ne_k h_315 h_339 (i := 1) (j := 1061) rfl rfl (by decide)) (ne_k h_315 h_340 (i := 1) (j := 1061) rfl rfl (by decide)) (ne_k h_315 h_341 (i := 1) (j := 1061) rfl rfl (by decide))).trans h_315
  have h_366 : M_357 tr = some (.inr (1, [.ref pg, .ref ce2, .ref pi2, .ref ra2, .int ln2, .int en2])) := (fr_363 _ (ne_k h_316 h_333 (i := 1) (j := 6) rfl rfl (by decide)) (ne_k h_316 h_338 (i := 1) (j := 1061) rfl rfl (by decide)) (ne_k h_316 h_339 (i := 1) (j := 1061) rfl rfl (by decide)) (ne_k h_316 h_340 (i := 1) (j := 1061) rfl rfl (by decide)) (ne_k h_316 h_341 (i := 1) (j := 1061) rfl rfl (by decide))).trans h_316
  have h_367 : M_357 dg = some (.inl (cI, 60, .inl dd)) := (fr_363 _ (ne_k h_317 h_333 (i := 1060) (j := 6) rfl rfl (by decide)) (ne_k h_317 h_338 (i := 1060) (j := 1061) rfl rfl (by decide)) (ne_k h_317 h_339 (i := 1060) (j := 1061) rfl rfl (by decide)) (ne_k h_317 h_340 (i := 1060) (j := 1061) rfl rfl (by decide)) (ne_k h_317 h_341 (i := 1060) (j := 1061) rfl rfl (by decide))).trans h_317
  have h_368 : M_357 gg = some (.inl (cI, 60, .inl gd)) := (fr_363 _ (ne_k h_318 h_333 (i := 1060) (j := 6) rfl rfl (by decide)) (ne_k h_318 h_338 (i := 1060) (j := 1061) rfl rfl (by decide)) (ne_k h_318 h_339 (i := 1060) (j := 1061) rfl rfl (by decide)) (ne_k h_318 h_340 (i := 1060) (j := 1061) rfl rfl (by decide)) (ne_k h_318 h_341 (i := 1060) (j := 1061) rfl rfl (by decide))).trans h_318
  have h_369 : M_357 ce = some (.inr (0, [.ref va])) := (fr_363 _ (ne_k h_319 h_333 (i := 0) (j := 6) rfl rfl (by decide)) (ne_k h_319 h_338 (i := 0) (j := 1061) rfl rfl (by decide)) (ne_k h_319 h_339 (i := 0) (j := 1061) rfl rfl (by decide)) (ne_k h_319 h_340 (i := 0) (j := 1061) rfl rfl (by decide)) (ne_k h_319 h_341 (i := 0) (j := 1061) rfl rfl (by decide))).trans h_319
  have h_370 : M_357 va = some (.inl (cL, 16, .inr (.inl f))) := (fr_363 _ (ne_k h_320 h_333 (i := 100016) (j := 6) rfl rfl (by decide)) (ne_k h_320 h_338 (i := 100016) (j := 1061) rfl rfl (by decide)) (ne_k h_320 h_339 (i := 100016) (j := 1061) rfl rfl (by decide)) (ne_k h_320 h_340 (i := 100016) (j := 1061) rfl rfl (by decide)) (ne_k h_320 h_341 (i := 100016) (j := 1061) rfl rfl (by decide))).trans h_320
  have h_371 : M_357 pi = some (.inr (2, [.ref la, .ref pe, .ref tu, .int hh, .int hi])) := (fr_363 _ (ne_k h_321 h_333 (i := 2) (j := 6) rfl rfl (by decide)) (ne_k h_321 h_338 (i := 2) (j := 1061) rfl rfl (by decide)) (ne_k h_321 h_339 (i := 2) (j := 1061) rfl rfl (by decide)) (ne_k h_321 h_340 (i := 2) (j := 1061) rfl rfl (by decide)) (ne_k h_321 h_341 (i := 2) (j := 1061) rfl rfl (by decide))).trans h_321
  have h_372 : M_357 la = some (.inl (cQ, 100, .inr (.inr (.inr (.inr (lq lo sa)))))) := (fr_363 _ (ne_k h_322 h_333 (i := 10000100) (j := 6) rfl rfl (by decide)) (ne_k h_322 h_338 (i := 10000100) (j := 1061) rfl rfl (by decide)) (ne_k h_322 h_339 (i := 10000100) (j := 1061) rfl rfl (by decide)) (ne_k h_322 h_340 (i := 10000100) (j := 1061) rfl rfl (by decide)) (ne_k h_322 h_341 (i := 10000100) (j := 1061) rfl rfl (by decide))).trans h_322
  have h_373 : M_357 pe = some (.inl (cI, 100, .inl pd)) := (fr_363 _ (ne_k h_323 h_333 (i := 1100) (j := 6) rfl rfl (by decide)) (ne_k h_323 h_338 (i := 1100) (j := 1061) rfl rfl (by decide)) (ne_k h_323 h_339 (i := 1100) (j := 1061) rfl rfl (by decide)) (ne_k h_323 h_340 (i := 1100) (j := 1061) rfl rfl (by decide)) (ne_k h_323 h_341 (i := 1100) (j := 1061) rfl rfl (by decide))).trans h_323
  have h_374 : M_357 tu = some (.inl (cI, 100, .inl ud)) := (fr_363 _ (ne_k h_324 h_333 (i := 1100) (j := 6) rfl rfl (by decide)) (ne_k h_324 h_338 (i := 1100) (j := 1061) rfl rfl (by decide)) (ne_k h_324 h_339 (i := 1100) (j := 1061) rfl rfl (by decide)) (ne_k h_324 h_340 (i := 1100) (j := 1061) rfl rfl (by decide)) (ne_k h_324 h_341 (i := 1100) (j := 1061) rfl rfl (by decide))).trans h_324
  have h_375 : M_357 ra = some (.inl (cI, 4096, .inl rd)) := (fr_363 _ (ne_k h_325 h_333 (i := 5096) (j := 6) rfl rfl (by decide)) (ne_k h_325 h_338 (i := 5096) (j := 1061) rfl rfl (by decide)) (ne_k h_325 h_339 (i := 5096) (j := 1061) rfl rfl (by decide)) (ne_k h_325 h_340 (i := 5096) (j := 1061) rfl rfl (by decide)) (ne_k h_325 h_341 (i := 5096) (j := 1061) rfl rfl (by decide))).trans h_325
  have h_376 : M_357 ce2 = some (.inr (0, [.ref va2])) := (fr_363 _ (ne_k h_326 h_333 (i := 0) (j := 6) rfl rfl (by decide)) (ne_k h_326 h_338 (i := 0) (j := 1061) rfl rfl (by decide)) (ne_k h_326 h_339 (i := 0) (j := 1061) rfl rfl (by decide)) (ne_k h_326 h_340 (i := 0) (j := 1061) rfl rfl (by decide)) (ne_k h_326 h_341 (i := 0) (j := 1061) rfl rfl (by decide))).trans h_326
  have h_377 : M_357 va2 = some (.inl (cL, 16, .inr (.inl f2))) := (fr_363 _ (ne_k h_327 h_333 (i := 100016) (j := 6) rfl rfl (by decide)) (ne_k h_327 h_338 (i := 100016) (j := 1061) rfl rfl (by decide)) (ne_k h_327 h_339 (i := 100016) (j := 1061) rfl rfl (by decide)) (ne_k h_327 h_340 (i := 100016) (j := 1061) rfl rfl (by decide)) (ne_k h_327 h_341 (i := 100016) (j := 1061) rfl rfl (by decide))).trans h_327
  have h_378 : M_357 pi2 = some (.inr (2, [.ref la2, .ref pe2, .ref tu2, .int hh2, .int hi2])) := (fr_363 _ (ne_k h_328 h_333 (i := 2) (j := 6) rfl rfl (by decide)) (ne_k h_328 h_338 (i := 2) (j := 1061) rfl rfl (by decide)) (ne_k h_328 h_339 (i := 2) (j := 1061) rfl rfl (by decide)) (ne_k h_328 h_340 (i := 2) (j := 1061) rfl rfl (by decide)) (ne_k h_328 h_341 (i := 2) (j := 1061) rfl rfl (by decide))).trans h_328
  have h_379 : M_357 la2 = some (.inl (cQ, 100, .inr (.inr (.inr (.inr (lq lo2 sa)))))) := (fr_363 _ (ne_k h_329 h_333 (i := 10000100) (j := 6) rfl rfl (by decide)) (ne_k h_329 h_338 (i := 10000100) (j := 1061) rfl rfl (by decide)) (ne_k h_329 h_339 (i := 10000100) (j := 1061) rfl rfl (by decide)) (ne_k h_329 h_340 (i := 10000100) (j := 1061) rfl rfl (by decide)) (ne_k h_329 h_341 (i := 10000100) (j := 1061) rfl rfl (by decide))).trans h_329
  have h_380 : M_357 pe2 = some (.inl (cI, 100, .inl pd2)) := (fr_363 _ (ne_k h_330 h_333 (i := 1100) (j := 6) rfl rfl (by decide)) (ne_k h_330 h_338 (i := 1100) (j := 1061) rfl rfl (by decide)) (ne_k h_330 h_339 (i := 1100) (j := 1061) rfl rfl (by decide)) (ne_k h_330 h_340 (i := 1100) (j := 1061) rfl rfl (by decide)) (ne_k h_330 h_341 (i := 1100) (j := 1061) rfl rfl (by decide))).trans h_330
  have h_381 : M_357 tu2 = some (.inl (cI, 100, .inl ud2)) := (fr_363 _ (ne_k h_331 h_333 (i := 1100) (j := 6) rfl rfl (by decide)) (ne_k h_331 h_338 (i := 1100) (j := 1061) rfl rfl (by decide)) (ne_k h_331 h_339 (i := 1100) (j := 1061) rfl rfl (by decide)) (ne_k h_331 h_340 (i := 1100) (j := 1061) rfl rfl (by decide)) (ne_k h_331 h_341 (i := 1100) (j := 1061) rfl rfl (by decide))).trans h_331
  have h_382 : M_357 ra2 = some (.inl (cI, 0, .inl rd2)) := (fr_363 _ (ne_k h_332 h_333 (i := 1000) (j := 6) rfl rfl (by decide)) (ne_k h_332 h_338 (i := 1000) (j := 1061) rfl rfl (by decide)) (ne_k h_332 h_339 (i := 1000) (j := 1061) rfl rfl (by decide)) (ne_k h_332 h_340 (i := 1000) (j := 1061) rfl rfl (by decide)) (ne_k h_332 h_341 (i := 1000) (j := 1061) rfl rfl (by decide))).trans h_332
  have h_383 : M_357 (ad 1) = some (.inl (cL, 16, .inr (.inl f))) := (fr_363 _ (ne_k h_334 h_333 (i := 100016) (j := 6) rfl rfl (by decide)) (ad_ne hinj (i := 1) (j := 7) (by decide) (by decide) (by decide)) (ad_ne hinj (i := 1) (j := 8) (by decide) (by decide) (by decide)) (ad_ne hinj (i := 1) (j := 9) (by decide) (by decide) (by decide)) (ad_ne hinj (i := 1) (j := 10) (by decide) (by decide) (by decide))).trans h_334
  have h_384 : M_357 (ad 2) = some (.inl (cL, 16, .inr (.inl vkept))) := (fr_363 _ (ne_k h_335 h_333 (i := 100016) (j := 6) rfl rfl (by decide)) (ad_ne hinj (i := 2) (j := 7) (by decide) (by decide) (by decide)) (ad_ne hinj (i := 2) (j := 8) (by decide) (by decide) (by decide)) (ad_ne hinj (i := 2) (j := 9) (by decide) (by decide) (by decide)) (ad_ne hinj (i := 2) (j := 10) (by decide) (by decide) (by decide))).trans h_335
  have h_385 : M_357 (ad 5) = some (.inl (cI, 61, .inl vdoes)) := (fr_363 _ (ne_k h_336 h_333 (i := 1061) (j := 6) rfl rfl (by decide)) (ad_ne hinj (i := 5) (j := 7) (by decide) (by decide) (by decide)) (ad_ne hinj (i := 5) (j := 8) (by decide) (by decide) (by decide)) (ad_ne hinj (i := 5) (j := 9) (by decide) (by decide) (by decide)) (ad_ne hinj (i := 5) (j := 10) (by decide) (by decide) (by decide))).trans h_336
  have h_386 : M_357 (ad 6) = some (.inl (cI, 61, .inl vgos)) := (fr_363 _ (ne_k h_337 h_333 (i := 1061) (j := 6) rfl rfl (by decide)) (ad_ne hinj (i := 6) (j := 7) (by decide) (by decide) (by decide)) (ad_ne hinj (i := 6) (j := 8) (by decide) (by decide) (by decide)) (ad_ne hinj (i := 6) (j := 9) (by decide) (by decide) (by decide)) (ad_ne hinj (i := 6) (j := 10) (by decide) (by decide) (by decide))).trans h_337
  have h_387 : M_357 (ad 11) = some (.inl (cI, 61, .inl vcond)) := (fr_363 _ (ne_k h_342 h_333 (i := 1061) (j := 6) rfl rfl (by decide)) (ad_ne hinj (i := 11) (j := 7) (by decide) (by decide) (by decide)) (ad_ne hinj (i := 11) (j := 8) (by decide) (by decide) (by decide)) (ad_ne hinj (i := 11) (j := 9) (by decide) (by decide) (by decide)) (ad_ne hinj (i := 11) (j := 10) (by decide) (by decide) (by decide))).trans h_342
  have h_388 : M_357 (ad 12) = some (.inl (cI, 61, .inl vlev)) := (fr_363 _ (ne_k h_343 h_333 (i := 1061) (j := 6) rfl rfl (by decide)) (ad_ne hinj (i := 12) (j := 7) (by decide) (by decide) (by decide)) (ad_ne hinj (i := 12) (j := 8) (by decide) (by decide) (by decide)) (ad_ne hinj (i := 12) (j := 9) (by decide) (by decide) (by decide)) (ad_ne hinj (i := 12) (j := 10) (by decide) (by decide) (by decide))).trans h_343
  have h_389 : M_357 (ad 13) = some (.inl (cB, 61, .inl vask)) := (fr_363 _ (ne_k h_344 h_333 (i := 1061) (j := 6) rfl rfl (by decide)) (ad_ne hinj (i := 13) (j := 7) (by decide) (by decide) (by decide)) (ad_ne hinj (i := 13) (j := 8) (by decide) (by decide) (by decide)) (ad_ne hinj (i := 13) (j := 9) (by decide) (by decide) (by decide)) (ad_ne hinj (i := 13) (j := 10) (by decide) (by decide) (by decide))).trans h_344
  have h_390 : M_357 (ad 14) = some (.inl (cI, 488, .inl vcc)) := (fr_363 _ (ne_k h_345 h_333 (i := 1488) (j := 6) rfl rfl (by decide)) (ad_ne hinj (i := 14) (j := 7) (by decide) (by decide) (by decide)) (ad_ne hinj (i := 14) (j := 8) (by decide) (by decide) (by decide)) (ad_ne hinj (i := 14) (j := 9) (by decide) (by decide) (by decide)) (ad_ne hinj (i := 14) (j := 10) (by decide) (by decide) (by decide))).trans h_345
  have h_391 : M_357 (ad 15) = some (.inl (cI, 488, .inl vvar)) := (fr_363 _ (ne_k h_346 h_333 (i := 1488) (j := 6) rfl rfl (by decide)) (ad_ne hinj (i := 15) (j := 7) (by decide) (by decide) (by decide)) (ad_ne hinj (i := 15) (j := 8) (by decide) (by decide) (by decide)) (ad_ne hinj (i := 15) (j := 9) (by decide) (by decide) (by decide)) (ad_ne hinj (i := 15) (j := 10) (by decide) (by decide) (by decide))).trans h_346
  have h_392 : M_357 (ad 16) = some (.inl (cL, 488, .inr (.inl vleast))) := (fr_363 _ (ne_k h_347 h_333 (i := 100488) (j := 6) rfl rfl (by decide)) (ad_ne hinj (i := 16) (j := 7) (by decide) (by decide) (by decide)) (ad_ne hinj (i := 16) (j := 8) (by decide) (by decide) (by decide)) (ad_ne hinj (i := 16) (j := 9) (by decide) (by decide) (by decide)) (ad_ne hinj (i := 16) (j := 10) (by decide) (by decide) (by decide))).trans h_347
  have h_393 : M_357 (ad 17) = some (.inl (cL, 488, .inr (.inl vfirst))) := (fr_363 _ (ne_k h_348 h_333 (i := 100488) (j := 6) rfl rfl (by decide)) (ad_ne hinj (i := 17) (j := 7) (by decide) (by decide) (by decide)) (ad_ne hinj (i := 17) (j := 8) (by decide) (by decide) (by decide)) (ad_ne hinj (i := 17) (j := 9) (by decide) (by decide) (by decide)) (ad_ne hinj (i := 17) (j := 10) (by decide) (by decide) (by decide))).trans h_348
  have h_394 : M_357 (ad 18) = some (.inl (cL, 488, .inr (.inl vstep))) := (fr_363 _ (ne_k h_349 h_333 (i := 100488) (j := 6) rfl rfl (by decide)) (ad_ne hinj (i := 18) (j := 7) (by decide) (by decide) (by decide)) (ad_ne hinj (i := 18) (j := 8) (by decide) (by decide) (by decide)) (ad_ne hinj (i := 18) (j := 9) (by decide) (by decide) (by decide)) (ad_ne hinj (i := 18) (j := 10) (by decide) (by decide) (by decide))).trans h_349
  have h_395 : M_357 (ad 19) = some (.inl (cI, 101, .inl vpile)) := (fr_363 _ (ne_k h_350 h_333 (i := 1101) (j := 6) rfl rfl (by decide)) (ad_ne hinj (i := 19) (j := 7) (by decide) (by decide) (by decide)) (ad_ne hinj (i := 19) (j := 8) (by decide) (by decide) (by decide)) (ad_ne hinj (i := 19) (j := 9) (by decide) (by decide) (by decide)) (ad_ne hinj (i := 19) (j := 10) (by decide) (by decide) (by decide))).trans h_350
  have h_396 : M_357 (ad 20) = some (.inl (cI, 101, .inl vcall)) := (fr_363 _ (ne_k h_351 h_333 (i := 1101) (j := 6) rfl rfl (by decide)) (ad_ne hinj (i := 20) (j := 7) (by decide) (by decide) (by decide)) (ad_ne hinj (i := 20) (j := 8) (by decide) (by decide) (by decide)) (ad_ne hinj (i := 20) (j := 9) (by decide) (by decide) (by decide)) (ad_ne hinj (i := 20) (j := 10) (by decide) (by decide) (by decide))).trans h_351
  have h_397 : M_357 (ad 21) = some (.inl (cI, 101, .inl vleft)) := (fr_363 _ (ne_k h_352 h_333 (i := 1101) (j := 6) rfl rfl (by decide)) (ad_ne hinj (i := 21) (j := 7) (by decide) (by decide) (by decide)) (ad_ne hinj (i := 21) (j := 8) (by decide) (by decide) (by decide)) (ad_ne hinj (i := 21) (j := 9) (by decide) (by decide) (by decide)) (ad_ne hinj (i := 21) (j := 10) (by decide) (by decide) (by decide))).trans h_352
  have h_398 : M_357 (ad 26) = some (.inl (cI, 4097, .inl vord)) := (fr_363 _ (ne_k h_353 h_333 (i := 5097) (j := 6) rfl rfl (by decide)) (ad_ne hinj (i := 26) (j := 7) (by decide) (by decide) (by decide)) (ad_ne hinj (i := 26) (j := 8) (by decide) (by decide) (by decide)) (ad_ne hinj (i := 26) (j := 9) (by decide) (by decide) (by decide)) (ad_ne hinj (i := 26) (j := 10) (by decide) (by decide) (by decide))).trans h_353
  have h_399 : M_357 (ad 31) = some (.inl (cI, 4097, .inl vlord)) := (fr_363 _ (ne_k h_354 h_333 (i := 5097) (j := 6) rfl rfl (by decide)) (ad_ne hinj (i := 31) (j := 7) (by decide) (by decide) (by decide)) (ad_ne hinj (i := 31) (j := 8) (by decide) (by decide) (by decide)) (ad_ne hinj (i := 31) (j := 9) (by decide) (by decide) (by decide)) (ad_ne hinj (i := 31) (j := 10) (by decide) (by decide) (by decide))).trans h_354
  have h_400 : M_357 (ad 32) = some (.inl (cI, 101, .inl vlpile)) := (fr_363 _ (ne_k h_355 h_333 (i := 1101) (j := 6) rfl rfl (by decide)) (ad_ne hinj (i := 32) (j := 7) (by decide) (by decide) (by decide)) (ad_ne hinj (i := 32) (j := 8) (by decide) (by decide) (by decide)) (ad_ne hinj (i := 32) (j := 9) (by decide) (by decide) (by decide)) (ad_ne hinj (i := 32) (j := 10) (by decide) (by decide) (by decide))).trans h_355
  have h_401 : M_357 ou = some (.inl (cL, 1, .inr (.inl fo))) := (fr_363 _ (ne_k h_356 h_333 (i := 100001) (j := 6) rfl rfl (by decide)) (ne_k h_356 h_338 (i := 100001) (j := 1061) rfl rfl (by decide)) (ne_k h_356 h_339 (i := 100001) (j := 1061) rfl rfl (by decide)) (ne_k h_356 h_340 (i := 100001) (j := 1061) rfl rfl (by decide)) (ne_k h_356 h_341 (i := 100001) (j := 1061) rfl rfl (by decide))).trans h_356
  have h_402 : M_357 tg0 = some (.inl (cQ, 60, .inr (.inr (.inr (.inr (va_up (tdOf ns sa) ns.toNatClampNeg (some q_5))))))) := (fr_363 _ (ne_k h_2 h_333 (i := 10000060) (j := 6) rfl rfl (by decide)) (ne_k h_2 h_338 (i := 10000060) (j := 1061) rfl rfl (by decide)) (ne_k h_2 h_339 (i := 10000060) (j := 1061) rfl rfl (by decide)) (ne_k h_2 h_340 (i := 10000060) (j := 1061) rfl rfl (by decide)) (ne_k h_2 h_341 (i := 10000060) (j := 1061) rfl rfl (by decide))).trans h_2
  have h_403 : M_357 pg = some (.inr (3, [.ref dg, .ref gg, .ref tg0, .int np, .int (ns + 1)])) := (fr_363 _ (ne_k h_3 h_333 (i := 3) (j := 6) rfl rfl (by decide)) (ne_k h_3 h_338 (i := 3) (j := 1061) rfl rfl (by decide)) (ne_k h_3 h_339 (i := 3) (j := 1061) rfl rfl (by decide)) (ne_k h_3 h_340 (i := 3) (j := 1061) rfl rfl (by decide)) (ne_k h_3 h_341 (i := 3) (j := 1061) rfl rfl (by decide))).trans h_3
  have h_404 : M_357 q_5 = some (.inr (4, [.int x1, .int x2, .int x3, .int x4, .int 0, .int 0, .int 0, .ref q_6, .ref q_7, .ref q_8, .ref q_9, .ref q_10])) := (fr_363 _ (Ne.symm n_59) (Ne.symm n_64) (Ne.symm n_65) (Ne.symm n_66) (Ne.symm n_67)).trans h_32
  have h_405 : M_357 q_6 = some (.inl (cI, 7, .inl (fun _ => 0))) := (fr_363 _ (Ne.symm n_104) (Ne.symm n_109) (Ne.symm n_110) (Ne.symm n_111) (Ne.symm n_112)).trans h_33
  have h_406 : M_357 q_7 = some (.inl (cL, 7, .inr (.inl (fun _ => 0)))) := (fr_363 _ (Ne.symm n_149) (Ne.symm n_154) (Ne.symm n_155) (Ne.symm n_156) (Ne.symm n_157)).trans h_34
  have h_407 : M_357 q_8 = some (.inl (cI, 7, .inl (fun _ => 0))) := (fr_363 _ (Ne.symm n_194) (Ne.symm n_199) (Ne.symm n_200) (Ne.symm n_201) (Ne.symm n_202)).trans h_35
  have h_408 : M_357 q_9 = some (.inl (cL, 7, .inr (.inl (fun _ => 0)))) := (fr_363 _ (Ne.symm n_239) (Ne.symm n_244) (Ne.symm n_245) (Ne.symm n_246) (Ne.symm n_247)).trans h_36
  have h_409 : M_357 q_10 = some (.inl (cL, 7, .inr (.inl (fun _ => 0)))) := (fr_363 _ (Ne.symm n_284) (Ne.symm n_289) (Ne.symm n_290) (Ne.symm n_291) (Ne.symm n_292)).trans h_37
  refine V.widen (k := k0 + 6) (n := n0 + 47) (Nat.le_refl _) (Nat.le_refl _) ?_
  refine V.brT (pc' := 188) (tgt := 844) (lv_icmp_eq X.1 X.2.1 d_Law_law_185 (by decide)) HE.1 ?_
  rw [HE.2.1] at h_358
  have hpush := HE.2.2.2.1
  have hpl := HE.2.2.2.2.1
  rw [tdOf_push hpush hpl] at h_402
  rw [lq_push (n := ns.toNatClampNeg) (v := q_5) hlo hpush] at h_372
  rw [lq_push (n := ns.toNatClampNeg) (v := q_5) hlo2 hpush] at h_379
  refine V.widen (k := k0 + 6) (n := n0 + 47) (Nat.add_le_add_left (by decide) k0) (Nat.add_le_add_left (by decide) n0) ?_
  exact K (INV.mk h_364 h_403 h_365 h_366 h_367 h_368 h_402 h_369 h_370 h_371 h_372 h_373 h_374 h_375 h_376 h_377 h_378 h_379 h_380 h_381 h_382 h_358 h_383 h_384 h_385 h_386 h_359 h_360 h_361 h_362 h_387 h_388 h_389 h_390 h_391 h_392 h_393 h_394 h_395 h_396 h_397 h_398 h_399 h_400 h_401 (SP.push (v := newStm x1 x2 x3 x4) hp hpush hpl (fun q_ e_ he_ ht_  => (fr_363 q_ (ne_p he_ ht_ g_mo (j := 6) rfl (by decide)) (ne_p he_ ht_ g_ad7 (j := 1061) rfl (by decide)) (ne_p he_ ht_ g_ad8 (j := 1061) rfl (by decide)) (ne_p he_ ht_ g_ad9 (j := 1061) rfl (by decide)) (ne_p he_ ht_ g_ad10 (j := 1061) rfl (by decide))).trans (fr_4 q_ (ne_p he_ ht_ g_tg0 (j := 10000060) rfl (by decide)) (ne_p he_ ht_ g_pg (j := 3) rfl (by decide)) (ne_z he_ zb_308) (ne_z he_ zb_309) (ne_z he_ zb_310) (ne_z he_ zb_311) (ne_z he_ zb_312) (ne_z he_ zb_313))) h_404 h_405 h_406 h_407 h_408 h_409) (PJ.push hp hj hpush hpl zb_308 zb_309 zb_310 zb_311 zb_312 zb_313 n_23 n_27 n_28 n_31) HE.2.2.2.2.2.1 HE.2.2.2.2.2.2.1 HE.2.2.2.2.2.2.2)
