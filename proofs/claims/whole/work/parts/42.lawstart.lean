theorem wx_100 : (Jvm.Cond.classLink "PerformRangesLaw" (8 : Nat) "PerformRanges") ∈ GW := gw_of (i := 43) (by decide +kernel) (by decide +kernel)
theorem wx_101 : (Jvm.Cond.instantiable "PerformRanges" (3 : Nat)) ∈ GW := gw_of (i := 44) (by decide +kernel) (by decide +kernel)
theorem wx_102 : (Jvm.Cond.methodLink "PerformRangesLaw" (19 : Nat) ({ cls := "PerformRanges", name := "<init>", desc := "()V" } : Jvm.MethodName)) ∈ GW := gw_of (i := 45) (by decide +kernel) (by decide +kernel)
theorem wx_103 : (Jvm.Cond.instanceMethod ({ cls := "PerformRanges", name := "<init>", desc := "()V" } : Jvm.MethodName)) ∈ GW := gw_of (i := 46) (by decide +kernel) (by decide +kernel)
theorem wx_104 : (Jvm.Cond.code ({ cls := "PerformRanges", name := "<init>", desc := "()V" } : Jvm.MethodName) prog_1_method_1_code (1 : Nat) (Option.none : Option Jvm.ClassFile.FieldType)) ∈ GW := gw_of (i := 47) (by decide +kernel) (by decide +kernel)
theorem wx_105 : (Jvm.Cond.classLink "PerformRangesLaw" (20 : Nat) "PerformRangesModel") ∈ GW := gw_of (i := 507) (by decide +kernel) (by decide +kernel)
theorem wx_106 : (Jvm.Cond.instantiable "PerformRangesModel" (33 : Nat)) ∈ GW := gw_of (i := 508) (by decide +kernel) (by decide +kernel)
theorem wx_107 : (Jvm.Cond.methodLink "PerformRangesLaw" (22 : Nat) ({ cls := "PerformRangesModel", name := "<init>", desc := "()V" } : Jvm.MethodName)) ∈ GW := gw_of (i := 509) (by decide +kernel) (by decide +kernel)
theorem wx_108 : (Jvm.Cond.instanceMethod ({ cls := "PerformRangesModel", name := "<init>", desc := "()V" } : Jvm.MethodName)) ∈ GW := gw_of (i := 510) (by decide +kernel) (by decide +kernel)
theorem wx_109 : (Jvm.Cond.code ({ cls := "PerformRangesModel", name := "<init>", desc := "()V" } : Jvm.MethodName) prog_8_method_1_code (1 : Nat) (Option.none : Option Jvm.ClassFile.FieldType)) ∈ GW := gw_of (i := 511) (by decide +kernel) (by decide +kernel)
theorem ex_B (t : List Nat) : ∃ B : Nat, ∀ i x : Nat, t[i]? = some x → x < B := by
  induction t with
  | nil => exact ⟨0, fun i x h => by simp at h⟩
  | cons a t ih =>
    obtain ⟨B, hB⟩ := ih
    refine ⟨a + B + 1, fun i x h => ?_⟩
    cases i with
    | zero =>
      have e : a = x := by simpa using h
      omega
    | succ i =>
      have := hB i x (by simpa using h)
      omega
theorem l_512 {L : Nat} (hL : L ≤ 4096) : (L : Int) < (0 : Int32).toInt + 8 * (((512 : Nat) : Int) + 1) := by
  rw [show (0 : Int32).toInt = 0 from rfl]
  omega
theorem nb_q {q B k : Nat} (h : q < B) : q ≠ B + k := by omega
theorem nb_b {B i j : Nat} (h : i ≠ j) : B + i ≠ B + j := by omega
theorem nd_mem {a x : Nat} {t : List Nat} (h : a ≠ x) (k : ∀ y ∈ t, a ≠ y) : ∀ y ∈ x :: t, a ≠ y := List.forall_mem_cons.mpr ⟨h, k⟩
theorem nd_cons {a : Nat} {t : List Nat} (h : ∀ y ∈ t, a ≠ y) (k : t.Nodup) : (a :: t).Nodup := List.nodup_cons.mpr ⟨fun q => h a q rfl, k⟩
theorem nd_get : ∀ {t : List Nat}, t.Nodup → ∀ i j : Nat, i < t.length → j < t.length → t.getD i 0 = t.getD j 0 → i = j
  | [], _, i, _, hi, _, _ => absurd hi (Nat.not_lt_zero i)
  | a :: t, h, i, j, hi, hj, hij => by
    have h1 := (List.nodup_cons.mp h).1
    have h2 := (List.nodup_cons.mp h).2
    cases i with
    | zero =>
      cases j with
      | zero => rfl
      | succ j =>
        exfalso
        have hj' : j < t.length := Nat.lt_of_succ_lt_succ hj
        have e : a = t.getD j 0 := hij
        rw [List.getD_eq_getElem?_getD, List.getElem?_eq_getElem hj'] at e
        exact h1 (by rw [e]; exact List.getElem_mem hj')
    | succ i =>
      cases j with
      | zero =>
        exfalso
        have hi' : i < t.length := Nat.lt_of_succ_lt_succ hi
        have e : t.getD i 0 = a := hij
        rw [List.getD_eq_getElem?_getD, List.getElem?_eq_getElem hi'] at e
        exact h1 (by rw [← e]; exact List.getElem_mem hi')
      | succ j => rw [nd_get h2 i j (Nat.lt_of_succ_lt_succ hi) (Nat.lt_of_succ_lt_succ hj) hij]
theorem nd_inj {t : List Nat} (h : t.Nodup) {n : Nat} (hn : t.length = n) : ∀ i j : Nat, i < n → j < n → (fun k => t.getD k 0) i = (fun k => t.getD k 0) j → i = j := by
  subst hn
  exact nd_get h
theorem z_0 : 0 ≤ (0 : Int32).toInt := by decide
theorem z_k {k : Int} (h : 0 ≤ k) : (0 : Int32).toInt ≤ k := by
  rw [show (0 : Int32).toInt = 0 from rfl]
  exact h
theorem td_0 {sa : Nat → Nat} : (fun _ => none : Nat → Option Nat) = tdOf 0 sa := by
  funext k
  unfold tdOf
  rw [if_neg (by rw [show (0 : Int32).toInt = 0 from rfl]; omega)]
theorem lq_0 {sa : Nat → Nat} : (fun _ => none : Nat → Option Nat) = lq (fun _ => none) sa := rfl
theorem sp_0 {cI cL : ClassId} {M : mp} {sa u1 u2 u3 u4 u5 : Nat → Nat} {σ : Nat → Stm} : SP cI cL M 0 sa u1 u2 u3 u4 u5 σ := fun i h => absurd h (by rw [show (0 : Int32).toInt = 0 from rfl]; omega)
theorem pj_0 {sa u1 u2 u3 u4 u5 : Nat → Nat} : PJ 0 sa u1 u2 u3 u4 u5 := fun i j h => absurd h (by rw [show (0 : Int32).toInt = 0 from rfl]; omega)
theorem rp_0 {σ : Nat → Stm} : RP 0 0 (fun _ => 0) (fun _ => 0) σ (fun _ => 0) (fun _ => 0) (fun _ => 0) (fun _ => 0) (fun _ => 0) (fun _ => 0) (fun _ => 0) (fun _ => 0) (fun _ => 0) (fun _ => 0) (fun _ => 0) (fun _ => 0) (fun _ => 0) (fun _ => 0) :=
  ⟨⟨⟨by decide, by decide, by decide, by decide⟩, fun k h => absurd h (by rw [show (0 : Int32).toInt = 0 from rfl]; omega), fun k h => absurd h (by rw [show (0 : Int32).toInt = 0 from rfl]; omega)⟩,
    ⟨fun _ => z_0, fun _ => ⟨z_0, z_k (by decide)⟩, fun _ => ⟨z_0, z_k (by decide)⟩, fun _ => ⟨z_0, z_k (by decide)⟩, fun _ => ⟨z_0, z_k (by decide)⟩, fun _ => ⟨z_0, z_k (by decide)⟩⟩,
    ⟨fun _ _ => ⟨rfl, rfl⟩, fun _ _ => ⟨rfl, rfl, rfl, fun _ _ => ⟨rfl, rfl, rfl, rfl, rfl⟩⟩⟩⟩
theorem rq_0 : RQ 0 (fun _ => 0) (fun _ => 0) (fun _ => 0) (fun _ => 0) (fun _ => 0) := ⟨fun _ => ⟨⟨z_0, z_k (by decide), fun h => absurd h (show ¬ 1 ≤ (0 : Int32).toInt by decide)⟩, z_k z_0⟩, fun _ => ⟨z_0, z_k (by decide)⟩⟩
theorem rr_0 : RR 0 0 0 0 0 (fun _ => 0) (fun _ => none) (fun _ => none) (fun _ => 0) (fun _ => 0) :=
  ⟨⟨by decide, by decide, fun _ _ => rfl⟩, ⟨by decide, by decide, fun k h => absurd h (by rw [show (0 : Int32).toInt = 0 from rfl]; omega)⟩, ⟨by decide, by decide⟩, fun _ _ h => (by cases h), fun _ _ h => (by cases h), fun _ => ⟨z_0, z_k (by decide)⟩⟩
set_option maxHeartbeats 8000000 in
set_option maxRecDepth 100000 in
theorem law_start {p : Program} {l : Launch} {e : Env} {s : State} {m : MethodId} {below : List Frame} {meth : Method} {c : Code} {D : va_G} {z : Cond} {b L : Nat} {xs : Nat → Int32} {cI cL cQ cB : ClassId} {M : mp} (X : CallFix p m c code 8 s #[Value.ref b] (z :: GW) "PerformRangesLaw") (hK : KK D cls7 (tysOf cI cL cQ cB) NW s) (hZ : ZW s.heap s) (hfl : l.flags = flags0) (hX : va_X b L xs s s.heap) (hbl : b < s.heap.size) (hL : L ≤ 4096) (hr : meth.sig.returnType = ret) (hlocks : meth.locks = false) : V p l e room_1 s m #[Value.ref b] below meth c s.heap D cls7 (lw_Z below #[Value.ref b] s) 8 M 0 0 0 [(0, .ref b)] [] := by
  refine V.new (pc' := 3) (ci := 5) X hK (fs := [.null, .null, .null]) uw_PR t_PR tok_PR (mcs wx_100) (mcs wx_101) (mcs wd_289) rfl (fun j hj => match j, hj with | 0, _ => rfl | 1, _ => rfl | 2, _ => rfl | k + 3, h => absurd h (by omega)) (by decide) (by decide) d_Law_law_0 rfl (fun q_1 M_2 z_3 h_4 fr_5 => ?_)
  have zb_6 : M q_1 = none := z_3
  refine V.go (pc' := 4) (lv_dup X.1 X.2.1 d_Law_law_3 rfl) ?_
  refine V.callI (pc' := 7) X hK (c_PR_init  (px := q_1)   h_4  ) (ciG (n := 0) X (mcs wx_102) (mcs wx_103) (mcs wd_289) wx_104 rfl (by decide +kernel) (by decide) (by decide)) rfl rfl (Nat.le_of_ble_eq_true rfl) d_Law_law_4 ⟨by decide, by decide⟩ rfl (st1 := [.ref q_1]) rfl (fun M_7 ⟨q_10, q_11, q_12, q_13, q_14, q_15, q_16, q_17, q_18, q_19, q_20, q_21, q_22, q_23, q_24, q_25, q_26, q_27, q_28, q_29, z_30, z_31, z_32, z_33, z_34, z_35, z_36, z_37, z_38, z_39, z_40, z_41, z_42, z_43, z_44, z_45, z_46, z_47, z_48, z_49, n_50, n_51, n_52, n_53, n_54, n_55, n_56, n_57, n_58, n_59, n_60, n_61, n_62, n_63, n_64, n_65, n_66, n_67, n_68, n_69, n_70, n_71, n_72, n_73, n_74, n_75, n_76, n_77, n_78, n_79, n_80, n_81, n_82, n_83, n_84, n_85, n_86, n_87, n_88, n_89, n_90, n_91, n_92, n_93, n_94, n_95, n_96, n_97, n_98, n_99, n_100, n_101, n_102, n_103, n_104, n_105, n_106, n_107, n_108, n_109, n_110, n_111, n_112, n_113, n_114, n_115, n_116, n_117, n_118, n_119, n_120, n_121, n_122, n_123, n_124, n_125, n_126, n_127, n_128, n_129, n_130, n_131, n_132, n_133, n_134, n_135, n_136, n_137, n_138, n_139, n_140, n_141, n_142, n_143, n_144, n_145, n_146, n_147, n_148, n_149, n_150, n_151, n_152, n_153, n_154, n_155, n_156, n_157, n_158, n_159, n_160, n_161, n_162, n_163, n_164, n_165, n_166, n_167, n_168, n_169, n_170, n_171, n_172, n_173, n_174, n_175, n_176, n_177, n_178, n_179, n_180, n_181, n_182, n_183, n_184, n_185, n_186, n_187, n_188, n_189, n_190, n_191, n_192, n_193, n_194, n_195, n_196, n_197, n_198, n_199, n_200, n_201, n_202, n_203, n_204, n_205, n_206, n_207, n_208, n_209, n_210, n_211, n_212, n_213, n_214, n_215, n_216, n_217, n_218, n_219, n_220, n_221, n_222, n_223, n_224, n_225, n_226, n_227, n_228, n_229, n_230, n_231, n_232, n_233, n_234, n_235, n_236, n_237, n_238, n_239, h_8, h_240, h_241, h_242, h_243, h_244, h_245, h_246, h_247, h_248, h_249, h_250, h_251, h_252, h_253, h_254, h_255, h_256, h_257, h_258, h_259, fr_9⟩ => ?_)
  have n_260 : q_1 ≠ q_10 := ne_z h_4 z_30
  have n_261 : q_1 ≠ q_11 := ne_z h_4 z_31
  have n_262 : q_1 ≠ q_12 := ne_z h_4 z_32
  have n_263 : q_1 ≠ q_13 := ne_z h_4 z_33
  have n_264 : q_1 ≠ q_14 := ne_z h_4 z_34
  have n_265 : q_1 ≠ q_15 := ne_z h_4 z_35
  have n_266 : q_1 ≠ q_16 := ne_z h_4 z_36
  have n_267 : q_1 ≠ q_17 := ne_z h_4 z_37
  have n_268 : q_1 ≠ q_18 := ne_z h_4 z_38
  have n_269 : q_1 ≠ q_19 := ne_z h_4 z_39
  have n_270 : q_1 ≠ q_20 := ne_z h_4 z_40
  have n_271 : q_1 ≠ q_21 := ne_z h_4 z_41
  have n_272 : q_1 ≠ q_22 := ne_z h_4 z_42
  have n_273 : q_1 ≠ q_23 := ne_z h_4 z_43
  have n_274 : q_1 ≠ q_24 := ne_z h_4 z_44
  have n_275 : q_1 ≠ q_25 := ne_z h_4 z_45
  have n_276 : q_1 ≠ q_26 := ne_z h_4 z_46
  have n_277 : q_1 ≠ q_27 := ne_z h_4 z_47
  have n_278 : q_1 ≠ q_28 := ne_z h_4 z_48
  have n_279 : q_1 ≠ q_29 := ne_z h_4 z_49
  have zb_280 : M q_10 = none := ((fr_5 q_10 (Ne.symm n_260))).symm.trans z_30
  have zb_281 : M q_11 = none := ((fr_5 q_11 (Ne.symm n_261))).symm.trans z_31
  have zb_282 : M q_12 = none := ((fr_5 q_12 (Ne.symm n_262))).symm.trans z_32
  have zb_283 : M q_13 = none := ((fr_5 q_13 (Ne.symm n_263))).symm.trans z_33
  have zb_284 : M q_14 = none := ((fr_5 q_14 (Ne.symm n_264))).symm.trans z_34
  have zb_285 : M q_15 = none := ((fr_5 q_15 (Ne.symm n_265))).symm.trans z_35
  have zb_286 : M q_16 = none := ((fr_5 q_16 (Ne.symm n_266))).symm.trans z_36
  have zb_287 : M q_17 = none := ((fr_5 q_17 (Ne.symm n_267))).symm.trans z_37
  have zb_288 : M q_18 = none := ((fr_5 q_18 (Ne.symm n_268))).symm.trans z_38
  have zb_289 : M q_19 = none := ((fr_5 q_19 (Ne.symm n_269))).symm.trans z_39
  have zb_290 : M q_20 = none := ((fr_5 q_20 (Ne.symm n_270))).symm.trans z_40
  have zb_291 : M q_21 = none := ((fr_5 q_21 (Ne.symm n_271))).symm.trans z_41
  have zb_292 : M q_22 = none := ((fr_5 q_22 (Ne.symm n_272))).symm.trans z_42
  have zb_293 : M q_23 = none := ((fr_5 q_23 (Ne.symm n_273))).symm.trans z_43
  have zb_294 : M q_24 = none := ((fr_5 q_24 (Ne.symm n_274))).symm.trans z_44
  have zb_295 : M q_25 = none := ((fr_5 q_25 (Ne.symm n_275))).symm.trans z_45
  have zb_296 : M q_26 = none := ((fr_5 q_26 (Ne.symm n_276))).symm.trans z_46
  have zb_297 : M q_27 = none := ((fr_5 q_27 (Ne.symm n_277))).symm.trans z_47
  have zb_298 : M q_28 = none := ((fr_5 q_28 (Ne.symm n_278))).symm.trans z_48
  have zb_299 : M q_29 = none := ((fr_5 q_29 (Ne.symm n_279))).symm.trans z_49
  refine V.wr (pc' := 8) (lv' := [(1, .ref q_1), (0, .ref b)]) (fun hl => lv_astore_n X.1 X.2.1 d_Law_law_7 rfl hl (by decide) rfl) ?_
  refine V.new (pc' := 11) (ci := 6) X hK (fs := [.int 0, .null, .null, .int 0, .int 0, .null, .null, .null, .null, .null, .null, .null, .null, .null, .null, .null, .null, .null, .null, .null, .null, .null, .int 0, .int 0, .int 0, .int 0, .null, .int 0, .int 0, .int 0, .int 0, .null, .null]) uw_Model t_Model tok_Model (mcs wx_105) (mcs wx_106) (mcs wd_174) rfl (fun j hj => match j, hj with | 0, _ => rfl | 1, _ => rfl | 2, _ => rfl | 3, _ => rfl | 4, _ => rfl | 5, _ => rfl | 6, _ => rfl | 7, _ => rfl | 8, _ => rfl | 9, _ => rfl | 10, _ => rfl | 11, _ => rfl | 12, _ => rfl | 13, _ => rfl | 14, _ => rfl | 15, _ => rfl | 16, _ => rfl | 17, _ => rfl | 18, _ => rfl | 19, _ => rfl | 20, _ => rfl | 21, _ => rfl | 22, _ => rfl | 23, _ => rfl | 24, _ => rfl | 25, _ => rfl | 26, _ => rfl | 27, _ => rfl | 28, _ => rfl | 29, _ => rfl | 30, _ => rfl | 31, _ => rfl | 32, _ => rfl | k + 33, h => absurd h (by omega)) (by decide) (by decide) d_Law_law_8 rfl (fun q_300 M_301 z_302 h_303 fr_304 => ?_)
  have n_305 : q_1 ≠ q_300 := ne_z h_8 z_302
  have n_306 : q_10 ≠ q_300 := ne_z h_240 z_302
  have n_307 : q_11 ≠ q_300 := ne_z h_241 z_302
  have n_308 : q_12 ≠ q_300 := ne_z h_242 z_302
  have n_309 : q_13 ≠ q_300 := ne_z h_243 z_302
  have n_310 : q_14 ≠ q_300 := ne_z h_244 z_302
  have n_311 : q_15 ≠ q_300 := ne_z h_245 z_302
  have n_312 : q_16 ≠ q_300 := ne_z h_246 z_302
  have n_313 : q_17 ≠ q_300 := ne_z h_247 z_302
  have n_314 : q_18 ≠ q_300 := ne_z h_248 z_302
  have n_315 : q_19 ≠ q_300 := ne_z h_249 z_302
  have n_316 : q_20 ≠ q_300 := ne_z h_250 z_302
  have n_317 : q_21 ≠ q_300 := ne_z h_251 z_302
  have n_318 : q_22 ≠ q_300 := ne_z h_252 z_302
  have n_319 : q_23 ≠ q_300 := ne_z h_253 z_302
  have n_320 : q_24 ≠ q_300 := ne_z h_254 z_302
  have n_321 : q_25 ≠ q_300 := ne_z h_255 z_302
  have n_322 : q_26 ≠ q_300 := ne_z h_256 z_302
  have n_323 : q_27 ≠ q_300 := ne_z h_257 z_302
  have n_324 : q_28 ≠ q_300 := ne_z h_258 z_302
  have n_325 : q_29 ≠ q_300 := ne_z h_259 z_302
  have zb_326 : M q_300 = none := ((fr_9 q_300 (Ne.symm n_305) (Ne.symm n_306) (Ne.symm n_307) (Ne.symm n_308) (Ne.symm n_309) (Ne.symm n_310) (Ne.symm n_311) (Ne.symm n_312) (Ne.symm n_313) (Ne.symm n_314) (Ne.symm n_315) (Ne.symm n_316) (Ne.symm n_317) (Ne.symm n_318) (Ne.symm n_319) (Ne.symm n_320) (Ne.symm n_321) (Ne.symm n_322) (Ne.symm n_323) (Ne.symm n_324) (Ne.symm n_325)).trans ((fr_5 q_300 (Ne.symm n_305)))).symm.trans z_302
  have h_327 : M_301 q_1 = some (.inr (5, [.ref q_10, .ref q_14, .ref q_22])) := (fr_304 _ n_305).trans h_8
  have h_328 : M_301 q_10 = some (.inr (3, [.ref q_11, .ref q_12, .ref q_13, .int 0, .int 0])) := (fr_304 _ n_306).trans h_240
  have h_329 : M_301 q_11 = some (.inl (cI, 60, .inl (fun _ => 0))) := (fr_304 _ n_307).trans h_241
  have h_330 : M_301 q_12 = some (.inl (cI, 60, .inl (fun _ => 0))) := (fr_304 _ n_308).trans h_242
  have h_331 : M_301 q_13 = some (.inl (cQ, 60, .inr (.inr (.inr (.inr (fun _ => none)))))) := (fr_304 _ n_309).trans h_243
  have h_332 : M_301 q_14 = some (.inr (1, [.ref q_10, .ref q_16, .ref q_18, .ref q_15, .int 0, .int (-1)])) := (fr_304 _ n_310).trans h_244
  have h_333 : M_301 q_15 = some (.inl (cI, 4096, .inl (fun _ => 0))) := (fr_304 _ n_311).trans h_245
  have h_334 : M_301 q_16 = some (.inr (0, [.ref q_17])) := (fr_304 _ n_312).trans h_246
  have h_335 : M_301 q_17 = some (.inl (cL, 16, .inr (.inl (fun _ => 0)))) := (fr_304 _ n_313).trans h_247
  have h_336 : M_301 q_18 = some (.inr (2, [.ref q_19, .ref q_20, .ref q_21, .int 0, .int 0])) := (fr_304 _ n_314).trans h_248
  have h_337 : M_301 q_19 = some (.inl (cQ, 100, .inr (.inr (.inr (.inr (fun _ => none)))))) := (fr_304 _ n_315).trans h_249
  have h_338 : M_301 q_20 = some (.inl (cI, 100, .inl (fun _ => 0))) := (fr_304 _ n_316).trans h_250
  have h_339 : M_301 q_21 = some (.inl (cI, 100, .inl (fun _ => 0))) := (fr_304 _ n_317).trans h_251
  have h_340 : M_301 q_22 = some (.inr (1, [.ref q_10, .ref q_24, .ref q_26, .ref q_23, .int 0, .int (-1)])) := (fr_304 _ n_318).trans h_252
  have h_341 : M_301 q_23 = some (.inl (cI, 0, .inl (fun _ => 0))) := (fr_304 _ n_319).trans h_253
  have h_342 : M_301 q_24 = some (.inr (0, [.ref q_25])) := (fr_304 _ n_320).trans h_254
  have h_343 : M_301 q_25 = some (.inl (cL, 16, .inr (.inl (fun _ => 0)))) := (fr_304 _ n_321).trans h_255
  have h_344 : M_301 q_26 = some (.inr (2, [.ref q_27, .ref q_28, .ref q_29, .int 0, .int 0])) := (fr_304 _ n_322).trans h_256
  have h_345 : M_301 q_27 = some (.inl (cQ, 100, .inr (.inr (.inr (.inr (fun _ => none)))))) := (fr_304 _ n_323).trans h_257
  have h_346 : M_301 q_28 = some (.inl (cI, 100, .inl (fun _ => 0))) := (fr_304 _ n_324).trans h_258
  have h_347 : M_301 q_29 = some (.inl (cI, 100, .inl (fun _ => 0))) := (fr_304 _ n_325).trans h_259
  refine V.go (pc' := 12) (lv_dup X.1 X.2.1 d_Law_law_11 rfl) ?_
  refine V.callI (pc' := 15) X hK (c_M_init  (mo := q_300)   h_303  ) (ciG (n := 0) X (mcs wx_107) (mcs wx_108) (mcs wd_174) wx_109 rfl (by decide +kernel) (by decide) (by decide)) rfl rfl (Nat.le_of_ble_eq_true rfl) d_Law_law_12 ⟨by decide, by decide⟩ rfl (st1 := [.ref q_300]) rfl (fun M_348 ⟨q_351, q_352, q_353, q_354, q_355, q_356, q_357, q_358, q_359, q_360, q_361, q_362, q_363, q_364, q_365, q_366, q_367, q_368, q_369, q_370, q_371, q_372, z_373, z_374, z_375, z_376, z_377, z_378, z_379, z_380, z_381, z_382, z_383, z_384, z_385, z_386, z_387, z_388, z_389, z_390, z_391, z_392, z_393, z_394, n_395, n_396, n_397, n_398, n_399, n_400, n_401, n_402, n_403, n_404, n_405, n_406, n_407, n_408, n_409, n_410, n_411, n_412, n_413, n_414, n_415, n_416, n_417, n_418, n_419, n_420, n_421, n_422, n_423, n_424, n_425, n_426, n_427, n_428, n_429, n_430, n_431, n_432, n_433, n_434, n_435, n_436, n_437, n_438, n_439, n_440, n_441, n_442, n_443, n_444, n_445, n_446, n_447, n_448, n_449, n_450, n_451, n_452, n_453, n_454, n_455, n_456, n_457, n_458, n_459, n_460, n_461, n_462, n_463, n_464, n_465, n_466, n_467, n_468, n_469, n_470, n_471, n_472, n_473, n_474, n_475, n_476, n_477, n_478, n_479, n_480, n_481, n_482, n_483, n_484, n_485, n_486, n_487, n_488, n_489, n_490, n_491, n_492, n_493, n_494, n_495, n_496, n_497, n_498, n_499, n_500, n_501, n_502, n_503, n_504, n_505, n_506, n_507, n_508, n_509, n_510, n_511, n_512, n_513, n_514, n_515, n_516, n_517, n_518, n_519, n_520, n_521, n_522, n_523, n_524, n_525, n_526, n_527, n_528, n_529, n_530, n_531, n_532, n_533, n_534, n_535, n_536, n_537, n_538, n_539, n_540, n_541, n_542, n_543, n_544, n_545, n_546, n_547, n_548, n_549, n_550, n_551, n_552, n_553, n_554, n_555, n_556, n_557, n_558, n_559, n_560, n_561, n_562, n_563, n_564, n_565, n_566, n_567, n_568, n_569, n_570, n_571, n_572, n_573, n_574, n_575, n_576, n_577, n_578, n_579, n_580, n_581, n_582, n_583, n_584, n_585, n_586, n_587, n_588, n_589, n_590, n_591, n_592, n_593, n_594, n_595, n_596, n_597, n_598, n_599, n_600, n_601, n_602, n_603, n_604, n_605, n_606, n_607, n_608, n_609, n_610, n_611, n_612, n_613, n_614, n_615, n_616, n_617, n_618, n_619, n_620, n_621, n_622, n_623, n_624, n_625, h_349, h_626, h_627, h_628, h_629, h_630, h_631, h_632, h_633, h_634, h_635, h_636, h_637, h_638, h_639, h_640, h_641, h_642, h_643, h_644, h_645, h_646, h_647, fr_350⟩ => ?_)
  have n_648 : q_1 ≠ q_351 := ne_z h_327 z_373
  have n_649 : q_10 ≠ q_351 := ne_z h_328 z_373
  have n_650 : q_11 ≠ q_351 := ne_z h_329 z_373
  have n_651 : q_12 ≠ q_351 := ne_z h_330 z_373
  have n_652 : q_13 ≠ q_351 := ne_z h_331 z_373
  have n_653 : q_14 ≠ q_351 := ne_z h_332 z_373
  have n_654 : q_15 ≠ q_351 := ne_z h_333 z_373
  have n_655 : q_16 ≠ q_351 := ne_z h_334 z_373
  have n_656 : q_17 ≠ q_351 := ne_z h_335 z_373
  have n_657 : q_18 ≠ q_351 := ne_z h_336 z_373
  have n_658 : q_19 ≠ q_351 := ne_z h_337 z_373
  have n_659 : q_20 ≠ q_351 := ne_z h_338 z_373
  have n_660 : q_21 ≠ q_351 := ne_z h_339 z_373
  have n_661 : q_22 ≠ q_351 := ne_z h_340 z_373
  have n_662 : q_23 ≠ q_351 := ne_z h_341 z_373
  have n_663 : q_24 ≠ q_351 := ne_z h_342 z_373
  have n_664 : q_25 ≠ q_351 := ne_z h_343 z_373
  have n_665 : q_26 ≠ q_351 := ne_z h_344 z_373
  have n_666 : q_27 ≠ q_351 := ne_z h_345 z_373
  have n_667 : q_28 ≠ q_351 := ne_z h_346 z_373
  have n_668 : q_29 ≠ q_351 := ne_z h_347 z_373
  have n_669 : q_300 ≠ q_351 := ne_z h_303 z_373
  have n_670 : q_1 ≠ q_352 := ne_z h_327 z_374
  have n_671 : q_10 ≠ q_352 := ne_z h_328 z_374
  have n_672 : q_11 ≠ q_352 := ne_z h_329 z_374
  have n_673 : q_12 ≠ q_352 := ne_z h_330 z_374
  have n_674 : q_13 ≠ q_352 := ne_z h_331 z_374
  have n_675 : q_14 ≠ q_352 := ne_z h_332 z_374
  have n_676 : q_15 ≠ q_352 := ne_z h_333 z_374
  have n_677 : q_16 ≠ q_352 := ne_z h_334 z_374
  have n_678 : q_17 ≠ q_352 := ne_z h_335 z_374
  have n_679 : q_18 ≠ q_352 := ne_z h_336 z_374
  have n_680 : q_19 ≠ q_352 := ne_z h_337 z_374
  have n_681 : q_20 ≠ q_352 := ne_z h_338 z_374
  have n_682 : q_21 ≠ q_352 := ne_z h_339 z_374
  have n_683 : q_22 ≠ q_352 := ne_z h_340 z_374
  have n_684 : q_23 ≠ q_352 := ne_z h_341 z_374
  have n_685 : q_24 ≠ q_352 := ne_z h_342 z_374
  have n_686 : q_25 ≠ q_352 := ne_z h_343 z_374
  have n_687 : q_26 ≠ q_352 := ne_z h_344 z_374
  have n_688 : q_27 ≠ q_352 := ne_z h_345 z_374
  have n_689 : q_28 ≠ q_352 := ne_z h_346 z_374
  have n_690 : q_29 ≠ q_352 := ne_z h_347 z_374
  have n_691 : q_300 ≠ q_352 := ne_z h_303 z_374
  have n_692 : q_1 ≠ q_353 := ne_z h_327 z_375
  have n_693 : q_10 ≠ q_353 := ne_z h_328 z_375
  have n_694 : q_11 ≠ q_353 := ne_z h_329 z_375
  have n_695 : q_12 ≠ q_353 := ne_z h_330 z_375
  have n_696 : q_13 ≠ q_353 := ne_z h_331 z_375
  have n_697 : q_14 ≠ q_353 := ne_z h_332 z_375
  have n_698 : q_15 ≠ q_353 := ne_z h_333 z_375
  have n_699 : q_16 ≠ q_353 := ne_z h_334 z_375
  have n_700 : q_17 ≠ q_353 := ne_z h_335 z_375
  have n_701 : q_18 ≠ q_353 := ne_z h_336 z_375
  have n_702 : q_19 ≠ q_353 := ne_z h_337 z_375
  have n_703 : q_20 ≠ q_353 := ne_z h_338 z_375
  have n_704 : q_21 ≠ q_353 := ne_z h_339 z_375
  have n_705 : q_22 ≠ q_353 := ne_z h_340 z_375
  have n_706 : q_23 ≠ q_353 := ne_z h_341 z_375
  have n_707 : q_24 ≠ q_353 := ne_z h_342 z_375
  have n_708 : q_25 ≠ q_353 := ne_z h_343 z_375
  have n_709 : q_26 ≠ q_353 := ne_z h_344 z_375
  have n_710 : q_27 ≠ q_353 := ne_z h_345 z_375
  have n_711 : q_28 ≠ q_353 := ne_z h_346 z_375
  have n_712 : q_29 ≠ q_353 := ne_z h_347 z_375
  have n_713 : q_300 ≠ q_353 := ne_z h_303 z_375
  have n_714 : q_1 ≠ q_354 := ne_z h_327 z_376
  have n_715 : q_10 ≠ q_354 := ne_z h_328 z_376
  have n_716 : q_11 ≠ q_354 := ne_z h_329 z_376
  have n_717 : q_12 ≠ q_354 := ne_z h_330 z_376
  have n_718 : q_13 ≠ q_354 := ne_z h_331 z_376
  have n_719 : q_14 ≠ q_354 := ne_z h_332 z_376
  have n_720 : q_15 ≠ q_354 := ne_z h_333 z_376
  have n_721 : q_16 ≠ q_354 := ne_z h_334 z_376
  have n_722 : q_17 ≠ q_354 := ne_z h_335 z_376
  have n_723 : q_18 ≠ q_354 := ne_z h_336 z_376
  have n_724 : q_19 ≠ q_354 := ne_z h_337 z_376
  have n_725 : q_20 ≠ q_354 := ne_z h_338 z_376
  have n_726 : q_21 ≠ q_354 := ne_z h_339 z_376
  have n_727 : q_22 ≠ q_354 := ne_z h_340 z_376
  have n_728 : q_23 ≠ q_354 := ne_z h_341 z_376
  have n_729 : q_24 ≠ q_354 := ne_z h_342 z_376
  have n_730 : q_25 ≠ q_354 := ne_z h_343 z_376
  have n_731 : q_26 ≠ q_354 := ne_z h_344 z_376
  have n_732 : q_27 ≠ q_354 := ne_z h_345 z_376
  have n_733 : q_28 ≠ q_354 := ne_z h_346 z_376
  have n_734 : q_29 ≠ q_354 := ne_z h_347 z_376
  have n_735 : q_300 ≠ q_354 := ne_z h_303 z_376
  have n_736 : q_1 ≠ q_355 := ne_z h_327 z_377
  have n_737 : q_10 ≠ q_355 := ne_z h_328 z_377
  have n_738 : q_11 ≠ q_355 := ne_z h_329 z_377
  have n_739 : q_12 ≠ q_355 := ne_z h_330 z_377
  have n_740 : q_13 ≠ q_355 := ne_z h_331 z_377
  have n_741 : q_14 ≠ q_355 := ne_z h_332 z_377
  have n_742 : q_15 ≠ q_355 := ne_z h_333 z_377
  have n_743 : q_16 ≠ q_355 := ne_z h_334 z_377
  have n_744 : q_17 ≠ q_355 := ne_z h_335 z_377
  have n_745 : q_18 ≠ q_355 := ne_z h_336 z_377
  have n_746 : q_19 ≠ q_355 := ne_z h_337 z_377
  have n_747 : q_20 ≠ q_355 := ne_z h_338 z_377
  have n_748 : q_21 ≠ q_355 := ne_z h_339 z_377
  have n_749 : q_22 ≠ q_355 := ne_z h_340 z_377
  have n_750 : q_23 ≠ q_355 := ne_z h_341 z_377
  have n_751 : q_24 ≠ q_355 := ne_z h_342 z_377
  have n_752 : q_25 ≠ q_355 := ne_z h_343 z_377
  have n_753 : q_26 ≠ q_355 := ne_z h_344 z_377
  have n_754 : q_27 ≠ q_355 := ne_z h_345 z_377
  have n_755 : q_28 ≠ q_355 := ne_z h_346 z_377
  have n_756 : q_29 ≠ q_355 := ne_z h_347 z_377
  have n_757 : q_300 ≠ q_355 := ne_z h_303 z_377
  have n_758 : q_1 ≠ q_356 := ne_z h_327 z_378
  have n_759 : q_10 ≠ q_356 := ne_z h_328 z_378
  have n_760 : q_11 ≠ q_356 := ne_z h_329 z_378
  have n_761 : q_12 ≠ q_356 := ne_z h_330 z_378
  have n_762 : q_13 ≠ q_356 := ne_z h_331 z_378
  have n_763 : q_14 ≠ q_356 := ne_z h_332 z_378
  have n_764 : q_15 ≠ q_356 := ne_z h_333 z_378
  have n_765 : q_16 ≠ q_356 := ne_z h_334 z_378
  have n_766 : q_17 ≠ q_356 := ne_z h_335 z_378
  have n_767 : q_18 ≠ q_356 := ne_z h_336 z_378
  have n_768 : q_19 ≠ q_356 := ne_z h_337 z_378
  have n_769 : q_20 ≠ q_356 := ne_z h_338 z_378
  have n_770 : q_21 ≠ q_356 := ne_z h_339 z_378
  have n_771 : q_22 ≠ q_356 := ne_z h_340 z_378
  have n_772 : q_23 ≠ q_356 := ne_z h_341 z_378
  have n_773 : q_24 ≠ q_356 := ne_z h_342 z_378
  have n_774 : q_25 ≠ q_356 := ne_z h_343 z_378
  have n_775 : q_26 ≠ q_356 := ne_z h_344 z_378
  have n_776 : q_27 ≠ q_356 := ne_z h_345 z_378
  have n_777 : q_28 ≠ q_356 := ne_z h_346 z_378
  have n_778 : q_29 ≠ q_356 := ne_z h_347 z_378
  have n_779 : q_300 ≠ q_356 := ne_z h_303 z_378
  have n_780 : q_1 ≠ q_357 := ne_z h_327 z_379
  have n_781 : q_10 ≠ q_357 := ne_z h_328 z_379
  have n_782 : q_11 ≠ q_357 := ne_z h_329 z_379
  have n_783 : q_12 ≠ q_357 := ne_z h_330 z_379
  have n_784 : q_13 ≠ q_357 := ne_z h_331 z_379
  have n_785 : q_14 ≠ q_357 := ne_z h_332 z_379
  have n_786 : q_15 ≠ q_357 := ne_z h_333 z_379
  have n_787 : q_16 ≠ q_357 := ne_z h_334 z_379
  have n_788 : q_17 ≠ q_357 := ne_z h_335 z_379
  have n_789 : q_18 ≠ q_357 := ne_z h_336 z_379
  have n_790 : q_19 ≠ q_357 := ne_z h_337 z_379
  have n_791 : q_20 ≠ q_357 := ne_z h_338 z_379
  have n_792 : q_21 ≠ q_357 := ne_z h_339 z_379
  have n_793 : q_22 ≠ q_357 := ne_z h_340 z_379
  have n_794 : q_23 ≠ q_357 := ne_z h_341 z_379
  have n_795 : q_24 ≠ q_357 := ne_z h_342 z_379
  have n_796 : q_25 ≠ q_357 := ne_z h_343 z_379
  have n_797 : q_26 ≠ q_357 := ne_z h_344 z_379
  have n_798 : q_27 ≠ q_357 := ne_z h_345 z_379
  have n_799 : q_28 ≠ q_357 := ne_z h_346 z_379
  have n_800 : q_29 ≠ q_357 := ne_z h_347 z_379
  have n_801 : q_300 ≠ q_357 := ne_z h_303 z_379
  have n_802 : q_1 ≠ q_358 := ne_z h_327 z_380
  have n_803 : q_10 ≠ q_358 := ne_z h_328 z_380
  have n_804 : q_11 ≠ q_358 := ne_z h_329 z_380
  have n_805 : q_12 ≠ q_358 := ne_z h_330 z_380
  have n_806 : q_13 ≠ q_358 := ne_z h_331 z_380
  have n_807 : q_14 ≠ q_358 := ne_z h_332 z_380
  have n_808 : q_15 ≠ q_358 := ne_z h_333 z_380
  have n_809 : q_16 ≠ q_358 := ne_z h_334 z_380
  have n_810 : q_17 ≠ q_358 := ne_z h_335 z_380
  have n_811 : q_18 ≠ q_358 := ne_z h_336 z_380
  have n_812 : q_19 ≠ q_358 := ne_z h_337 z_380
  have n_813 : q_20 ≠ q_358 := ne_z h_338 z_380
  have n_814 : q_21 ≠ q_358 := ne_z h_339 z_380
  have n_815 : q_22 ≠ q_358 := ne_z h_340 z_380
  have n_816 : q_23 ≠ q_358 := ne_z h_341 z_380
  have n_817 : q_24 ≠ q_358 := ne_z h_342 z_380
  have n_818 : q_25 ≠ q_358 := ne_z h_343 z_380
  have n_819 : q_26 ≠ q_358 := ne_z h_344 z_380
  have n_820 : q_27 ≠ q_358 := ne_z h_345 z_380
  have n_821 : q_28 ≠ q_358 := ne_z h_346 z_380
  have n_822 : q_29 ≠ q_358 := ne_z h_347 z_380
  have n_823 : q_300 ≠ q_358 := ne_z h_303 z_380
  have n_824 : q_1 ≠ q_359 := ne_z h_327 z_381
  have n_825 : q_10 ≠ q_359 := ne_z h_328 z_381
  have n_826 : q_11 ≠ q_359 := ne_z h_329 z_381
  have n_827 : q_12 ≠ q_359 := ne_z h_330 z_381
  have n_828 : q_13 ≠ q_359 := ne_z h_331 z_381
  have n_829 : q_14 ≠ q_359 := ne_z h_332 z_381
  have n_830 : q_15 ≠ q_359 := ne_z h_333 z_381
  have n_831 : q_16 ≠ q_359 := ne_z h_334 z_381
  have n_832 : q_17 ≠ q_359 := ne_z h_335 z_381
  have n_833 : q_18 ≠ q_359 := ne_z h_336 z_381
  have n_834 : q_19 ≠ q_359 := ne_z h_337 z_381
  have n_835 : q_20 ≠ q_359 := ne_z h_338 z_381
  have n_836 : q_21 ≠ q_359 := ne_z h_339 z_381
  have n_837 : q_22 ≠ q_359 := ne_z h_340 z_381
  have n_838 : q_23 ≠ q_359 := ne_z h_341 z_381
  have n_839 : q_24 ≠ q_359 := ne_z h_342 z_381
  have n_840 : q_25 ≠ q_359 := ne_z h_343 z_381
  have n_841 : q_26 ≠ q_359 := ne_z h_344 z_381
  have n_842 : q_27 ≠ q_359 := ne_z h_345 z_381
  have n_843 : q_28 ≠ q_359 := ne_z h_346 z_381
  have n_844 : q_29 ≠ q_359 := ne_z h_347 z_381
  have n_845 : q_300 ≠ q_359 := ne_z h_303 z_381
  have n_846 : q_1 ≠ q_360 := ne_z h_327 z_382
  have n_847 : q_10 ≠ q_360 := ne_z h_328 z_382
  have n_848 : q_11 ≠ q_360 := ne_z h_329 z_382
  have n_849 : q_12 ≠ q_360 := ne_z h_330 z_382
  have n_850 : q_13 ≠ q_360 := ne_z h_331 z_382
  have n_851 : q_14 ≠ q_360 := ne_z h_332 z_382
  have n_852 : q_15 ≠ q_360 := ne_z h_333 z_382
  have n_853 : q_16 ≠ q_360 := ne_z h_334 z_382
  have n_854 : q_17 ≠ q_360 := ne_z h_335 z_382
  have n_855 : q_18 ≠ q_360 := ne_z h_336 z_382
  have n_856 : q_19 ≠ q_360 := ne_z h_337 z_382
  have n_857 : q_20 ≠ q_360 := ne_z h_338 z_382
  have n_858 : q_21 ≠ q_360 := ne_z h_339 z_382
  have n_859 : q_22 ≠ q_360 := ne_z h_340 z_382
  have n_860 : q_23 ≠ q_360 := ne_z h_341 z_382
  have n_861 : q_24 ≠ q_360 := ne_z h_342 z_382
  have n_862 : q_25 ≠ q_360 := ne_z h_343 z_382
  have n_863 : q_26 ≠ q_360 := ne_z h_344 z_382
  have n_864 : q_27 ≠ q_360 := ne_z h_345 z_382
  have n_865 : q_28 ≠ q_360 := ne_z h_346 z_382
  have n_866 : q_29 ≠ q_360 := ne_z h_347 z_382
  have n_867 : q_300 ≠ q_360 := ne_z h_303 z_382
  have n_868 : q_1 ≠ q_361 := ne_z h_327 z_383
  have n_869 : q_10 ≠ q_361 := ne_z h_328 z_383
  have n_870 : q_11 ≠ q_361 := ne_z h_329 z_383
  have n_871 : q_12 ≠ q_361 := ne_z h_330 z_383
  have n_872 : q_13 ≠ q_361 := ne_z h_331 z_383
  have n_873 : q_14 ≠ q_361 := ne_z h_332 z_383
  have n_874 : q_15 ≠ q_361 := ne_z h_333 z_383
  have n_875 : q_16 ≠ q_361 := ne_z h_334 z_383
  have n_876 : q_17 ≠ q_361 := ne_z h_335 z_383
  have n_877 : q_18 ≠ q_361 := ne_z h_336 z_383
  have n_878 : q_19 ≠ q_361 := ne_z h_337 z_383
  have n_879 : q_20 ≠ q_361 := ne_z h_338 z_383
  have n_880 : q_21 ≠ q_361 := ne_z h_339 z_383
  have n_881 : q_22 ≠ q_361 := ne_z h_340 z_383
  have n_882 : q_23 ≠ q_361 := ne_z h_341 z_383
  have n_883 : q_24 ≠ q_361 := ne_z h_342 z_383
  have n_884 : q_25 ≠ q_361 := ne_z h_343 z_383
  have n_885 : q_26 ≠ q_361 := ne_z h_344 z_383
  have n_886 : q_27 ≠ q_361 := ne_z h_345 z_383
  have n_887 : q_28 ≠ q_361 := ne_z h_346 z_383
  have n_888 : q_29 ≠ q_361 := ne_z h_347 z_383
  have n_889 : q_300 ≠ q_361 := ne_z h_303 z_383
  have n_890 : q_1 ≠ q_362 := ne_z h_327 z_384
  have n_891 : q_10 ≠ q_362 := ne_z h_328 z_384
  have n_892 : q_11 ≠ q_362 := ne_z h_329 z_384
  have n_893 : q_12 ≠ q_362 := ne_z h_330 z_384
  have n_894 : q_13 ≠ q_362 := ne_z h_331 z_384
  have n_895 : q_14 ≠ q_362 := ne_z h_332 z_384
  have n_896 : q_15 ≠ q_362 := ne_z h_333 z_384
  have n_897 : q_16 ≠ q_362 := ne_z h_334 z_384
  have n_898 : q_17 ≠ q_362 := ne_z h_335 z_384
  have n_899 : q_18 ≠ q_362 := ne_z h_336 z_384
  have n_900 : q_19 ≠ q_362 := ne_z h_337 z_384
  have n_901 : q_20 ≠ q_362 := ne_z h_338 z_384
  have n_902 : q_21 ≠ q_362 := ne_z h_339 z_384
  have n_903 : q_22 ≠ q_362 := ne_z h_340 z_384
  have n_904 : q_23 ≠ q_362 := ne_z h_341 z_384
  have n_905 : q_24 ≠ q_362 := ne_z h_342 z_384
  have n_906 : q_25 ≠ q_362 := ne_z h_343 z_384
  have n_907 : q_26 ≠ q_362 := ne_z h_344 z_384
  have n_908 : q_27 ≠ q_362 := ne_z h_345 z_384
  have n_909 : q_28 ≠ q_362 := ne_z h_346 z_384
  have n_910 : q_29 ≠ q_362 := ne_z h_347 z_384
  have n_911 : q_300 ≠ q_362 := ne_z h_303 z_384
  have n_912 : q_1 ≠ q_363 := ne_z h_327 z_385
  have n_913 : q_10 ≠ q_363 := ne_z h_328 z_385
  have n_914 : q_11 ≠ q_363 := ne_z h_329 z_385
  have n_915 : q_12 ≠ q_363 := ne_z h_330 z_385
  have n_916 : q_13 ≠ q_363 := ne_z h_331 z_385
  have n_917 : q_14 ≠ q_363 := ne_z h_332 z_385
  have n_918 : q_15 ≠ q_363 := ne_z h_333 z_385
  have n_919 : q_16 ≠ q_363 := ne_z h_334 z_385
  have n_920 : q_17 ≠ q_363 := ne_z h_335 z_385
  have n_921 : q_18 ≠ q_363 := ne_z h_336 z_385
  have n_922 : q_19 ≠ q_363 := ne_z h_337 z_385
  have n_923 : q_20 ≠ q_363 := ne_z h_338 z_385
  have n_924 : q_21 ≠ q_363 := ne_z h_339 z_385
  have n_925 : q_22 ≠ q_363 := ne_z h_340 z_385
  have n_926 : q_23 ≠ q_363 := ne_z h_341 z_385
  have n_927 : q_24 ≠ q_363 := ne_z h_342 z_385
  have n_928 : q_25 ≠ q_363 := ne_z h_343 z_385
  have n_929 : q_26 ≠ q_363 := ne_z h_344 z_385
  have n_930 : q_27 ≠ q_363 := ne_z h_345 z_385
  have n_931 : q_28 ≠ q_363 := ne_z h_346 z_385
  have n_932 : q_29 ≠ q_363 := ne_z h_347 z_385
  have n_933 : q_300 ≠ q_363 := ne_z h_303 z_385
  have n_934 : q_1 ≠ q_364 := ne_z h_327 z_386
  have n_935 : q_10 ≠ q_364 := ne_z h_328 z_386
  have n_936 : q_11 ≠ q_364 := ne_z h_329 z_386
  have n_937 : q_12 ≠ q_364 := ne_z h_330 z_386
  have n_938 : q_13 ≠ q_364 := ne_z h_331 z_386
  have n_939 : q_14 ≠ q_364 := ne_z h_332 z_386
  have n_940 : q_15 ≠ q_364 := ne_z h_333 z_386
  have n_941 : q_16 ≠ q_364 := ne_z h_334 z_386
  have n_942 : q_17 ≠ q_364 := ne_z h_335 z_386
  have n_943 : q_18 ≠ q_364 := ne_z h_336 z_386
  have n_944 : q_19 ≠ q_364 := ne_z h_337 z_386
  have n_945 : q_20 ≠ q_364 := ne_z h_338 z_386
  have n_946 : q_21 ≠ q_364 := ne_z h_339 z_386
  have n_947 : q_22 ≠ q_364 := ne_z h_340 z_386
  have n_948 : q_23 ≠ q_364 := ne_z h_341 z_386
  have n_949 : q_24 ≠ q_364 := ne_z h_342 z_386
  have n_950 : q_25 ≠ q_364 := ne_z h_343 z_386
  have n_951 : q_26 ≠ q_364 := ne_z h_344 z_386
  have n_952 : q_27 ≠ q_364 := ne_z h_345 z_386
  have n_953 : q_28 ≠ q_364 := ne_z h_346 z_386
  have n_954 : q_29 ≠ q_364 := ne_z h_347 z_386
  have n_955 : q_300 ≠ q_364 := ne_z h_303 z_386
  have n_956 : q_1 ≠ q_365 := ne_z h_327 z_387
  have n_957 : q_10 ≠ q_365 := ne_z h_328 z_387
  have n_958 : q_11 ≠ q_365 := ne_z h_329 z_387
  have n_959 : q_12 ≠ q_365 := ne_z h_330 z_387
  have n_960 : q_13 ≠ q_365 := ne_z h_331 z_387
  have n_961 : q_14 ≠ q_365 := ne_z h_332 z_387
  have n_962 : q_15 ≠ q_365 := ne_z h_333 z_387
  have n_963 : q_16 ≠ q_365 := ne_z h_334 z_387
  have n_964 : q_17 ≠ q_365 := ne_z h_335 z_387
  have n_965 : q_18 ≠ q_365 := ne_z h_336 z_387
  have n_966 : q_19 ≠ q_365 := ne_z h_337 z_387
  have n_967 : q_20 ≠ q_365 := ne_z h_338 z_387
  have n_968 : q_21 ≠ q_365 := ne_z h_339 z_387
  have n_969 : q_22 ≠ q_365 := ne_z h_340 z_387
  have n_970 : q_23 ≠ q_365 := ne_z h_341 z_387
  have n_971 : q_24 ≠ q_365 := ne_z h_342 z_387
  have n_972 : q_25 ≠ q_365 := ne_z h_343 z_387
  have n_973 : q_26 ≠ q_365 := ne_z h_344 z_387
  have n_974 : q_27 ≠ q_365 := ne_z h_345 z_387
  have n_975 : q_28 ≠ q_365 := ne_z h_346 z_387
  have n_976 : q_29 ≠ q_365 := ne_z h_347 z_387
  have n_977 : q_300 ≠ q_365 := ne_z h_303 z_387
  have n_978 : q_1 ≠ q_366 := ne_z h_327 z_388
  have n_979 : q_10 ≠ q_366 := ne_z h_328 z_388
  have n_980 : q_11 ≠ q_366 := ne_z h_329 z_388
  have n_981 : q_12 ≠ q_366 := ne_z h_330 z_388
  have n_982 : q_13 ≠ q_366 := ne_z h_331 z_388
  have n_983 : q_14 ≠ q_366 := ne_z h_332 z_388
  have n_984 : q_15 ≠ q_366 := ne_z h_333 z_388
  have n_985 : q_16 ≠ q_366 := ne_z h_334 z_388
  have n_986 : q_17 ≠ q_366 := ne_z h_335 z_388
  have n_987 : q_18 ≠ q_366 := ne_z h_336 z_388
  have n_988 : q_19 ≠ q_366 := ne_z h_337 z_388
  have n_989 : q_20 ≠ q_366 := ne_z h_338 z_388
  have n_990 : q_21 ≠ q_366 := ne_z h_339 z_388
  have n_991 : q_22 ≠ q_366 := ne_z h_340 z_388
  have n_992 : q_23 ≠ q_366 := ne_z h_341 z_388
  have n_993 : q_24 ≠ q_366 := ne_z h_342 z_388
  have n_994 : q_25 ≠ q_366 := ne_z h_343 z_388
  have n_995 : q_26 ≠ q_366 := ne_z h_344 z_388
  have n_996 : q_27 ≠ q_366 := ne_z h_345 z_388
  have n_997 : q_28 ≠ q_366 := ne_z h_346 z_388
  have n_998 : q_29 ≠ q_366 := ne_z h_347 z_388
  have n_999 : q_300 ≠ q_366 := ne_z h_303 z_388
  have n_1000 : q_1 ≠ q_367 := ne_z h_327 z_389
  have n_1001 : q_10 ≠ q_367 := ne_z h_328 z_389
  have n_1002 : q_11 ≠ q_367 := ne_z h_329 z_389
  have n_1003 : q_12 ≠ q_367 := ne_z h_330 z_389
  have n_1004 : q_13 ≠ q_367 := ne_z h_331 z_389
  have n_1005 : q_14 ≠ q_367 := ne_z h_332 z_389
  have n_1006 : q_15 ≠ q_367 := ne_z h_333 z_389
  have n_1007 : q_16 ≠ q_367 := ne_z h_334 z_389
  have n_1008 : q_17 ≠ q_367 := ne_z h_335 z_389
  have n_1009 : q_18 ≠ q_367 := ne_z h_336 z_389
  have n_1010 : q_19 ≠ q_367 := ne_z h_337 z_389
  have n_1011 : q_20 ≠ q_367 := ne_z h_338 z_389
  have n_1012 : q_21 ≠ q_367 := ne_z h_339 z_389
  have n_1013 : q_22 ≠ q_367 := ne_z h_340 z_389
  have n_1014 : q_23 ≠ q_367 := ne_z h_341 z_389
  have n_1015 : q_24 ≠ q_367 := ne_z h_342 z_389
  have n_1016 : q_25 ≠ q_367 := ne_z h_343 z_389
  have n_1017 : q_26 ≠ q_367 := ne_z h_344 z_389
  have n_1018 : q_27 ≠ q_367 := ne_z h_345 z_389
  have n_1019 : q_28 ≠ q_367 := ne_z h_346 z_389
  have n_1020 : q_29 ≠ q_367 := ne_z h_347 z_389
  have n_1021 : q_300 ≠ q_367 := ne_z h_303 z_389
  have n_1022 : q_1 ≠ q_368 := ne_z h_327 z_390
  have n_1023 : q_10 ≠ q_368 := ne_z h_328 z_390
  have n_1024 : q_11 ≠ q_368 := ne_z h_329 z_390
  have n_1025 : q_12 ≠ q_368 := ne_z h_330 z_390
  have n_1026 : q_13 ≠ q_368 := ne_z h_331 z_390
  have n_1027 : q_14 ≠ q_368 := ne_z h_332 z_390
  have n_1028 : q_15 ≠ q_368 := ne_z h_333 z_390
  have n_1029 : q_16 ≠ q_368 := ne_z h_334 z_390
  have n_1030 : q_17 ≠ q_368 := ne_z h_335 z_390
  have n_1031 : q_18 ≠ q_368 := ne_z h_336 z_390
  have n_1032 : q_19 ≠ q_368 := ne_z h_337 z_390
  have n_1033 : q_20 ≠ q_368 := ne_z h_338 z_390
  have n_1034 : q_21 ≠ q_368 := ne_z h_339 z_390
  have n_1035 : q_22 ≠ q_368 := ne_z h_340 z_390
  have n_1036 : q_23 ≠ q_368 := ne_z h_341 z_390
  have n_1037 : q_24 ≠ q_368 := ne_z h_342 z_390
  have n_1038 : q_25 ≠ q_368 := ne_z h_343 z_390
  have n_1039 : q_26 ≠ q_368 := ne_z h_344 z_390
  have n_1040 : q_27 ≠ q_368 := ne_z h_345 z_390
  have n_1041 : q_28 ≠ q_368 := ne_z h_346 z_390
  have n_1042 : q_29 ≠ q_368 := ne_z h_347 z_390
  have n_1043 : q_300 ≠ q_368 := ne_z h_303 z_390
  have n_1044 : q_1 ≠ q_369 := ne_z h_327 z_391
  have n_1045 : q_10 ≠ q_369 := ne_z h_328 z_391
  have n_1046 : q_11 ≠ q_369 := ne_z h_329 z_391
  have n_1047 : q_12 ≠ q_369 := ne_z h_330 z_391
  have n_1048 : q_13 ≠ q_369 := ne_z h_331 z_391
  have n_1049 : q_14 ≠ q_369 := ne_z h_332 z_391
  have n_1050 : q_15 ≠ q_369 := ne_z h_333 z_391
  have n_1051 : q_16 ≠ q_369 := ne_z h_334 z_391
  have n_1052 : q_17 ≠ q_369 := ne_z h_335 z_391
  have n_1053 : q_18 ≠ q_369 := ne_z h_336 z_391
  have n_1054 : q_19 ≠ q_369 := ne_z h_337 z_391
  have n_1055 : q_20 ≠ q_369 := ne_z h_338 z_391
  have n_1056 : q_21 ≠ q_369 := ne_z h_339 z_391
  have n_1057 : q_22 ≠ q_369 := ne_z h_340 z_391
  have n_1058 : q_23 ≠ q_369 := ne_z h_341 z_391
  have n_1059 : q_24 ≠ q_369 := ne_z h_342 z_391
  have n_1060 : q_25 ≠ q_369 := ne_z h_343 z_391
  have n_1061 : q_26 ≠ q_369 := ne_z h_344 z_391
  have n_1062 : q_27 ≠ q_369 := ne_z h_345 z_391
  have n_1063 : q_28 ≠ q_369 := ne_z h_346 z_391
  have n_1064 : q_29 ≠ q_369 := ne_z h_347 z_391
  have n_1065 : q_300 ≠ q_369 := ne_z h_303 z_391
  have n_1066 : q_1 ≠ q_370 := ne_z h_327 z_392
  have n_1067 : q_10 ≠ q_370 := ne_z h_328 z_392
  have n_1068 : q_11 ≠ q_370 := ne_z h_329 z_392
  have n_1069 : q_12 ≠ q_370 := ne_z h_330 z_392
  have n_1070 : q_13 ≠ q_370 := ne_z h_331 z_392
  have n_1071 : q_14 ≠ q_370 := ne_z h_332 z_392
  have n_1072 : q_15 ≠ q_370 := ne_z h_333 z_392
  have n_1073 : q_16 ≠ q_370 := ne_z h_334 z_392
  have n_1074 : q_17 ≠ q_370 := ne_z h_335 z_392
  have n_1075 : q_18 ≠ q_370 := ne_z h_336 z_392
  have n_1076 : q_19 ≠ q_370 := ne_z h_337 z_392
  have n_1077 : q_20 ≠ q_370 := ne_z h_338 z_392
  have n_1078 : q_21 ≠ q_370 := ne_z h_339 z_392
  have n_1079 : q_22 ≠ q_370 := ne_z h_340 z_392
  have n_1080 : q_23 ≠ q_370 := ne_z h_341 z_392
  have n_1081 : q_24 ≠ q_370 := ne_z h_342 z_392
  have n_1082 : q_25 ≠ q_370 := ne_z h_343 z_392
  have n_1083 : q_26 ≠ q_370 := ne_z h_344 z_392
  have n_1084 : q_27 ≠ q_370 := ne_z h_345 z_392
  have n_1085 : q_28 ≠ q_370 := ne_z h_346 z_392
  have n_1086 : q_29 ≠ q_370 := ne_z h_347 z_392
  have n_1087 : q_300 ≠ q_370 := ne_z h_303 z_392
  have n_1088 : q_1 ≠ q_371 := ne_z h_327 z_393
  have n_1089 : q_10 ≠ q_371 := ne_z h_328 z_393
  have n_1090 : q_11 ≠ q_371 := ne_z h_329 z_393
  have n_1091 : q_12 ≠ q_371 := ne_z h_330 z_393
  have n_1092 : q_13 ≠ q_371 := ne_z h_331 z_393
  have n_1093 : q_14 ≠ q_371 := ne_z h_332 z_393
  have n_1094 : q_15 ≠ q_371 := ne_z h_333 z_393
  have n_1095 : q_16 ≠ q_371 := ne_z h_334 z_393
  have n_1096 : q_17 ≠ q_371 := ne_z h_335 z_393
  have n_1097 : q_18 ≠ q_371 := ne_z h_336 z_393
  have n_1098 : q_19 ≠ q_371 := ne_z h_337 z_393
  have n_1099 : q_20 ≠ q_371 := ne_z h_338 z_393
  have n_1100 : q_21 ≠ q_371 := ne_z h_339 z_393
  have n_1101 : q_22 ≠ q_371 := ne_z h_340 z_393
  have n_1102 : q_23 ≠ q_371 := ne_z h_341 z_393
  have n_1103 : q_24 ≠ q_371 := ne_z h_342 z_393
  have n_1104 : q_25 ≠ q_371 := ne_z h_343 z_393
  have n_1105 : q_26 ≠ q_371 := ne_z h_344 z_393
  have n_1106 : q_27 ≠ q_371 := ne_z h_345 z_393
  have n_1107 : q_28 ≠ q_371 := ne_z h_346 z_393
  have n_1108 : q_29 ≠ q_371 := ne_z h_347 z_393
  have n_1109 : q_300 ≠ q_371 := ne_z h_303 z_393
  have n_1110 : q_1 ≠ q_372 := ne_z h_327 z_394
  have n_1111 : q_10 ≠ q_372 := ne_z h_328 z_394
  have n_1112 : q_11 ≠ q_372 := ne_z h_329 z_394
  have n_1113 : q_12 ≠ q_372 := ne_z h_330 z_394
  have n_1114 : q_13 ≠ q_372 := ne_z h_331 z_394
  have n_1115 : q_14 ≠ q_372 := ne_z h_332 z_394
  have n_1116 : q_15 ≠ q_372 := ne_z h_333 z_394
  have n_1117 : q_16 ≠ q_372 := ne_z h_334 z_394
  have n_1118 : q_17 ≠ q_372 := ne_z h_335 z_394
  have n_1119 : q_18 ≠ q_372 := ne_z h_336 z_394
  have n_1120 : q_19 ≠ q_372 := ne_z h_337 z_394
  have n_1121 : q_20 ≠ q_372 := ne_z h_338 z_394
  have n_1122 : q_21 ≠ q_372 := ne_z h_339 z_394
  have n_1123 : q_22 ≠ q_372 := ne_z h_340 z_394
  have n_1124 : q_23 ≠ q_372 := ne_z h_341 z_394
  have n_1125 : q_24 ≠ q_372 := ne_z h_342 z_394
  have n_1126 : q_25 ≠ q_372 := ne_z h_343 z_394
  have n_1127 : q_26 ≠ q_372 := ne_z h_344 z_394
  have n_1128 : q_27 ≠ q_372 := ne_z h_345 z_394
  have n_1129 : q_28 ≠ q_372 := ne_z h_346 z_394
  have n_1130 : q_29 ≠ q_372 := ne_z h_347 z_394
  have n_1131 : q_300 ≠ q_372 := ne_z h_303 z_394
  have zb_1132 : M q_351 = none := ((fr_304 q_351 (Ne.symm n_669)).trans ((fr_9 q_351 (Ne.symm n_648) (Ne.symm n_649) (Ne.symm n_650) (Ne.symm n_651) (Ne.symm n_652) (Ne.symm n_653) (Ne.symm n_654) (Ne.symm n_655) (Ne.symm n_656) (Ne.symm n_657) (Ne.symm n_658) (Ne.symm n_659) (Ne.symm n_660) (Ne.symm n_661) (Ne.symm n_662) (Ne.symm n_663) (Ne.symm n_664) (Ne.symm n_665) (Ne.symm n_666) (Ne.symm n_667) (Ne.symm n_668)).trans ((fr_5 q_351 (Ne.symm n_648))))).symm.trans z_373
  have zb_1133 : M q_352 = none := ((fr_304 q_352 (Ne.symm n_691)).trans ((fr_9 q_352 (Ne.symm n_670) (Ne.symm n_671) (Ne.symm n_672) (Ne.symm n_673) (Ne.symm n_674) (Ne.symm n_675) (Ne.symm n_676) (Ne.symm n_677) (Ne.symm n_678) (Ne.symm n_679) (Ne.symm n_680) (Ne.symm n_681) (Ne.symm n_682) (Ne.symm n_683) (Ne.symm n_684) (Ne.symm n_685) (Ne.symm n_686) (Ne.symm n_687) (Ne.symm n_688) (Ne.symm n_689) (Ne.symm n_690)).trans ((fr_5 q_352 (Ne.symm n_670))))).symm.trans z_374
  have zb_1134 : M q_353 = none := ((fr_304 q_353 (Ne.symm n_713)).trans ((fr_9 q_353 (Ne.symm n_692) (Ne.symm n_693) (Ne.symm n_694) (Ne.symm n_695) (Ne.symm n_696) (Ne.symm n_697) (Ne.symm n_698) (Ne.symm n_699) (Ne.symm n_700) (Ne.symm n_701) (Ne.symm n_702) (Ne.symm n_703) (Ne.symm n_704) (Ne.symm n_705) (Ne.symm n_706) (Ne.symm n_707) (Ne.symm n_708) (Ne.symm n_709) (Ne.symm n_710) (Ne.symm n_711) (Ne.symm n_712)).trans ((fr_5 q_353 (Ne.symm n_692))))).symm.trans z_375
  have zb_1135 : M q_354 = none := ((fr_304 q_354 (Ne.symm n_735)).trans ((fr_9 q_354 (Ne.symm n_714) (Ne.symm n_715) (Ne.symm n_716) (Ne.symm n_717) (Ne.symm n_718) (Ne.symm n_719) (Ne.symm n_720) (Ne.symm n_721) (Ne.symm n_722) (Ne.symm n_723) (Ne.symm n_724) (Ne.symm n_725) (Ne.symm n_726) (Ne.symm n_727) (Ne.symm n_728) (Ne.symm n_729) (Ne.symm n_730) (Ne.symm n_731) (Ne.symm n_732) (Ne.symm n_733) (Ne.symm n_734)).trans ((fr_5 q_354 (Ne.symm n_714))))).symm.trans z_376
  have zb_1136 : M q_355 = none := ((fr_304 q_355 (Ne.symm n_757)).trans ((fr_9 q_355 (Ne.symm n_736) (Ne.symm n_737) (Ne.symm n_738) (Ne.symm n_739) (Ne.symm n_740) (Ne.symm n_741) (Ne.symm n_742) (Ne.symm n_743) (Ne.symm n_744) (Ne.symm n_745) (Ne.symm n_746) (Ne.symm n_747) (Ne.symm n_748) (Ne.symm n_749) (Ne.symm n_750) (Ne.symm n_751) (Ne.symm n_752) (Ne.symm n_753) (Ne.symm n_754) (Ne.symm n_755) (Ne.symm n_756)).trans ((fr_5 q_355 (Ne.symm n_736))))).symm.trans z_377
  have zb_1137 : M q_356 = none := ((fr_304 q_356 (Ne.symm n_779)).trans ((fr_9 q_356 (Ne.symm n_758) (Ne.symm n_759) (Ne.symm n_760) (Ne.symm n_761) (Ne.symm n_762) (Ne.symm n_763) (Ne.symm n_764) (Ne.symm n_765) (Ne.symm n_766) (Ne.symm n_767) (Ne.symm n_768) (Ne.symm n_769) (Ne.symm n_770) (Ne.symm n_771) (Ne.symm n_772) (Ne.symm n_773) (Ne.symm n_774) (Ne.symm n_775) (Ne.symm n_776) (Ne.symm n_777) (Ne.symm n_778)).trans ((fr_5 q_356 (Ne.symm n_758))))).symm.trans z_378
  have zb_1138 : M q_357 = none := ((fr_304 q_357 (Ne.symm n_801)).trans ((fr_9 q_357 (Ne.symm n_780) (Ne.symm n_781) (Ne.symm n_782) (Ne.symm n_783) (Ne.symm n_784) (Ne.symm n_785) (Ne.symm n_786) (Ne.symm n_787) (Ne.symm n_788) (Ne.symm n_789) (Ne.symm n_790) (Ne.symm n_791) (Ne.symm n_792) (Ne.symm n_793) (Ne.symm n_794) (Ne.symm n_795) (Ne.symm n_796) (Ne.symm n_797) (Ne.symm n_798) (Ne.symm n_799) (Ne.symm n_800)).trans ((fr_5 q_357 (Ne.symm n_780))))).symm.trans z_379
  have zb_1139 : M q_358 = none := ((fr_304 q_358 (Ne.symm n_823)).trans ((fr_9 q_358 (Ne.symm n_802) (Ne.symm n_803) (Ne.symm n_804) (Ne.symm n_805) (Ne.symm n_806) (Ne.symm n_807) (Ne.symm n_808) (Ne.symm n_809) (Ne.symm n_810) (Ne.symm n_811) (Ne.symm n_812) (Ne.symm n_813) (Ne.symm n_814) (Ne.symm n_815) (Ne.symm n_816) (Ne.symm n_817) (Ne.symm n_818) (Ne.symm n_819) (Ne.symm n_820) (Ne.symm n_821) (Ne.symm n_822)).trans ((fr_5 q_358 (Ne.symm n_802))))).symm.trans z_380
  have zb_1140 : M q_359 = none := ((fr_304 q_359 (Ne.symm n_845)).trans ((fr_9 q_359 (Ne.symm n_824) (Ne.symm n_825) (Ne.symm n_826) (Ne.symm n_827) (Ne.symm n_828) (Ne.symm n_829) (Ne.symm n_830) (Ne.symm n_831) (Ne.symm n_832) (Ne.symm n_833) (Ne.symm n_834) (Ne.symm n_835) (Ne.symm n_836) (Ne.symm n_837) (Ne.symm n_838) (Ne.symm n_839) (Ne.symm n_840) (Ne.symm n_841) (Ne.symm n_842) (Ne.symm n_843) (Ne.symm n_844)).trans ((fr_5 q_359 (Ne.symm n_824))))).symm.trans z_381
  have zb_1141 : M q_360 = none := ((fr_304 q_360 (Ne.symm n_867)).trans ((fr_9 q_360 (Ne.symm n_846) (Ne.symm n_847) (Ne.symm n_848) (Ne.symm n_849) (Ne.symm n_850) (Ne.symm n_851) (Ne.symm n_852) (Ne.symm n_853) (Ne.symm n_854) (Ne.symm n_855) (Ne.symm n_856) (Ne.symm n_857) (Ne.symm n_858) (Ne.symm n_859) (Ne.symm n_860) (Ne.symm n_861) (Ne.symm n_862) (Ne.symm n_863) (Ne.symm n_864) (Ne.symm n_865) (Ne.symm n_866)).trans ((fr_5 q_360 (Ne.symm n_846))))).symm.trans z_382
  have zb_1142 : M q_361 = none := ((fr_304 q_361 (Ne.symm n_889)).trans ((fr_9 q_361 (Ne.symm n_868) (Ne.symm n_869) (Ne.symm n_870) (Ne.symm n_871) (Ne.symm n_872) (Ne.symm n_873) (Ne.symm n_874) (Ne.symm n_875) (Ne.symm n_876) (Ne.symm n_877) (Ne.symm n_878) (Ne.symm n_879) (Ne.symm n_880) (Ne.symm n_881) (Ne.symm n_882) (Ne.symm n_883) (Ne.symm n_884) (Ne.symm n_885) (Ne.symm n_886) (Ne.symm n_887) (Ne.symm n_888)).trans ((fr_5 q_361 (Ne.symm n_868))))).symm.trans z_383
  have zb_1143 : M q_362 = none := ((fr_304 q_362 (Ne.symm n_911)).trans ((fr_9 q_362 (Ne.symm n_890) (Ne.symm n_891) (Ne.symm n_892) (Ne.symm n_893) (Ne.symm n_894) (Ne.symm n_895) (Ne.symm n_896) (Ne.symm n_897) (Ne.symm n_898) (Ne.symm n_899) (Ne.symm n_900) (Ne.symm n_901) (Ne.symm n_902) (Ne.symm n_903) (Ne.symm n_904) (Ne.symm n_905) (Ne.symm n_906) (Ne.symm n_907) (Ne.symm n_908) (Ne.symm n_909) (Ne.symm n_910)).trans ((fr_5 q_362 (Ne.symm n_890))))).symm.trans z_384
  have zb_1144 : M q_363 = none := ((fr_304 q_363 (Ne.symm n_933)).trans ((fr_9 q_363 (Ne.symm n_912) (Ne.symm n_913) (Ne.symm n_914) (Ne.symm n_915) (Ne.symm n_916) (Ne.symm n_917) (Ne.symm n_918) (Ne.symm n_919) (Ne.symm n_920) (Ne.symm n_921) (Ne.symm n_922) (Ne.symm n_923) (Ne.symm n_924) (Ne.symm n_925) (Ne.symm n_926) (Ne.symm n_927) (Ne.symm n_928) (Ne.symm n_929) (Ne.symm n_930) (Ne.symm n_931) (Ne.symm n_932)).trans ((fr_5 q_363 (Ne.symm n_912))))).symm.trans z_385
  have zb_1145 : M q_364 = none := ((fr_304 q_364 (Ne.symm n_955)).trans ((fr_9 q_364 (Ne.symm n_934) (Ne.symm n_935) (Ne.symm n_936) (Ne.symm n_937) (Ne.symm n_938) (Ne.symm n_939) (Ne.symm n_940) (Ne.symm n_941) (Ne.symm n_942) (Ne.symm n_943) (Ne.symm n_944) (Ne.symm n_945) (Ne.symm n_946) (Ne.symm n_947) (Ne.symm n_948) (Ne.symm n_949) (Ne.symm n_950) (Ne.symm n_951) (Ne.symm n_952) (Ne.symm n_953) (Ne.symm n_954)).trans ((fr_5 q_364 (Ne.symm n_934))))).symm.trans z_386
  have zb_1146 : M q_365 = none := ((fr_304 q_365 (Ne.symm n_977)).trans ((fr_9 q_365 (Ne.symm n_956) (Ne.symm n_957) (Ne.symm n_958) (Ne.symm n_959) (Ne.symm n_960) (Ne.symm n_961) (Ne.symm n_962) (Ne.symm n_963) (Ne.symm n_964) (Ne.symm n_965) (Ne.symm n_966) (Ne.symm n_967) (Ne.symm n_968) (Ne.symm n_969) (Ne.symm n_970) (Ne.symm n_971) (Ne.symm n_972) (Ne.symm n_973) (Ne.symm n_974) (Ne.symm n_975) (Ne.symm n_976)).trans ((fr_5 q_365 (Ne.symm n_956))))).symm.trans z_387
  have zb_1147 : M q_366 = none := ((fr_304 q_366 (Ne.symm n_999)).trans ((fr_9 q_366 (Ne.symm n_978) (Ne.symm n_979) (Ne.symm n_980) (Ne.symm n_981) (Ne.symm n_982) (Ne.symm n_983) (Ne.symm n_984) (Ne.symm n_985) (Ne.symm n_986) (Ne.symm n_987) (Ne.symm n_988) (Ne.symm n_989) (Ne.symm n_990) (Ne.symm n_991) (Ne.symm n_992) (Ne.symm n_993) (Ne.symm n_994) (Ne.symm n_995) (Ne.symm n_996) (Ne.symm n_997) (Ne.symm n_998)).trans ((fr_5 q_366 (Ne.symm n_978))))).symm.trans z_388
  have zb_1148 : M q_367 = none := ((fr_304 q_367 (Ne.symm n_1021)).trans ((fr_9 q_367 (Ne.symm n_1000) (Ne.symm n_1001) (Ne.symm n_1002) (Ne.symm n_1003) (Ne.symm n_1004) (Ne.symm n_1005) (Ne.symm n_1006) (Ne.symm n_1007) (Ne.symm n_1008) (Ne.symm n_1009) (Ne.symm n_1010) (Ne.symm n_1011) (Ne.symm n_1012) (Ne.symm n_1013) (Ne.symm n_1014) (Ne.symm n_1015) (Ne.symm n_1016) (Ne.symm n_1017) (Ne.symm n_1018) (Ne.symm n_1019) (Ne.symm n_1020)).trans ((fr_5 q_367 (Ne.symm n_1000))))).symm.trans z_389
  have zb_1149 : M q_368 = none := ((fr_304 q_368 (Ne.symm n_1043)).trans ((fr_9 q_368 (Ne.symm n_1022) (Ne.symm n_1023) (Ne.symm n_1024) (Ne.symm n_1025) (Ne.symm n_1026) (Ne.symm n_1027) (Ne.symm n_1028) (Ne.symm n_1029) (Ne.symm n_1030) (Ne.symm n_1031) (Ne.symm n_1032) (Ne.symm n_1033) (Ne.symm n_1034) (Ne.symm n_1035) (Ne.symm n_1036) (Ne.symm n_1037) (Ne.symm n_1038) (Ne.symm n_1039) (Ne.symm n_1040) (Ne.symm n_1041) (Ne.symm n_1042)).trans ((fr_5 q_368 (Ne.symm n_1022))))).symm.trans z_390
  have zb_1150 : M q_369 = none := ((fr_304 q_369 (Ne.symm n_1065)).trans ((fr_9 q_369 (Ne.symm n_1044) (Ne.symm n_1045) (Ne.symm n_1046) (Ne.symm n_1047) (Ne.symm n_1048) (Ne.symm n_1049) (Ne.symm n_1050) (Ne.symm n_1051) (Ne.symm n_1052) (Ne.symm n_1053) (Ne.symm n_1054) (Ne.symm n_1055) (Ne.symm n_1056) (Ne.symm n_1057) (Ne.symm n_1058) (Ne.symm n_1059) (Ne.symm n_1060) (Ne.symm n_1061) (Ne.symm n_1062) (Ne.symm n_1063) (Ne.symm n_1064)).trans ((fr_5 q_369 (Ne.symm n_1044))))).symm.trans z_391
  have zb_1151 : M q_370 = none := ((fr_304 q_370 (Ne.symm n_1087)).trans ((fr_9 q_370 (Ne.symm n_1066) (Ne.symm n_1067) (Ne.symm n_1068) (Ne.symm n_1069) (Ne.symm n_1070) (Ne.symm n_1071) (Ne.symm n_1072) (Ne.symm n_1073) (Ne.symm n_1074) (Ne.symm n_1075) (Ne.symm n_1076) (Ne.symm n_1077) (Ne.symm n_1078) (Ne.symm n_1079) (Ne.symm n_1080) (Ne.symm n_1081) (Ne.symm n_1082) (Ne.symm n_1083) (Ne.symm n_1084) (Ne.symm n_1085) (Ne.symm n_1086)).trans ((fr_5 q_370 (Ne.symm n_1066))))).symm.trans z_392
  have zb_1152 : M q_371 = none := ((fr_304 q_371 (Ne.symm n_1109)).trans ((fr_9 q_371 (Ne.symm n_1088) (Ne.symm n_1089) (Ne.symm n_1090) (Ne.symm n_1091) (Ne.symm n_1092) (Ne.symm n_1093) (Ne.symm n_1094) (Ne.symm n_1095) (Ne.symm n_1096) (Ne.symm n_1097) (Ne.symm n_1098) (Ne.symm n_1099) (Ne.symm n_1100) (Ne.symm n_1101) (Ne.symm n_1102) (Ne.symm n_1103) (Ne.symm n_1104) (Ne.symm n_1105) (Ne.symm n_1106) (Ne.symm n_1107) (Ne.symm n_1108)).trans ((fr_5 q_371 (Ne.symm n_1088))))).symm.trans z_393
  have zb_1153 : M q_372 = none := ((fr_304 q_372 (Ne.symm n_1131)).trans ((fr_9 q_372 (Ne.symm n_1110) (Ne.symm n_1111) (Ne.symm n_1112) (Ne.symm n_1113) (Ne.symm n_1114) (Ne.symm n_1115) (Ne.symm n_1116) (Ne.symm n_1117) (Ne.symm n_1118) (Ne.symm n_1119) (Ne.symm n_1120) (Ne.symm n_1121) (Ne.symm n_1122) (Ne.symm n_1123) (Ne.symm n_1124) (Ne.symm n_1125) (Ne.symm n_1126) (Ne.symm n_1127) (Ne.symm n_1128) (Ne.symm n_1129) (Ne.symm n_1130)).trans ((fr_5 q_372 (Ne.symm n_1110))))).symm.trans z_394
  have h_1154 : M_348 q_1 = some (.inr (5, [.ref q_10, .ref q_14, .ref q_22])) := (fr_350 _ n_305 n_648 n_670 n_692 n_714 n_736 n_758 n_780 n_802 n_824 n_846 n_868 n_890 n_912 n_934 n_956 n_978 n_1000 n_1022 n_1044 n_1066 n_1088 n_1110).trans h_327
  have h_1155 : M_348 q_10 = some (.inr (3, [.ref q_11, .ref q_12, .ref q_13, .int 0, .int 0])) := (fr_350 _ n_306 n_649 n_671 n_693 n_715 n_737 n_759 n_781 n_803 n_825 n_847 n_869 n_891 n_913 n_935 n_957 n_979 n_1001 n_1023 n_1045 n_1067 n_1089 n_1111).trans h_328
  have h_1156 : M_348 q_11 = some (.inl (cI, 60, .inl (fun _ => 0))) := (fr_350 _ n_307 n_650 n_672 n_694 n_716 n_738 n_760 n_782 n_804 n_826 n_848 n_870 n_892 n_914 n_936 n_958 n_980 n_1002 n_1024 n_1046 n_1068 n_1090 n_1112).trans h_329
  have h_1157 : M_348 q_12 = some (.inl (cI, 60, .inl (fun _ => 0))) := (fr_350 _ n_308 n_651 n_673 n_695 n_717 n_739 n_761 n_783 n_805 n_827 n_849 n_871 n_893 n_915 n_937 n_959 n_981 n_1003 n_1025 n_1047 n_1069 n_1091 n_1113).trans h_330
  have h_1158 : M_348 q_13 = some (.inl (cQ, 60, .inr (.inr (.inr (.inr (fun _ => none)))))) := (fr_350 _ n_309 n_652 n_674 n_696 n_718 n_740 n_762 n_784 n_806 n_828 n_850 n_872 n_894 n_916 n_938 n_960 n_982 n_1004 n_1026 n_1048 n_1070 n_1092 n_1114).trans h_331
  have h_1159 : M_348 q_14 = some (.inr (1, [.ref q_10, .ref q_16, .ref q_18, .ref q_15, .int 0, .int (-1)])) := (fr_350 _ n_310 n_653 n_675 n_697 n_719 n_741 n_763 n_785 n_807 n_829 n_851 n_873 n_895 n_917 n_939 n_961 n_983 n_1005 n_1027 n_1049 n_1071 n_1093 n_1115).trans h_332
  have h_1160 : M_348 q_15 = some (.inl (cI, 4096, .inl (fun _ => 0))) := (fr_350 _ n_311 n_654 n_676 n_698 n_720 n_742 n_764 n_786 n_808 n_830 n_852 n_874 n_896 n_918 n_940 n_962 n_984 n_1006 n_1028 n_1050 n_1072 n_1094 n_1116).trans h_333
  have h_1161 : M_348 q_16 = some (.inr (0, [.ref q_17])) := (fr_350 _ n_312 n_655 n_677 n_699 n_721 n_743 n_765 n_787 n_809 n_831 n_853 n_875 n_897 n_919 n_941 n_963 n_985 n_1007 n_1029 n_1051 n_1073 n_1095 n_1117).trans h_334
  have h_1162 : M_348 q_17 = some (.inl (cL, 16, .inr (.inl (fun _ => 0)))) := (fr_350 _ n_313 n_656 n_678 n_700 n_722 n_744 n_766 n_788 n_810 n_832 n_854 n_876 n_898 n_920 n_942 n_964 n_986 n_1008 n_1030 n_1052 n_1074 n_1096 n_1118).trans h_335
  have h_1163 : M_348 q_18 = some (.inr (2, [.ref q_19, .ref q_20, .ref q_21, .int 0, .int 0])) := (fr_350 _ n_314 n_657 n_679 n_701 n_723 n_745 n_767 n_789 n_811 n_833 n_855 n_877 n_899 n_921 n_943 n_965 n_987 n_1009 n_1031 n_1053 n_1075 n_1097 n_1119).trans h_336
  have h_1164 : M_348 q_19 = some (.inl (cQ, 100, .inr (.inr (.inr (.inr (fun _ => none)))))) := (fr_350 _ n_315 n_658 n_680 n_702 n_724 n_746 n_768 n_790 n_812 n_834 n_856 n_878 n_900 n_922 n_944 n_966 n_988 n_1010 n_1032 n_1054 n_1076 n_1098 n_1120).trans h_337
  have h_1165 : M_348 q_20 = some (.inl (cI, 100, .inl (fun _ => 0))) := (fr_350 _ n_316 n_659 n_681 n_703 n_725 n_747 n_769 n_791 n_813 n_835 n_857 n_879 n_901 n_923 n_945 n_967 n_989 n_1011 n_1033 n_1055 n_1077 n_1099 n_1121).trans h_338
  have h_1166 : M_348 q_21 = some (.inl (cI, 100, .inl (fun _ => 0))) := (fr_350 _ n_317 n_660 n_682 n_704 n_726 n_748 n_770 n_792 n_814 n_836 n_858 n_880 n_902 n_924 n_946 n_968 n_990 n_1012 n_1034 n_1056 n_1078 n_1100 n_1122).trans h_339
  have h_1167 : M_348 q_22 = some (.inr (1, [.ref q_10, .ref q_24, .ref q_26, .ref q_23, .int 0, .int (-1)])) := (fr_350 _ n_318 n_661 n_683 n_705 n_727 n_749 n_771 n_793 n_815 n_837 n_859 n_881 n_903 n_925 n_947 n_969 n_991 n_1013 n_1035 n_1057 n_1079 n_1101 n_1123).trans h_340
  have h_1168 : M_348 q_23 = some (.inl (cI, 0, .inl (fun _ => 0))) := (fr_350 _ n_319 n_662 n_684 n_706 n_728 n_750 n_772 n_794 n_816 n_838 n_860 n_882 n_904 n_926 n_948 n_970 n_992 n_1014 n_1036 n_1058 n_1080 n_1102 n_1124).trans h_341
  have h_1169 : M_348 q_24 = some (.inr (0, [.ref q_25])) := (fr_350 _ n_320 n_663 n_685 n_707 n_729 n_751 n_773 n_795 n_817 n_839 n_861 n_883 n_905 n_927 n_949 n_971 n_993 n_1015 n_1037 n_1059 n_1081 n_1103 n_1125).trans h_342
  have h_1170 : M_348 q_25 = some (.inl (cL, 16, .inr (.inl (fun _ => 0)))) := (fr_350 _ n_321 n_664 n_686 n_708 n_730 n_752 n_774 n_796 n_818 n_840 n_862 n_884 n_906 n_928 n_950 n_972 n_994 n_1016 n_1038 n_1060 n_1082 n_1104 n_1126).trans h_343
  have h_1171 : M_348 q_26 = some (.inr (2, [.ref q_27, .ref q_28, .ref q_29, .int 0, .int 0])) := (fr_350 _ n_322 n_665 n_687 n_709 n_731 n_753 n_775 n_797 n_819 n_841 n_863 n_885 n_907 n_929 n_951 n_973 n_995 n_1017 n_1039 n_1061 n_1083 n_1105 n_1127).trans h_344
  have h_1172 : M_348 q_27 = some (.inl (cQ, 100, .inr (.inr (.inr (.inr (fun _ => none)))))) := (fr_350 _ n_323 n_666 n_688 n_710 n_732 n_754 n_776 n_798 n_820 n_842 n_864 n_886 n_908 n_930 n_952 n_974 n_996 n_1018 n_1040 n_1062 n_1084 n_1106 n_1128).trans h_345
  have h_1173 : M_348 q_28 = some (.inl (cI, 100, .inl (fun _ => 0))) := (fr_350 _ n_324 n_667 n_689 n_711 n_733 n_755 n_777 n_799 n_821 n_843 n_865 n_887 n_909 n_931 n_953 n_975 n_997 n_1019 n_1041 n_1063 n_1085 n_1107 n_1129).trans h_346
  have h_1174 : M_348 q_29 = some (.inl (cI, 100, .inl (fun _ => 0))) := (fr_350 _ n_325 n_668 n_690 n_712 n_734 n_756 n_778 n_800 n_822 n_844 n_866 n_888 n_910 n_932 n_954 n_976 n_998 n_1020 n_1042 n_1064 n_1086 n_1108 n_1130).trans h_347
  refine V.wr (pc' := 16) (lv' := [(2, .ref q_300), (1, .ref q_1), (0, .ref b)]) (fun hl => lv_astore_n X.1 X.2.1 d_Law_law_15 rfl hl (by decide) rfl) ?_
  refine V.go (pc' := 17) (lv_iconst (v := 1) X.1 X.2.1 d_Law_law_16 (by decide)) ?_
  refine V.newa (pc' := 19) (atype := .long) X hK 1 (mcs wd_317) rfl rfl rfl (a0 := (1, .inr (.inl (fun _ => 0)))) (fun _ => rfl) (by decide) (by decide) (by decide) (by decide) (by decide) d_Law_law_17 rfl (fun q_1175 M_1176 z_1177 h_1178 fr_1179 => ?_)
  have n_1180 : q_1 ≠ q_1175 := ne_z h_1154 z_1177
  have n_1181 : q_10 ≠ q_1175 := ne_z h_1155 z_1177
  have n_1182 : q_11 ≠ q_1175 := ne_z h_1156 z_1177
  have n_1183 : q_12 ≠ q_1175 := ne_z h_1157 z_1177
  have n_1184 : q_13 ≠ q_1175 := ne_z h_1158 z_1177
  have n_1185 : q_14 ≠ q_1175 := ne_z h_1159 z_1177
  have n_1186 : q_15 ≠ q_1175 := ne_z h_1160 z_1177
  have n_1187 : q_16 ≠ q_1175 := ne_z h_1161 z_1177
  have n_1188 : q_17 ≠ q_1175 := ne_z h_1162 z_1177
  have n_1189 : q_18 ≠ q_1175 := ne_z h_1163 z_1177
  have n_1190 : q_19 ≠ q_1175 := ne_z h_1164 z_1177
  have n_1191 : q_20 ≠ q_1175 := ne_z h_1165 z_1177
  have n_1192 : q_21 ≠ q_1175 := ne_z h_1166 z_1177
  have n_1193 : q_22 ≠ q_1175 := ne_z h_1167 z_1177
  have n_1194 : q_23 ≠ q_1175 := ne_z h_1168 z_1177
  have n_1195 : q_24 ≠ q_1175 := ne_z h_1169 z_1177
  have n_1196 : q_25 ≠ q_1175 := ne_z h_1170 z_1177
  have n_1197 : q_26 ≠ q_1175 := ne_z h_1171 z_1177
  have n_1198 : q_27 ≠ q_1175 := ne_z h_1172 z_1177
  have n_1199 : q_28 ≠ q_1175 := ne_z h_1173 z_1177
  have n_1200 : q_29 ≠ q_1175 := ne_z h_1174 z_1177
  have n_1201 : q_300 ≠ q_1175 := ne_z h_349 z_1177
  have n_1202 : q_351 ≠ q_1175 := ne_z h_626 z_1177
  have n_1203 : q_352 ≠ q_1175 := ne_z h_627 z_1177
  have n_1204 : q_353 ≠ q_1175 := ne_z h_628 z_1177
  have n_1205 : q_354 ≠ q_1175 := ne_z h_629 z_1177
  have n_1206 : q_355 ≠ q_1175 := ne_z h_630 z_1177
  have n_1207 : q_356 ≠ q_1175 := ne_z h_631 z_1177
  have n_1208 : q_357 ≠ q_1175 := ne_z h_632 z_1177
  have n_1209 : q_358 ≠ q_1175 := ne_z h_633 z_1177
  have n_1210 : q_359 ≠ q_1175 := ne_z h_634 z_1177
  have n_1211 : q_360 ≠ q_1175 := ne_z h_635 z_1177
  have n_1212 : q_361 ≠ q_1175 := ne_z h_636 z_1177
  have n_1213 : q_362 ≠ q_1175 := ne_z h_637 z_1177
  have n_1214 : q_363 ≠ q_1175 := ne_z h_638 z_1177
  have n_1215 : q_364 ≠ q_1175 := ne_z h_639 z_1177
  have n_1216 : q_365 ≠ q_1175 := ne_z h_640 z_1177
  have n_1217 : q_366 ≠ q_1175 := ne_z h_641 z_1177
  have n_1218 : q_367 ≠ q_1175 := ne_z h_642 z_1177
  have n_1219 : q_368 ≠ q_1175 := ne_z h_643 z_1177
  have n_1220 : q_369 ≠ q_1175 := ne_z h_644 z_1177
  have n_1221 : q_370 ≠ q_1175 := ne_z h_645 z_1177
  have n_1222 : q_371 ≠ q_1175 := ne_z h_646 z_1177
  have n_1223 : q_372 ≠ q_1175 := ne_z h_647 z_1177
  have zb_1224 : M q_1175 = none := ((fr_350 q_1175 (Ne.symm n_1201) (Ne.symm n_1202) (Ne.symm n_1203) (Ne.symm n_1204) (Ne.symm n_1205) (Ne.symm n_1206) (Ne.symm n_1207) (Ne.symm n_1208) (Ne.symm n_1209) (Ne.symm n_1210) (Ne.symm n_1211) (Ne.symm n_1212) (Ne.symm n_1213) (Ne.symm n_1214) (Ne.symm n_1215) (Ne.symm n_1216) (Ne.symm n_1217) (Ne.symm n_1218) (Ne.symm n_1219) (Ne.symm n_1220) (Ne.symm n_1221) (Ne.symm n_1222) (Ne.symm n_1223)).trans ((fr_304 q_1175 (Ne.symm n_1201)).trans ((fr_9 q_1175 (Ne.symm n_1180) (Ne.symm n_1181) (Ne.symm n_1182) (Ne.symm n_1183) (Ne.symm n_1184) (Ne.symm n_1185) (Ne.symm n_1186) (Ne.symm n_1187) (Ne.symm n_1188) (Ne.symm n_1189) (Ne.symm n_1190) (Ne.symm n_1191) (Ne.symm n_1192) (Ne.symm n_1193) (Ne.symm n_1194) (Ne.symm n_1195) (Ne.symm n_1196) (Ne.symm n_1197) (Ne.symm n_1198) (Ne.symm n_1199) (Ne.symm n_1200)).trans ((fr_5 q_1175 (Ne.symm n_1180)))))).symm.trans z_1177
  have h_1225 : M_1176 q_1 = some (.inr (5, [.ref q_10, .ref q_14, .ref q_22])) := (fr_1179 _ n_1180).trans h_1154
  have h_1226 : M_1176 q_10 = some (.inr (3, [.ref q_11, .ref q_12, .ref q_13, .int 0, .int 0])) := (fr_1179 _ n_1181).trans h_1155
  have h_1227 : M_1176 q_11 = some (.inl (cI, 60, .inl (fun _ => 0))) := (fr_1179 _ n_1182).trans h_1156
  have h_1228 : M_1176 q_12 = some (.inl (cI, 60, .inl (fun _ => 0))) := (fr_1179 _ n_1183).trans h_1157
  have h_1229 : M_1176 q_13 = some (.inl (cQ, 60, .inr (.inr (.inr (.inr (fun _ => none)))))) := (fr_1179 _ n_1184).trans h_1158
  have h_1230 : M_1176 q_14 = some (.inr (1, [.ref q_10, .ref q_16, .ref q_18, .ref q_15, .int 0, .int (-1)])) := (fr_1179 _ n_1185).trans h_1159
  have h_1231 : M_1176 q_15 = some (.inl (cI, 4096, .inl (fun _ => 0))) := (fr_1179 _ n_1186).trans h_1160
  have h_1232 : M_1176 q_16 = some (.inr (0, [.ref q_17])) := (fr_1179 _ n_1187).trans h_1161
  have h_1233 : M_1176 q_17 = some (.inl (cL, 16, .inr (.inl (fun _ => 0)))) := (fr_1179 _ n_1188).trans h_1162
  have h_1234 : M_1176 q_18 = some (.inr (2, [.ref q_19, .ref q_20, .ref q_21, .int 0, .int 0])) := (fr_1179 _ n_1189).trans h_1163
  have h_1235 : M_1176 q_19 = some (.inl (cQ, 100, .inr (.inr (.inr (.inr (fun _ => none)))))) := (fr_1179 _ n_1190).trans h_1164
  have h_1236 : M_1176 q_20 = some (.inl (cI, 100, .inl (fun _ => 0))) := (fr_1179 _ n_1191).trans h_1165
  have h_1237 : M_1176 q_21 = some (.inl (cI, 100, .inl (fun _ => 0))) := (fr_1179 _ n_1192).trans h_1166
  have h_1238 : M_1176 q_22 = some (.inr (1, [.ref q_10, .ref q_24, .ref q_26, .ref q_23, .int 0, .int (-1)])) := (fr_1179 _ n_1193).trans h_1167
  have h_1239 : M_1176 q_23 = some (.inl (cI, 0, .inl (fun _ => 0))) := (fr_1179 _ n_1194).trans h_1168
  have h_1240 : M_1176 q_24 = some (.inr (0, [.ref q_25])) := (fr_1179 _ n_1195).trans h_1169
  have h_1241 : M_1176 q_25 = some (.inl (cL, 16, .inr (.inl (fun _ => 0)))) := (fr_1179 _ n_1196).trans h_1170
  have h_1242 : M_1176 q_26 = some (.inr (2, [.ref q_27, .ref q_28, .ref q_29, .int 0, .int 0])) := (fr_1179 _ n_1197).trans h_1171
  have h_1243 : M_1176 q_27 = some (.inl (cQ, 100, .inr (.inr (.inr (.inr (fun _ => none)))))) := (fr_1179 _ n_1198).trans h_1172
  have h_1244 : M_1176 q_28 = some (.inl (cI, 100, .inl (fun _ => 0))) := (fr_1179 _ n_1199).trans h_1173
  have h_1245 : M_1176 q_29 = some (.inl (cI, 100, .inl (fun _ => 0))) := (fr_1179 _ n_1200).trans h_1174
  have h_1246 : M_1176 q_300 = some (.inr (6, [.int 0, .ref q_351, .ref q_352, .int 0, .int 0, .ref q_353, .ref q_354, .ref q_355, .ref q_356, .ref q_357, .ref q_358, .ref q_359, .ref q_360, .ref q_361, .ref q_362, .ref q_363, .ref q_364, .ref q_365, .ref q_366, .ref q_367, .ref q_368, .ref q_369, .int 0, .int 0, .int 0, .int 0, .ref q_370, .int (-1), .int 0, .int 0, .int 0, .ref q_371, .ref q_372])) := (fr_1179 _ n_1201).trans h_349
  have h_1247 : M_1176 q_351 = some (.inl (cL, 16, .inr (.inl (fun _ => 0)))) := (fr_1179 _ n_1202).trans h_626
  have h_1248 : M_1176 q_352 = some (.inl (cL, 16, .inr (.inl (fun _ => 0)))) := (fr_1179 _ n_1203).trans h_627
  have h_1249 : M_1176 q_353 = some (.inl (cI, 61, .inl (fun _ => 0))) := (fr_1179 _ n_1204).trans h_628
  have h_1250 : M_1176 q_354 = some (.inl (cI, 61, .inl (fun _ => 0))) := (fr_1179 _ n_1205).trans h_629
  have h_1251 : M_1176 q_355 = some (.inl (cI, 61, .inl (fun _ => 0))) := (fr_1179 _ n_1206).trans h_630
  have h_1252 : M_1176 q_356 = some (.inl (cI, 61, .inl (fun _ => 0))) := (fr_1179 _ n_1207).trans h_631
  have h_1253 : M_1176 q_357 = some (.inl (cI, 61, .inl (fun _ => 0))) := (fr_1179 _ n_1208).trans h_632
  have h_1254 : M_1176 q_358 = some (.inl (cI, 61, .inl (fun _ => 0))) := (fr_1179 _ n_1209).trans h_633
  have h_1255 : M_1176 q_359 = some (.inl (cI, 61, .inl (fun _ => 0))) := (fr_1179 _ n_1210).trans h_634
  have h_1256 : M_1176 q_360 = some (.inl (cI, 61, .inl (fun _ => 0))) := (fr_1179 _ n_1211).trans h_635
  have h_1257 : M_1176 q_361 = some (.inl (cB, 61, .inl (fun _ => 0))) := (fr_1179 _ n_1212).trans h_636
  have h_1258 : M_1176 q_362 = some (.inl (cI, 488, .inl (fun _ => 0))) := (fr_1179 _ n_1213).trans h_637
  have h_1259 : M_1176 q_363 = some (.inl (cI, 488, .inl (fun _ => 0))) := (fr_1179 _ n_1214).trans h_638
  have h_1260 : M_1176 q_364 = some (.inl (cL, 488, .inr (.inl (fun _ => 0)))) := (fr_1179 _ n_1215).trans h_639
  have h_1261 : M_1176 q_365 = some (.inl (cL, 488, .inr (.inl (fun _ => 0)))) := (fr_1179 _ n_1216).trans h_640
  have h_1262 : M_1176 q_366 = some (.inl (cL, 488, .inr (.inl (fun _ => 0)))) := (fr_1179 _ n_1217).trans h_641
  have h_1263 : M_1176 q_367 = some (.inl (cI, 101, .inl (fun _ => 0))) := (fr_1179 _ n_1218).trans h_642
  have h_1264 : M_1176 q_368 = some (.inl (cI, 101, .inl (fun _ => 0))) := (fr_1179 _ n_1219).trans h_643
  have h_1265 : M_1176 q_369 = some (.inl (cI, 101, .inl (fun _ => 0))) := (fr_1179 _ n_1220).trans h_644
  have h_1266 : M_1176 q_370 = some (.inl (cI, 4097, .inl (fun _ => 0))) := (fr_1179 _ n_1221).trans h_645
  have h_1267 : M_1176 q_371 = some (.inl (cI, 4097, .inl (fun _ => 0))) := (fr_1179 _ n_1222).trans h_646
  have h_1268 : M_1176 q_372 = some (.inl (cI, 101, .inl (fun _ => 0))) := (fr_1179 _ n_1223).trans h_647
  refine V.wr (pc' := 20) (lv' := [(3, .ref q_1175), (2, .ref q_300), (1, .ref q_1), (0, .ref b)]) (fun hl => lv_astore_n X.1 X.2.1 d_Law_law_19 rfl hl (by decide) rfl) ?_
  refine V.go (pc' := 21) (lv_iconst (v := 0) X.1 X.2.1 d_Law_law_20 (by decide)) ?_
  refine V.wr (pc' := 23) (lv' := [(4, .int 0), (3, .ref q_1175), (2, .ref q_300), (1, .ref q_1), (0, .ref b)]) (fun hl => lv_istore X.1 X.2.1 d_Law_law_21 hl (by decide) rfl) ?_
  obtain ⟨B_, hB_⟩ := ex_B [q_351, q_352, q_353, q_354, q_355, q_356, q_357, q_358, q_359, q_360, q_361, q_362, q_363, q_364, q_365, q_366, q_367, q_368, q_369, q_370, q_371, q_372]
  have hB_q_351 := hB_ 0 q_351 rfl
  have hB_q_352 := hB_ 1 q_352 rfl
  have hB_q_353 := hB_ 2 q_353 rfl
  have hB_q_354 := hB_ 3 q_354 rfl
  have hB_q_355 := hB_ 4 q_355 rfl
  have hB_q_356 := hB_ 5 q_356 rfl
  have hB_q_357 := hB_ 6 q_357 rfl
  have hB_q_358 := hB_ 7 q_358 rfl
  have hB_q_359 := hB_ 8 q_359 rfl
  have hB_q_360 := hB_ 9 q_360 rfl
  have hB_q_361 := hB_ 10 q_361 rfl
  have hB_q_362 := hB_ 11 q_362 rfl
  have hB_q_363 := hB_ 12 q_363 rfl
  have hB_q_364 := hB_ 13 q_364 rfl
  have hB_q_365 := hB_ 14 q_365 rfl
  have hB_q_366 := hB_ 15 q_366 rfl
  have hB_q_367 := hB_ 16 q_367 rfl
  have hB_q_368 := hB_ 17 q_368 rfl
  have hB_q_369 := hB_ 18 q_369 rfl
  have hB_q_370 := hB_ 19 q_370 rfl
  have hB_q_371 := hB_ 20 q_371 rfl
  have hB_q_372 := hB_ 21 q_372 rfl
  have hnd : ([B_ + 0, q_351, q_352, B_ + 3, B_ + 4, q_353, q_354, q_355, q_356, q_357, q_358, q_359, q_360, q_361, q_362, q_363, q_364, q_365, q_366, q_367, q_368, q_369, B_ + 22, B_ + 23, B_ + 24, B_ + 25, q_370, B_ + 27, B_ + 28, B_ + 29, B_ + 30, q_371, q_372] : List Nat).Nodup := (nd_cons (nd_mem (Ne.symm (nb_q hB_q_351)) (nd_mem (Ne.symm (nb_q hB_q_352)) (nd_mem (nb_b (by decide)) (nd_mem (nb_b (by decide)) (nd_mem (Ne.symm (nb_q hB_q_353)) (nd_mem (Ne.symm (nb_q hB_q_354)) (nd_mem (Ne.symm (nb_q hB_q_355)) (nd_mem (Ne.symm (nb_q hB_q_356)) (nd_mem (Ne.symm (nb_q hB_q_357)) (nd_mem (Ne.symm (nb_q hB_q_358)) (nd_mem (Ne.symm (nb_q hB_q_359)) (nd_mem (Ne.symm (nb_q hB_q_360)) (nd_mem (Ne.symm (nb_q hB_q_361)) (nd_mem (Ne.symm (nb_q hB_q_362)) (nd_mem (Ne.symm (nb_q hB_q_363)) (nd_mem (Ne.symm (nb_q hB_q_364)) (nd_mem (Ne.symm (nb_q hB_q_365)) (nd_mem (Ne.symm (nb_q hB_q_366)) (nd_mem (Ne.symm (nb_q hB_q_367)) (nd_mem (Ne.symm (nb_q hB_q_368)) (nd_mem (Ne.symm (nb_q hB_q_369)) (nd_mem (nb_b (by decide)) (nd_mem (nb_b (by decide)) (nd_mem (nb_b (by decide)) (nd_mem (nb_b (by decide)) (nd_mem (Ne.symm (nb_q hB_q_370)) (nd_mem (nb_b (by decide)) (nd_mem (nb_b (by decide)) (nd_mem (nb_b (by decide)) (nd_mem (nb_b (by decide)) (nd_mem (Ne.symm (nb_q hB_q_371)) (nd_mem (Ne.symm (nb_q hB_q_372)) (fun _ h_ => absurd h_ List.not_mem_nil))))))))))))))))))))))))))))))))) (nd_cons (nd_mem n_395 (nd_mem (nb_q hB_q_351) (nd_mem (nb_q hB_q_351) (nd_mem n_396 (nd_mem n_397 (nd_mem n_398 (nd_mem n_399 (nd_mem n_400 (nd_mem n_401 (nd_mem n_402 (nd_mem n_403 (nd_mem n_404 (nd_mem n_405 (nd_mem n_406 (nd_mem n_407 (nd_mem n_408 (nd_mem n_409 (nd_mem n_410 (nd_mem n_411 (nd_mem n_412 (nd_mem (nb_q hB_q_351) (nd_mem (nb_q hB_q_351) (nd_mem (nb_q hB_q_351) (nd_mem (nb_q hB_q_351) (nd_mem n_413 (nd_mem (nb_q hB_q_351) (nd_mem (nb_q hB_q_351) (nd_mem (nb_q hB_q_351) (nd_mem (nb_q hB_q_351) (nd_mem n_414 (nd_mem n_415 (fun _ h_ => absurd h_ List.not_mem_nil)))))))))))))))))))))))))))))))) (nd_cons (nd_mem (nb_q hB_q_352) (nd_mem (nb_q hB_q_352) (nd_mem n_416 (nd_mem n_417 (nd_mem n_418 (nd_mem n_419 (nd_mem n_420 (nd_mem n_421 (nd_mem n_422 (nd_mem n_423 (nd_mem n_424 (nd_mem n_425 (nd_mem n_426 (nd_mem n_427 (nd_mem n_428 (nd_mem n_429 (nd_mem n_430 (nd_mem n_431 (nd_mem n_432 (nd_mem (nb_q hB_q_352) (nd_mem (nb_q hB_q_352) (nd_mem (nb_q hB_q_352) (nd_mem (nb_q hB_q_352) (nd_mem n_433 (nd_mem (nb_q hB_q_352) (nd_mem (nb_q hB_q_352) (nd_mem (nb_q hB_q_352) (nd_mem (nb_q hB_q_352) (nd_mem n_434 (nd_mem n_435 (fun _ h_ => absurd h_ List.not_mem_nil))))))))))))))))))))))))))))))) (nd_cons (nd_mem (nb_b (by decide)) (nd_mem (Ne.symm (nb_q hB_q_353)) (nd_mem (Ne.symm (nb_q hB_q_354)) (nd_mem (Ne.symm (nb_q hB_q_355)) (nd_mem (Ne.symm (nb_q hB_q_356)) (nd_mem (Ne.symm (nb_q hB_q_357)) (nd_mem (Ne.symm (nb_q hB_q_358)) (nd_mem (Ne.symm (nb_q hB_q_359)) (nd_mem (Ne.symm (nb_q hB_q_360)) (nd_mem (Ne.symm (nb_q hB_q_361)) (nd_mem (Ne.symm (nb_q hB_q_362)) (nd_mem (Ne.symm (nb_q hB_q_363)) (nd_mem (Ne.symm (nb_q hB_q_364)) (nd_mem (Ne.symm (nb_q hB_q_365)) (nd_mem (Ne.symm (nb_q hB_q_366)) (nd_mem (Ne.symm (nb_q hB_q_367)) (nd_mem (Ne.symm (nb_q hB_q_368)) (nd_mem (Ne.symm (nb_q hB_q_369)) (nd_mem (nb_b (by decide)) (nd_mem (nb_b (by decide)) (nd_mem (nb_b (by decide)) (nd_mem (nb_b (by decide)) (nd_mem (Ne.symm (nb_q hB_q_370)) (nd_mem (nb_b (by decide)) (nd_mem (nb_b (by decide)) (nd_mem (nb_b (by decide)) (nd_mem (nb_b (by decide)) (nd_mem (Ne.symm (nb_q hB_q_371)) (nd_mem (Ne.symm (nb_q hB_q_372)) (fun _ h_ => absurd h_ List.not_mem_nil)))))))))))))))))))))))))))))) (nd_cons (nd_mem (Ne.symm (nb_q hB_q_353)) (nd_mem (Ne.symm (nb_q hB_q_354)) (nd_mem (Ne.symm (nb_q hB_q_355)) (nd_mem (Ne.symm (nb_q hB_q_356)) (nd_mem (Ne.symm (nb_q hB_q_357)) (nd_mem (Ne.symm (nb_q hB_q_358)) (nd_mem (Ne.symm (nb_q hB_q_359)) (nd_mem (Ne.symm (nb_q hB_q_360)) (nd_mem (Ne.symm (nb_q hB_q_361)) (nd_mem (Ne.symm (nb_q hB_q_362)) (nd_mem (Ne.symm (nb_q hB_q_363)) (nd_mem (Ne.symm (nb_q hB_q_364)) (nd_mem (Ne.symm (nb_q hB_q_365)) (nd_mem (Ne.symm (nb_q hB_q_366)) (nd_mem (Ne.symm (nb_q hB_q_367)) (nd_mem (Ne.symm (nb_q hB_q_368)) (nd_mem (Ne.symm (nb_q hB_q_369)) (nd_mem (nb_b (by decide)) (nd_mem (nb_b (by decide)) (nd_mem (nb_b (by decide)) (nd_mem (nb_b (by decide)) (nd_mem (Ne.symm (nb_q hB_q_370)) (nd_mem (nb_b (by decide)) (nd_mem (nb_b (by decide)) (nd_mem (nb_b (by decide)) (nd_mem (nb_b (by decide)) (nd_mem (Ne.symm (nb_q hB_q_371)) (nd_mem (Ne.symm (nb_q hB_q_372)) (fun _ h_ => absurd h_ List.not_mem_nil))))))))))))))))))))))))))))) (nd_cons (nd_mem n_436 (nd_mem n_437 (nd_mem n_438 (nd_mem n_439 (nd_mem n_440 (nd_mem n_441 (nd_mem n_442 (nd_mem n_443 (nd_mem n_444 (nd_mem n_445 (nd_mem n_446 (nd_mem n_447 (nd_mem n_448 (nd_mem n_449 (nd_mem n_450 (nd_mem n_451 (nd_mem (nb_q hB_q_353) (nd_mem (nb_q hB_q_353) (nd_mem (nb_q hB_q_353) (nd_mem (nb_q hB_q_353) (nd_mem n_452 (nd_mem (nb_q hB_q_353) (nd_mem (nb_q hB_q_353) (nd_mem (nb_q hB_q_353) (nd_mem (nb_q hB_q_353) (nd_mem n_453 (nd_mem n_454 (fun _ h_ => absurd h_ List.not_mem_nil)))))))))))))))))))))))))))) (nd_cons (nd_mem n_455 (nd_mem n_456 (nd_mem n_457 (nd_mem n_458 (nd_mem n_459 (nd_mem n_460 (nd_mem n_461 (nd_mem n_462 (nd_mem n_463 (nd_mem n_464 (nd_mem n_465 (nd_mem n_466 (nd_mem n_467 (nd_mem n_468 (nd_mem n_469 (nd_mem (nb_q hB_q_354) (nd_mem (nb_q hB_q_354) (nd_mem (nb_q hB_q_354) (nd_mem (nb_q hB_q_354) (nd_mem n_470 (nd_mem (nb_q hB_q_354) (nd_mem (nb_q hB_q_354) (nd_mem (nb_q hB_q_354) (nd_mem (nb_q hB_q_354) (nd_mem n_471 (nd_mem n_472 (fun _ h_ => absurd h_ List.not_mem_nil))))))))))))))))))))))))))) (nd_cons (nd_mem n_473 (nd_mem n_474 (nd_mem n_475 (nd_mem n_476 (nd_mem n_477 (nd_mem n_478 (nd_mem n_479 (nd_mem n_480 (nd_mem n_481 (nd_mem n_482 (nd_mem n_483 (nd_mem n_484 (nd_mem n_485 (nd_mem n_486 (nd_mem (nb_q hB_q_355) (nd_mem (nb_q hB_q_355) (nd_mem (nb_q hB_q_355) (nd_mem (nb_q hB_q_355) (nd_mem n_487 (nd_mem (nb_q hB_q_355) (nd_mem (nb_q hB_q_355) (nd_mem (nb_q hB_q_355) (nd_mem (nb_q hB_q_355) (nd_mem n_488 (nd_mem n_489 (fun _ h_ => absurd h_ List.not_mem_nil)))))))))))))))))))))))))) (nd_cons (nd_mem n_490 (nd_mem n_491 (nd_mem n_492 (nd_mem n_493 (nd_mem n_494 (nd_mem n_495 (nd_mem n_496 (nd_mem n_497 (nd_mem n_498 (nd_mem n_499 (nd_mem n_500 (nd_mem n_501 (nd_mem n_502 (nd_mem (nb_q hB_q_356) (nd_mem (nb_q hB_q_356) (nd_mem (nb_q hB_q_356) (nd_mem (nb_q hB_q_356) (nd_mem n_503 (nd_mem (nb_q hB_q_356) (nd_mem (nb_q hB_q_356) (nd_mem (nb_q hB_q_356) (nd_mem (nb_q hB_q_356) (nd_mem n_504 (nd_mem n_505 (fun _ h_ => absurd h_ List.not_mem_nil))))))))))))))))))))))))) (nd_cons (nd_mem n_506 (nd_mem n_507 (nd_mem n_508 (nd_mem n_509 (nd_mem n_510 (nd_mem n_511 (nd_mem n_512 (nd_mem n_513 (nd_mem n_514 (nd_mem n_515 (nd_mem n_516 (nd_mem n_517 (nd_mem (nb_q hB_q_357) (nd_mem (nb_q hB_q_357) (nd_mem (nb_q hB_q_357) (nd_mem (nb_q hB_q_357) (nd_mem n_518 (nd_mem (nb_q hB_q_357) (nd_mem (nb_q hB_q_357) (nd_mem (nb_q hB_q_357) (nd_mem (nb_q hB_q_357) (nd_mem n_519 (nd_mem n_520 (fun _ h_ => absurd h_ List.not_mem_nil)))))))))))))))))))))))) (nd_cons (nd_mem n_521 (nd_mem n_522 (nd_mem n_523 (nd_mem n_524 (nd_mem n_525 (nd_mem n_526 (nd_mem n_527 (nd_mem n_528 (nd_mem n_529 (nd_mem n_530 (nd_mem n_531 (nd_mem (nb_q hB_q_358) (nd_mem (nb_q hB_q_358) (nd_mem (nb_q hB_q_358) (nd_mem (nb_q hB_q_358) (nd_mem n_532 (nd_mem (nb_q hB_q_358) (nd_mem (nb_q hB_q_358) (nd_mem (nb_q hB_q_358) (nd_mem (nb_q hB_q_358) (nd_mem n_533 (nd_mem n_534 (fun _ h_ => absurd h_ List.not_mem_nil))))))))))))))))))))))) (nd_cons (nd_mem n_535 (nd_mem n_536 (nd_mem n_537 (nd_mem n_538 (nd_mem n_539 (nd_mem n_540 (nd_mem n_541 (nd_mem n_542 (nd_mem n_543 (nd_mem n_544 (nd_mem (nb_q hB_q_359) (nd_mem (nb_q hB_q_359) (nd_mem (nb_q hB_q_359) (nd_mem (nb_q hB_q_359) (nd_mem n_545 (nd_mem (nb_q hB_q_359) (nd_mem (nb_q hB_q_359) (nd_mem (nb_q hB_q_359) (nd_mem (nb_q hB_q_359) (nd_mem n_546 (nd_mem n_547 (fun _ h_ => absurd h_ List.not_mem_nil)))))))))))))))))))))) (nd_cons (nd_mem n_548 (nd_mem n_549 (nd_mem n_550 (nd_mem n_551 (nd_mem n_552 (nd_mem n_553 (nd_mem n_554 (nd_mem n_555 (nd_mem n_556 (nd_mem (nb_q hB_q_360) (nd_mem (nb_q hB_q_360) (nd_mem (nb_q hB_q_360) (nd_mem (nb_q hB_q_360) (nd_mem n_557 (nd_mem (nb_q hB_q_360) (nd_mem (nb_q hB_q_360) (nd_mem (nb_q hB_q_360) (nd_mem (nb_q hB_q_360) (nd_mem n_558 (nd_mem n_559 (fun _ h_ => absurd h_ List.not_mem_nil))))))))))))))))))))) (nd_cons (nd_mem n_560 (nd_mem n_561 (nd_mem n_562 (nd_mem n_563 (nd_mem n_564 (nd_mem n_565 (nd_mem n_566 (nd_mem n_567 (nd_mem (nb_q hB_q_361) (nd_mem (nb_q hB_q_361) (nd_mem (nb_q hB_q_361) (nd_mem (nb_q hB_q_361) (nd_mem n_568 (nd_mem (nb_q hB_q_361) (nd_mem (nb_q hB_q_361) (nd_mem (nb_q hB_q_361) (nd_mem (nb_q hB_q_361) (nd_mem n_569 (nd_mem n_570 (fun _ h_ => absurd h_ List.not_mem_nil)))))))))))))))))))) (nd_cons (nd_mem n_571 (nd_mem n_572 (nd_mem n_573 (nd_mem n_574 (nd_mem n_575 (nd_mem n_576 (nd_mem n_577 (nd_mem (nb_q hB_q_362) (nd_mem (nb_q hB_q_362) (nd_mem (nb_q hB_q_362) (nd_mem (nb_q hB_q_362) (nd_mem n_578 (nd_mem (nb_q hB_q_362) (nd_mem (nb_q hB_q_362) (nd_mem (nb_q hB_q_362) (nd_mem (nb_q hB_q_362) (nd_mem n_579 (nd_mem n_580 (fun _ h_ => absurd h_ List.not_mem_nil))))))))))))))))))) (nd_cons (nd_mem n_581 (nd_mem n_582 (nd_mem n_583 (nd_mem n_584 (nd_mem n_585 (nd_mem n_586 (nd_mem (nb_q hB_q_363) (nd_mem (nb_q hB_q_363) (nd_mem (nb_q hB_q_363) (nd_mem (nb_q hB_q_363) (nd_mem n_587 (nd_mem (nb_q hB_q_363) (nd_mem (nb_q hB_q_363) (nd_mem (nb_q hB_q_363) (nd_mem (nb_q hB_q_363) (nd_mem n_588 (nd_mem n_589 (fun _ h_ => absurd h_ List.not_mem_nil)))))))))))))))))) (nd_cons (nd_mem n_590 (nd_mem n_591 (nd_mem n_592 (nd_mem n_593 (nd_mem n_594 (nd_mem (nb_q hB_q_364) (nd_mem (nb_q hB_q_364) (nd_mem (nb_q hB_q_364) (nd_mem (nb_q hB_q_364) (nd_mem n_595 (nd_mem (nb_q hB_q_364) (nd_mem (nb_q hB_q_364) (nd_mem (nb_q hB_q_364) (nd_mem (nb_q hB_q_364) (nd_mem n_596 (nd_mem n_597 (fun _ h_ => absurd h_ List.not_mem_nil))))))))))))))))) (nd_cons (nd_mem n_598 (nd_mem n_599 (nd_mem n_600 (nd_mem n_601 (nd_mem (nb_q hB_q_365) (nd_mem (nb_q hB_q_365) (nd_mem (nb_q hB_q_365) (nd_mem (nb_q hB_q_365) (nd_mem n_602 (nd_mem (nb_q hB_q_365) (nd_mem (nb_q hB_q_365) (nd_mem (nb_q hB_q_365) (nd_mem (nb_q hB_q_365) (nd_mem n_603 (nd_mem n_604 (fun _ h_ => absurd h_ List.not_mem_nil)))))))))))))))) (nd_cons (nd_mem n_605 (nd_mem n_606 (nd_mem n_607 (nd_mem (nb_q hB_q_366) (nd_mem (nb_q hB_q_366) (nd_mem (nb_q hB_q_366) (nd_mem (nb_q hB_q_366) (nd_mem n_608 (nd_mem (nb_q hB_q_366) (nd_mem (nb_q hB_q_366) (nd_mem (nb_q hB_q_366) (nd_mem (nb_q hB_q_366) (nd_mem n_609 (nd_mem n_610 (fun _ h_ => absurd h_ List.not_mem_nil))))))))))))))) (nd_cons (nd_mem n_611 (nd_mem n_612 (nd_mem (nb_q hB_q_367) (nd_mem (nb_q hB_q_367) (nd_mem (nb_q hB_q_367) (nd_mem (nb_q hB_q_367) (nd_mem n_613 (nd_mem (nb_q hB_q_367) (nd_mem (nb_q hB_q_367) (nd_mem (nb_q hB_q_367) (nd_mem (nb_q hB_q_367) (nd_mem n_614 (nd_mem n_615 (fun _ h_ => absurd h_ List.not_mem_nil)))))))))))))) (nd_cons (nd_mem n_616 (nd_mem (nb_q hB_q_368) (nd_mem (nb_q hB_q_368) (nd_mem (nb_q hB_q_368) (nd_mem (nb_q hB_q_368) (nd_mem n_617 (nd_mem (nb_q hB_q_368) (nd_mem (nb_q hB_q_368) (nd_mem (nb_q hB_q_368) (nd_mem (nb_q hB_q_368) (nd_mem n_618 (nd_mem n_619 (fun _ h_ => absurd h_ List.not_mem_nil))))))))))))) (nd_cons (nd_mem (nb_q hB_q_369) (nd_mem (nb_q hB_q_369) (nd_mem (nb_q hB_q_369) (nd_mem (nb_q hB_q_369) (nd_mem n_620 (nd_mem (nb_q hB_q_369) (nd_mem (nb_q hB_q_369) (nd_mem (nb_q hB_q_369) (nd_mem (nb_q hB_q_369) (nd_mem n_621 (nd_mem n_622 (fun _ h_ => absurd h_ List.not_mem_nil)))))))))))) (nd_cons (nd_mem (nb_b (by decide)) (nd_mem (nb_b (by decide)) (nd_mem (nb_b (by decide)) (nd_mem (Ne.symm (nb_q hB_q_370)) (nd_mem (nb_b (by decide)) (nd_mem (nb_b (by decide)) (nd_mem (nb_b (by decide)) (nd_mem (nb_b (by decide)) (nd_mem (Ne.symm (nb_q hB_q_371)) (nd_mem (Ne.symm (nb_q hB_q_372)) (fun _ h_ => absurd h_ List.not_mem_nil))))))))))) (nd_cons (nd_mem (nb_b (by decide)) (nd_mem (nb_b (by decide)) (nd_mem (Ne.symm (nb_q hB_q_370)) (nd_mem (nb_b (by decide)) (nd_mem (nb_b (by decide)) (nd_mem (nb_b (by decide)) (nd_mem (nb_b (by decide)) (nd_mem (Ne.symm (nb_q hB_q_371)) (nd_mem (Ne.symm (nb_q hB_q_372)) (fun _ h_ => absurd h_ List.not_mem_nil)))))))))) (nd_cons (nd_mem (nb_b (by decide)) (nd_mem (Ne.symm (nb_q hB_q_370)) (nd_mem (nb_b (by decide)) (nd_mem (nb_b (by decide)) (nd_mem (nb_b (by decide)) (nd_mem (nb_b (by decide)) (nd_mem (Ne.symm (nb_q hB_q_371)) (nd_mem (Ne.symm (nb_q hB_q_372)) (fun _ h_ => absurd h_ List.not_mem_nil))))))))) (nd_cons (nd_mem (Ne.symm (nb_q hB_q_370)) (nd_mem (nb_b (by decide)) (nd_mem (nb_b (by decide)) (nd_mem (nb_b (by decide)) (nd_mem (nb_b (by decide)) (nd_mem (Ne.symm (nb_q hB_q_371)) (nd_mem (Ne.symm (nb_q hB_q_372)) (fun _ h_ => absurd h_ List.not_mem_nil)))))))) (nd_cons (nd_mem (nb_q hB_q_370) (nd_mem (nb_q hB_q_370) (nd_mem (nb_q hB_q_370) (nd_mem (nb_q hB_q_370) (nd_mem n_623 (nd_mem n_624 (fun _ h_ => absurd h_ List.not_mem_nil))))))) (nd_cons (nd_mem (nb_b (by decide)) (nd_mem (nb_b (by decide)) (nd_mem (nb_b (by decide)) (nd_mem (Ne.symm (nb_q hB_q_371)) (nd_mem (Ne.symm (nb_q hB_q_372)) (fun _ h_ => absurd h_ List.not_mem_nil)))))) (nd_cons (nd_mem (nb_b (by decide)) (nd_mem (nb_b (by decide)) (nd_mem (Ne.symm (nb_q hB_q_371)) (nd_mem (Ne.symm (nb_q hB_q_372)) (fun _ h_ => absurd h_ List.not_mem_nil))))) (nd_cons (nd_mem (nb_b (by decide)) (nd_mem (Ne.symm (nb_q hB_q_371)) (nd_mem (Ne.symm (nb_q hB_q_372)) (fun _ h_ => absurd h_ List.not_mem_nil)))) (nd_cons (nd_mem (Ne.symm (nb_q hB_q_371)) (nd_mem (Ne.symm (nb_q hB_q_372)) (fun _ h_ => absurd h_ List.not_mem_nil))) (nd_cons (nd_mem n_625 (fun _ h_ => absurd h_ List.not_mem_nil)) (nd_cons (fun _ h_ => absurd h_ List.not_mem_nil) List.nodup_nil)))))))))))))))))))))))))))))))))
  have hinj := nd_inj hnd (n := 33) rfl
  refine V.pick [4, 3, 2, 1, 0] rfl ?_
  have A : LX p l m c s #[Value.ref b] z D cI cL cQ cB b L xs q_1 q_10 q_14 q_22 q_11 q_12 q_13 q_16 q_17 q_18 q_19 q_20 q_21 q_15 q_24 q_25 q_26 q_27 q_28 q_29 q_23 q_300 q_1175 (fun k => ([B_ + 0, q_351, q_352, B_ + 3, B_ + 4, q_353, q_354, q_355, q_356, q_357, q_358, q_359, q_360, q_361, q_362, q_363, q_364, q_365, q_366, q_367, q_368, q_369, B_ + 22, B_ + 23, B_ + 24, B_ + 25, q_370, B_ + 27, B_ + 28, B_ + 29, B_ + 30, q_371, q_372] : List Nat).getD k 0) := LX.mk X hK hZ hfl hX hbl hinj n_195 n_69 n_127 n_156 n_169 n_239 n_181 n_192 n_202 n_203 n_210 n_211 n_656 n_678 n_664 n_686
  exact law_loop A hL hr hlocks 512 0 45 16593 (sa := fun _ => 0) (u1 := fun _ => 0) (u2 := fun _ => 0) (u3 := fun _ => 0) (u4 := fun _ => 0) (u5 := fun _ => 0) (σ := fun _ => newStm 0 0 0 0) (np := 0) (ns := 0) (ln := 0) (en := (-1)) (ln2 := 0) (en2 := (-1)) (hh := 0) (hi := 0) (hh2 := 0) (hi2 := 0) (dd := (fun _ => 0)) (gd := (fun _ => 0)) (f := (fun _ => 0)) (f2 := (fun _ => 0)) (lo := (fun _ => none)) (lo2 := (fun _ => none)) (pd := (fun _ => 0)) (ud := (fun _ => 0)) (rd := (fun _ => 0)) (pd2 := (fun _ => 0)) (ud2 := (fun _ => 0)) (rd2 := (fun _ => 0)) (fo := (fun _ => 0)) (xcode := 0) (vkept := (fun _ => 0)) (vdoes := (fun _ => 0)) (vgos := (fun _ => 0)) (vfrom := (fun _ => 0)) (vto := (fun _ => 0)) (vkind := (fun _ => 0)) (vtimes := (fun _ => 0)) (vcond := (fun _ => 0)) (vlev := (fun _ => 0)) (vask := (fun _ => 0)) (vcc := (fun _ => 0)) (vvar := (fun _ => 0)) (vleast := (fun _ => 0)) (vfirst := (fun _ => 0)) (vstep := (fun _ => 0)) (vpile := (fun _ => 0)) (vcall := (fun _ => 0)) (vleft := (fun _ => 0)) (xsize := 0) (xmost := 0) (xend := 0) (xran := 0) (vord := (fun _ => 0)) (vlord := (fun _ => 0)) (vlpile := (fun _ => 0)) (by decide) (by decide) (l_512 hL) (by decide) (by decide) (INV.mk h_1225 h_1226 h_1230 h_1238 h_1227 h_1228 (h_1229.trans (by rw [td_0 (sa := fun _ => 0)])) h_1232 h_1233 h_1234 h_1235 h_1236 h_1237 h_1231 h_1240 h_1241 h_1242 h_1243 h_1244 h_1245 h_1239 h_1246 h_1247 h_1248 h_1249 h_1250 h_1251 h_1252 h_1253 h_1254 h_1255 h_1256 h_1257 h_1258 h_1259 h_1260 h_1261 h_1262 h_1263 h_1264 h_1265 h_1266 h_1267 h_1268 h_1178 sp_0 pj_0 rp_0 rq_0 rr_0)
