theorem wd_361 : (Jvm.Cond.methodLink "PerformRangesLaw" (7 : Nat) ({ cls := "PerformRanges", name := "get", desc := "(I)J" } : Jvm.MethodName)) ∈ GW := gw_of (i := 428) (by decide +kernel) (by decide +kernel)
theorem wd_362 : (Jvm.Cond.instanceMethod ({ cls := "PerformRanges", name := "get", desc := "(I)J" } : Jvm.MethodName)) ∈ GW := gw_of (i := 429) (by decide +kernel) (by decide +kernel)
theorem wd_363 : (Jvm.Cond.selects "PerformRanges" ({ cls := "PerformRanges", name := "get", desc := "(I)J" } : Jvm.MethodName) ({ cls := "PerformRanges", name := "get", desc := "(I)J" } : Jvm.MethodName)) ∈ GW := gw_of (i := 430) (by decide +kernel) (by decide +kernel)
theorem wd_364 : (Jvm.Cond.code ({ cls := "PerformRanges", name := "get", desc := "(I)J" } : Jvm.MethodName) prog_1_method_11_code (2 : Nat) (Option.some Jvm.ClassFile.FieldType.long)) ∈ GW := gw_of (i := 431) (by decide +kernel) (by decide +kernel)
theorem wd_365 : (Jvm.Cond.classLink "PerformRangesLaw" (13 : Nat) "java/lang/IllegalArgumentException") ∈ GW := gw_of (i := 427) (by decide +kernel) (by decide +kernel)
theorem wd_366 : (Jvm.Cond.methodLink "PerformRangesLaw" (15 : Nat) ({ cls := "PerformRanges", name := "put", desc := "(IJ)J" } : Jvm.MethodName)) ∈ GW := gw_of (i := 502) (by decide +kernel) (by decide +kernel)
theorem wd_367 : (Jvm.Cond.instanceMethod ({ cls := "PerformRanges", name := "put", desc := "(IJ)J" } : Jvm.MethodName)) ∈ GW := gw_of (i := 503) (by decide +kernel) (by decide +kernel)
theorem wd_368 : (Jvm.Cond.selects "PerformRanges" ({ cls := "PerformRanges", name := "put", desc := "(IJ)J" } : Jvm.MethodName) ({ cls := "PerformRanges", name := "put", desc := "(IJ)J" } : Jvm.MethodName)) ∈ GW := gw_of (i := 504) (by decide +kernel) (by decide +kernel)
theorem wd_369 : (Jvm.Cond.code ({ cls := "PerformRanges", name := "put", desc := "(IJ)J" } : Jvm.MethodName) prog_1_method_12_code (6 : Nat) (Option.some Jvm.ClassFile.FieldType.long)) ∈ GW := gw_of (i := 505) (by decide +kernel) (by decide +kernel)
/-! the law's own get and put -/
/-- a contract of a method with handlers -/
def MCW (l : Launch) (H0 : Heap) (D : va_G) (tys : List (ClassId × FieldType)) (y : MethodName) (ws : List Cond) (rm : Room) (av : List Value) (M : mp) (post : Option Value → mp → Prop) : Prop :=
  Met l y ws rm (va_Pc av (fun U => hw H0 D cls7 M U.heap ∧ KK D cls7 tys NW U ∧ ZW H0 U)) (Qm H0 D cls7 post) rm.cells rm.slots (fun q => H0.size ≤ q)
theorem MCW.of {l : Launch} {H0 : Heap} {D : va_G} {tys : List (ClassId × FieldType)} {y : MethodName} {ws' : List Cond} {rm : Room} {av : List Value} {M : mp} {post : Option Value → mp → Prop} {cc : ByteArray} {nL : Nat} {ret : Option FieldType} {hd : List (Nat × Nat × Nat × Nat)} {lv : List (Nat × Value)} (hy : plainName y.cls = true) (hlen : (lg_sl av).length ≤ nL) (hlv : lv_args 0 av = lv)
    (body : ∀ p e s m below meth c, l.admits e → CallFix p m c cc nL s av.toArray (Cond.codeWith y cc nL ret hd :: ws') y.cls → meth.sig.returnType = ret → meth.locks = false → c.exceptionTable.toList.map (fun h => (h.startPc, h.endPc, h.handlerPc, h.catchType)) = hd → KK D cls7 tys NW s → ZW H0 s → (∀ q : Nat, q < H0.size → s.heap[q]? = H0[q]?) → V p l e rm s m av.toArray below meth c H0 D cls7 (MQ below (Qm H0 D cls7 post) av.toArray s rm.cells rm.slots (fun q => H0.size ≤ q)) nL M 0 0 0 lv []) : MCW l H0 D tys y (Cond.codeWith y cc nL ret hd :: ws') rm av M post := by
  unfold MCW Met
  refine MetFree.of_bodyS (code := cc) (maxLocals := nL) (ret := ret) hy ?_ ?_
  · intro args s m h hn
    obtain ⟨m', meth, c, h0, h1, h2, h3, h4, -, h5, h6, -⟩ := Cond.codeWith_spec (atoms_spec (ws := Cond.codeWith y cc nL ret hd :: ws') h _ List.mem_cons_self)
    cases hn.symm.trans h0
    exact ⟨meth, c, h1, h2, h3, h4, h5, h6⟩
  · intro p e s m args below meth c s₁ B hml hP _
    obtain ⟨rfl, hH, hK, hZ⟩ := hP
    have hh0 : s₁.heap = s.heap := by rw [B.state]; rfl
    have hws := atoms_spec (ws := Cond.codeWith y cc nL ret hd :: ws') B.pre
    have X₀ := Stand.of_body B
    obtain ⟨m', meth', c', h0, h1, h2, -, -, h5, -, -, -⟩ := Cond.codeWith_spec (hws _ List.mem_cons_self)
    cases B.named.symm.trans h0
    cases B.method.symm.trans h1
    cases X₀.code.symm.trans h2
    have hv := body p e s m below meth c X₀.admits ⟨B.exec, B.bytes, hml, findClass_of_methodNamed B.named, hws⟩ B.returns B.notSynchronized h5 hK hZ hH.2.1
    have hl := lv_entry av (n := nL) hlen
    rw [hlv] at hl
    obtain ⟨t, a1, o, b1, b2, b3⟩ := hv s.heap [] _ hH (fun q h => by cases h) hl s₁ hh0 X₀
    rw [← lg_entry_eq] at a1
    exact ⟨t, o, a1, b1, b2, ⟨b3.1, b3.2⟩⟩
theorem tab_one {xs : List ExceptionTableEntry} {a b c d : Nat} (h : xs.map (fun h => (h.startPc, h.endPc, h.handlerPc, h.catchType)) = [(a, b, c, d)]) : ∃ x : ExceptionTableEntry, xs = [x] ∧ x.startPc = a ∧ x.endPc = b ∧ x.handlerPc = c ∧ x.catchType = d := by
  cases xs with
  | nil => cases h
  | cons x t =>
    cases t with
    | nil =>
      simp only [List.map_cons, List.map_nil, List.cons.injEq, Prod.mk.injEq, and_true] at h
      exact ⟨x, rfl, h.1, h.2.1, h.2.2.1, h.2.2.2⟩
    | cons y t2 => simp at h
section CSW
variable {p : Program} {l : Launch} {e : Env} {R : Room} {s : State} {m : MethodId} {args : Array Value} {below : List Frame} {meth : Method} {c : Code} {H0 : Heap} {D : va_G} {tys : List (ClassId × FieldType)} {Q : State → Prop} {nL : Nat} {M : mp} {cells slots pc pc' : Nat} {lv : List (Nat × Value)} {cc : ByteArray} {own : String} {z : Cond}
set_option maxHeartbeats 1000000 in
/-- a static call of a method with handlers -/
theorem V.callSW (X : CallFix p m c cc nL s args (z :: GW) own) (hK : KK D cls7 tys NW s) (hZ : ZW H0 s) {y : MethodName} {rm : Room} {r : Option Value} {P : mp → Prop} {bytes : ByteArray} {maxL n index : Nat} {ret : Option FieldType} {hd : List (Nat × Nat × Nat × Nat)} {As rest st0 st1 : List Value} (hM : MCW l H0 D tys y (Cond.codeWith y bytes maxL ret hd :: GW) rm As M (fun v M' => v = r ∧ P M')) (h1 : Cond.methodLink own index y ∈ z :: GW) (h2 : Cond.static y ∈ z :: GW) (h4 : Cond.initialized y.cls ∈ z :: GW) (h5 : Cond.codeWith y bytes maxL ret hd ∈ GW)
    (hdd : y.cls ≠ "java/lang/invoke/MethodHandle" ∧ y.cls ≠ "java/lang/invoke/VarHandle" ∧ (parseMethodDescriptor y.desc).map (fun d => d.parameters.length) = some n) (hR1 : rm.frames + 1 ≤ R.frames) (hR2 : 8 + (maxL + 11) + rm.locals ≤ R.locals) (hn : As.length = n) (hst : st0 = As.reverse ++ rest) (hroom : (rest.map fun v => v.category).sum ≤ 8) (hdg : decode cc pc = .ok (.invokestatic index, 3)) (hf : cells + rm.cells ≤ R.cells ∧ slots + rm.slots ≤ R.slots) (hpc : pc + 3 = pc') (hst1 : r.toList ++ rest = st1)
    (kk : ∀ M' : mp, P M' → V p l e R s m args below meth c H0 D cls7 Q nL M' (cells + rm.cells) (slots + rm.slots) pc' lv st1) : V p l e R s m args below meth c H0 D cls7 Q nL M cells slots pc lv st0 := by
  subst hpc
  intro H locs ls hH hL hl T hT X0
  subst hT
  have hws : ∀ w ∈ Cond.codeWith y bytes maxL ret hd :: GW, ∀ (a' : Array Value) (U : State), s.WarmedH U.vm → w.before a' U = true := fun w hw a' U hW => by
    have hg : w ∈ GW := by
      rcases List.mem_cons.mp hw with rfl | h
      · exact h5
      · exact h
    exact word_at hW (good_of_word (List.mem_filter.mp hg).2) (X.2.2.2.2 w (List.mem_cons_of_mem _ hg))
  have hlink := X.2.2.2.2 _ h1
  have hstat := X.2.2.2.2 _ h2
  have hini := X.2.2.2.2 _ h4
  have hcode := X.2.2.2.2 _ (List.mem_cons_of_mem z h5)
  obtain ⟨hexec, hbb, hml, hown, -⟩ := X
  obtain ⟨mk, methM, cM, hnamed, hmethM, hcM, hbM, hlM, -, -, -, hsigM⟩ := Cond.codeWith_spec hcode
  have hstatic : methM.isStatic = true := Cond.static_spec hnamed hmethM hstat
  obtain ⟨kP, hkP, -⟩ := className_of_methodNamed hnamed
  have hinitP : kP.init = .initialized := Cond.initialized_spec (findClass_of_methodNamed hnamed) hkP hini
  have hnp : As.length = methM.sig.parameters.length := by
    have := hdd.2.2
    rw [hsigM] at this
    exact hn.trans (Option.some.inj this).symm
  obtain ⟨vm₁, X₁, hstep₁⟩ := X0.invokestatic hexec hown hlink hnamed hmethM hstatic hkP hinitP ⟨hdd.1, hdd.2.1⟩ (g := F0 m pc ls st0) rfl (argsL := As) (rest := rest) hnp hst (by rw [hbb]; exact hdg)
  have hnU := X₁.named hnamed
  have hdg' : decode c.code pc = .ok (.invokestatic index, 3) := by rw [hbb]; exact hdg
  have hcodeU := hws _ List.mem_cons_self As.toArray (T.setVm vm₁) X₁.warmed
  obtain ⟨mY, methY, cY, hnY, hmY, hcY, -, hlY, -, -, -, -⟩ := Cond.codeWith_spec hcodeU
  cases hnU.symm.trans hnY
  obtain ⟨kY, hkY, -⟩ := className_of_methodNamed hnU
  have hiniU : (Cond.initialized y.cls).before As.toArray (T.setVm vm₁) = true := word_at X₁.warmed (Or.inl (by first | rfl | simp [Cond.onTables, Cond.keeps, Cond.steady])) hini
  have hinitY : kY.init = .initialized := Cond.initialized_spec (findClass_of_methodNamed hnU) hkY hiniU
  have hA : At (T.setVm vm₁) (F0 m pc ls rest).method c below := X₁.here
  have hw8 : 2 * (F0 m pc ls rest).monitorRoom + (rest.map fun v => v.category).sum ≤ 8 := lv_room hroom
  have happ : (headSpec (Cond.codeWith y bytes maxL ret hd :: GW) rm).appliesLoose y e.platform ((T.setVm vm₁).calling (F0 m pc ls rest) mk As.toArray) = true :=
    Spec.appliesLoose_calling (g := F0 m pc ls rest) hA hdg' hnU hkY hinitY
      (X₁.room_calling (g := F0 m pc ls rest) (R' := rm) (hl.1.trans hml.symm) hmY hcY hR1 (by rw [hlY]; show 2 * (F0 m pc ls rest).monitorRoom + (rest.map fun v => v.category).sum + (maxL + 11) + rm.locals ≤ R.locals; omega) hf.1 hf.2) (atoms_intro fun w hw => hws w hw _ _ X₁.warmed)
  obtain ⟨mid, hmid⟩ := hA.above
  have hfr2 : ((T.setVm vm₁).setTop (F0 m pc ls rest)).frames = (.java (F0 m pc ls rest) :: mid) ++ below := by rw [State.frames_setTop' _ hA.top, hmid]; rfl
  unfold MCW Met at hM
  obtain ⟨o, s₂, hsteps, -, hend, hq⟩ := Steps.callFree hM p X₁.admits X₁.cas X₁.clock (acts := []) hfr2 happ ⟨rfl, hH, (hK.moved X₁.warmed), hZ.moved X₁.warmed⟩ trivial
  obtain ⟨⟨v, M', rfl, ⟨rfl, hPM⟩, hwM⟩, L, ⟨-, hW, hsame⟩, hLb⟩ := hq
  rw [State.frames_setTop' _ hA.top, X₁.tail] at hend
  obtain ⟨T', X', hWT, -, ht⟩ := X₁.outOf (g := F0 m pc ls rest) rfl hdg' hend hW hsame
  have hheap : T'.heap = s₂.heap := by rw [ht]; rfl
  have hwH : hw H0 D cls7 M' T'.heap := by rw [hheap]; exact hwM
  obtain ⟨tgt, k1, k2⟩ := kk M' hPM T'.heap (locs ++ L) ls hwH (fun q hq => by
    rcases List.mem_append.mp hq with h | h
    · exact hL q h
    · exact hLb q h) hl T' rfl X'
  refine ⟨tgt, hstep₁ _ fun acts => ?_, k2⟩
  rw [doInvoke_state]
  refine hsteps.trans ?_
  rw [ht]
  subst hst1
  exact k1
end CSW
theorem d_Law_get_0 : decode method_3_code 0 = .ok (.aload_n 2, 1) := by decide +kernel
theorem d_Law_get_1 : decode method_3_code 1 = .ok (.iconst 0, 1) := by decide +kernel
theorem d_Law_get_2 : decode method_3_code 2 = .ok (.aload_n 0, 1) := by decide +kernel
theorem d_Law_get_3 : decode method_3_code 3 = .ok (.iload_n 1, 1) := by decide +kernel
theorem d_Law_get_4 : decode method_3_code 4 = .ok (.invokevirtual 7, 3) := by decide +kernel
theorem d_Law_get_7 : decode method_3_code 7 = .ok (.lastore, 1) := by decide +kernel
theorem d_Law_get_8 : decode method_3_code 8 = .ok (.goto 6, 3) := by decide +kernel
theorem d_Law_get_11 : decode method_3_code 11 = .ok (.astore_n 3, 1) := by decide +kernel
theorem d_Law_get_12 : decode method_3_code 12 = .ok (.iconst 1, 1) := by decide +kernel
theorem d_Law_get_13 : decode method_3_code 13 = .ok (.ireturn, 1) := by decide +kernel
theorem d_Law_get_14 : decode method_3_code 14 = .ok (.iconst 0, 1) := by decide +kernel
theorem d_Law_get_15 : decode method_3_code 15 = .ok (.ireturn, 1) := by decide +kernel

set_option maxHeartbeats 1000000 in
theorem c_L_get {l : Launch} (hfl : l.flags = flags0) {H0 : Heap} {D : va_G} {cI cL cQ cB : ClassId} {M : mp} {px pg lt tr ce pi ra va ou : Nat} {ln en : Int32} {f fo : Nat → Int64} {x : Int32} (gh0 : M px = some (.inr (5, [.ref pg, .ref lt, .ref tr]))) (gh1 : M lt = some (.inr (1, [.ref pg, .ref ce, .ref pi, .ref ra, .int ln, .int en]))) (gh2 : M ce = some (.inr (0, [.ref va]))) (gh3 : M va = some (.inl (cL, 16, .inr (.inl f)))) (gh4 : M ou = some (.inl (cL, 1, .inr (.inl fo)))) : MCW l H0 D (tysOf cI cL cQ cB) ({ cls := "PerformRangesLaw", name := "get", desc := "(LPerformRanges;I[J)I" } : Jvm.MethodName) (Cond.codeWith ({ cls := "PerformRangesLaw", name := "get", desc := "(LPerformRanges;I[J)I" } : Jvm.MethodName) method_3_code 4 (Option.some Jvm.ClassFile.FieldType.int) [((0 : Nat), (8 : Nat), (11 : Nat), (13 : Nat))] :: GW) ({ frames := 7, cells := 1, slots := 6, locals := 120 }) [.ref px, .int x, .ref ou] M (fun v M' => v = some (.int (if sp_isCell x = 0 then 1 else 0)) ∧ M' ou = some (.inl (cL, 1, .inr (.inl (if sp_isCell x = 0 then fo else vp_updL fo 0 (sp_Cells_value f x))))) ∧ (∀ q, q ≠ ou → M' q = M q)) := by
  refine MCW.of (cc := method_3_code) (nL := 4) (ret := (Option.some Jvm.ClassFile.FieldType.int)) (hd := [((0 : Nat), (8 : Nat), (11 : Nat), (13 : Nat))]) (lv := [(0, .ref px), (1, .int x), (2, .ref ou)]) (by decide) (Nat.le_of_ble_eq_true rfl) rfl ?_
  intro p e s m below meth c ha X hr hlk htab hK hZ hs0
  obtain ⟨xt, ht1, ht2, ht3, ht4, ht5⟩ := tab_one htab
  refine V.rd (pc' := 1) (fun hl => lv_aload_n X.1 X.2.1 d_Law_get_0 rfl (lv_at hl 2 rfl)) ?_
  refine V.go (pc' := 2) (lv_iconst (v := 0) X.1 X.2.1 d_Law_get_1 (by decide)) ?_
  refine V.rd (pc' := 3) (fun hl => lv_aload_n X.1 X.2.1 d_Law_get_2 rfl (lv_at hl 0 rfl)) ?_
  refine V.rd (pc' := 4) (fun hl => lv_iload_n X.1 X.2.1 d_Law_get_3 rfl (lv_at hl 1 rfl)) ?_
  by_cases hcx : sp_isCell x = 0
  · refine V.callT (As := [.int x]) (rest := [.int 0, .ref ou]) (pc' := 11) X hK hZ (t_PR_get hfl (px := px) (x := x) hcx) gh0 rfl (cwG (n := 1) X (mcs wd_361) (mcs wd_362) (mcs wd_363) (mcs wd_289) wd_364 (by decide +kernel) (by decide) (by decide)) rfl rfl (Nat.le_of_ble_eq_true rfl) d_Law_get_4 rfl rfl ⟨by decide, by decide⟩ ht1 (by simp [covers, ht2, ht3]) (by rw [ht5]; decide) (by rw [ht5]; exact X.2.2.2.2 _ (mcs wd_365)) ((hZ s (State.WarmedH.refl s) hs0).1 _ (List.mem_of_getElem? (i := 7) rfl) _) ht4 (fun q => ?_)
    refine V.wr (pc' := 12) (lv' := [(3, .ref q), (0, .ref px), (1, .int x), (2, .ref ou)]) (fun hl => lv_astore_n X.1 X.2.1 d_Law_get_11 rfl hl (by decide) rfl) ?_
    refine V.go (pc' := 13) (lv_iconst (v := 1) X.1 X.2.1 d_Law_get_12 (by decide)) ?_
    exact V.iret X hr hlk ⟨by rw [if_pos hcx], by rw [if_pos hcx]; exact gh4, fun _ _ => rfl⟩ d_Law_get_13
  · refine V.callV0 (pc' := 7) X hK (c_PR_get (px := px) (pg := pg) (lt := lt) (tr := tr) (ce := ce) (pi := pi) (ra := ra) (va := va) (ln := ln) (en := en) (f := f) (x := x) hcx gh0 gh1 gh2 gh3) gh0 rfl (cwG (n := 1) X (mcs wd_361) (mcs wd_362) (mcs wd_363) (mcs wd_289) wd_364 (by decide +kernel) (by decide) (by decide)) rfl rfl (Nat.le_of_ble_eq_true rfl) d_Law_get_4 ⟨by decide, by decide⟩ rfl (st1 := [.long (sp_Cells_value f x), .int 0, .ref ou]) rfl ?_
    refine V.last (pc' := 8) X hK 1 gh4 rfl (vin (by decide) (by decide)) d_Law_get_7 rfl (fun M2 h2 fr2 => ?_)
    refine V.go (pc' := 14) (lv_goto X.1 X.2.1 d_Law_get_8 (by decide)) ?_
    refine V.go (pc' := 15) (lv_iconst (v := 0) X.1 X.2.1 d_Law_get_14 (by decide)) ?_
    refine V.widen (k := 1) (n := 6) (by decide) (by decide) ?_
    exact V.iret X hr hlk ⟨by rw [if_neg hcx], by rw [if_neg hcx]; exact h2, fun q n1 => fr2 q n1⟩ d_Law_get_15
theorem d_Law_put_0 : decode method_4_code 0 = .ok (.aload 4, 2) := by decide +kernel
theorem d_Law_put_2 : decode method_4_code 2 = .ok (.iconst 0, 1) := by decide +kernel
theorem d_Law_put_3 : decode method_4_code 3 = .ok (.aload_n 0, 1) := by decide +kernel
theorem d_Law_put_4 : decode method_4_code 4 = .ok (.iload_n 1, 1) := by decide +kernel
theorem d_Law_put_5 : decode method_4_code 5 = .ok (.lload_n 2, 1) := by decide +kernel
theorem d_Law_put_6 : decode method_4_code 6 = .ok (.invokevirtual 15, 3) := by decide +kernel
theorem d_Law_put_9 : decode method_4_code 9 = .ok (.lastore, 1) := by decide +kernel
theorem d_Law_put_10 : decode method_4_code 10 = .ok (.goto 7, 3) := by decide +kernel
theorem d_Law_put_13 : decode method_4_code 13 = .ok (.astore 5, 2) := by decide +kernel
theorem d_Law_put_15 : decode method_4_code 15 = .ok (.iconst 1, 1) := by decide +kernel
theorem d_Law_put_16 : decode method_4_code 16 = .ok (.ireturn, 1) := by decide +kernel
theorem d_Law_put_17 : decode method_4_code 17 = .ok (.iconst 0, 1) := by decide +kernel
theorem d_Law_put_18 : decode method_4_code 18 = .ok (.ireturn, 1) := by decide +kernel

set_option maxHeartbeats 1000000 in
theorem c_L_put {l : Launch} (hfl : l.flags = flags0) {H0 : Heap} {D : va_G} {cI cL cQ cB : ClassId} {M : mp} {px pg lt tr ce pi ra va ou : Nat} {ln en : Int32} {f fo : Nat → Int64} {x : Int32} {y : Int64} (gh0 : M px = some (.inr (5, [.ref pg, .ref lt, .ref tr]))) (gh1 : M lt = some (.inr (1, [.ref pg, .ref ce, .ref pi, .ref ra, .int ln, .int en]))) (gh2 : M ce = some (.inr (0, [.ref va]))) (gh3 : M va = some (.inl (cL, 16, .inr (.inl f)))) (gh4 : M ou = some (.inl (cL, 1, .inr (.inl fo)))) : MCW l H0 D (tysOf cI cL cQ cB) ({ cls := "PerformRangesLaw", name := "put", desc := "(LPerformRanges;IJ[J)I" } : Jvm.MethodName) (Cond.codeWith ({ cls := "PerformRangesLaw", name := "put", desc := "(LPerformRanges;IJ[J)I" } : Jvm.MethodName) method_4_code 6 (Option.some Jvm.ClassFile.FieldType.int) [((0 : Nat), (10 : Nat), (13 : Nat), (13 : Nat))] :: GW) ({ frames := 7, cells := 1, slots := 6, locals := 120 }) [.ref px, .int x, .long y, .ref ou] M (fun v M' => v = some (.int (if sp_isCell x = 0 then 1 else 0)) ∧ M' ou = some (.inl (cL, 1, .inr (.inl (if sp_isCell x = 0 then fo else vp_updL fo 0 (sp_Cells_value f x))))) ∧ M' va = some (.inl (cL, 16, .inr (.inl (if sp_isCell x = 0 then f else sp_Cells_become_va f x y)))) ∧ (∀ q, q ≠ ou → q ≠ va → M' q = M q)) := by
  refine MCW.of (cc := method_4_code) (nL := 6) (ret := (Option.some Jvm.ClassFile.FieldType.int)) (hd := [((0 : Nat), (10 : Nat), (13 : Nat), (13 : Nat))]) (lv := [(0, .ref px), (1, .int x), (2, .long y), (4, .ref ou)]) (by decide) (Nat.le_of_ble_eq_true rfl) rfl ?_
  intro p e s m below meth c ha X hr hlk htab hK hZ hs0
  obtain ⟨xt, ht1, ht2, ht3, ht4, ht5⟩ := tab_one htab
  refine V.rd (pc' := 2) (fun hl => lv_aload X.1 X.2.1 d_Law_put_0 (lv_at hl 3 rfl)) ?_
  refine V.go (pc' := 3) (lv_iconst (v := 0) X.1 X.2.1 d_Law_put_2 (by decide)) ?_
  refine V.rd (pc' := 4) (fun hl => lv_aload_n X.1 X.2.1 d_Law_put_3 rfl (lv_at hl 0 rfl)) ?_
  refine V.rd (pc' := 5) (fun hl => lv_iload_n X.1 X.2.1 d_Law_put_4 rfl (lv_at hl 1 rfl)) ?_
  refine V.rd (pc' := 6) (fun hl => lv_lload_n X.1 X.2.1 d_Law_put_5 rfl (lv_at hl 2 rfl)) ?_
  by_cases hcx : sp_isCell x = 0
  · refine V.callT (As := [.int x, .long y]) (rest := [.int 0, .ref ou]) (pc' := 13) X hK hZ (t_PR_put hfl (px := px) (x := x) (y := y) hcx) gh0 rfl (cwG (n := 2) X (mcs wd_366) (mcs wd_367) (mcs wd_368) (mcs wd_289) wd_369 (by decide +kernel) (by decide) (by decide)) rfl rfl (Nat.le_of_ble_eq_true rfl) d_Law_put_6 rfl rfl ⟨by decide, by decide⟩ ht1 (by simp [covers, ht2, ht3]) (by rw [ht5]; decide) (by rw [ht5]; exact X.2.2.2.2 _ (mcs wd_365)) ((hZ s (State.WarmedH.refl s) hs0).1 _ (List.mem_of_getElem? (i := 7) rfl) _) ht4 (fun q => ?_)
    refine V.wr (pc' := 15) (lv' := [(5, .ref q), (0, .ref px), (1, .int x), (2, .long y), (4, .ref ou)]) (fun hl => lv_astore X.1 X.2.1 d_Law_put_13 hl (by decide) rfl) ?_
    refine V.go (pc' := 16) (lv_iconst (v := 1) X.1 X.2.1 d_Law_put_15 (by decide)) ?_
    exact V.iret X hr hlk ⟨by rw [if_pos hcx], by rw [if_pos hcx]; exact gh4, by rw [if_pos hcx]; exact gh3, fun _ _ _ => rfl⟩ d_Law_put_16
  · have nv : va ≠ ou := ne_k gh3 gh4 (i := 100016) (j := 100001) rfl rfl (by decide)
    refine V.callV (pc' := 9) X hK (c_PR_put (px := px) (pg := pg) (lt := lt) (tr := tr) (ce := ce) (pi := pi) (ra := ra) (va := va) (ln := ln) (en := en) (f := f) (x := x) (y := y) hcx gh0 gh1 gh2 gh3) gh0 rfl (cwG (n := 2) X (mcs wd_366) (mcs wd_367) (mcs wd_368) (mcs wd_289) wd_369 (by decide +kernel) (by decide) (by decide)) rfl rfl (Nat.le_of_ble_eq_true rfl) d_Law_put_6 ⟨by decide, by decide⟩ rfl (st1 := [.long (sp_Cells_value f x), .int 0, .ref ou]) rfl (fun M1 ⟨h1, fr1⟩ => ?_)
    have g4 : M1 ou = some (.inl (cL, 1, .inr (.inl fo))) := (fr1 _ (Ne.symm nv)).trans gh4
    refine V.last (pc' := 10) X hK 1 g4 rfl (vin (by decide) (by decide)) d_Law_put_9 rfl (fun M2 h2 fr2 => ?_)
    refine V.go (pc' := 17) (lv_goto X.1 X.2.1 d_Law_put_10 (by decide)) ?_
    refine V.go (pc' := 18) (lv_iconst (v := 0) X.1 X.2.1 d_Law_put_17 (by decide)) ?_
    refine V.widen (k := 1) (n := 6) (by decide) (by decide) ?_
    exact V.iret X hr hlk ⟨by rw [if_neg hcx], by rw [if_neg hcx]; exact h2, by rw [if_neg hcx]; exact (fr2 _ nv).trans h1, fun q n1 n2 => (fr2 q n1).trans (fr1 q n2)⟩ d_Law_put_18
