/-! THROWS: IllegalArgumentException out of get and put, caught in the law's own get and put -/
theorem th_find {e : Env} {s : State} {f : JFrame} {a : Addr} {meth : Method} {code : Code} {x : ExceptionTableEntry} {c : ClassId} {cell : Cell} {vm' : Vm} (hm : s.vm.method? f.method = some meth) (hc : meth.code = some code) (htab : code.exceptionTable.toList = [x]) (hx : covers x f.pc = true) (h0 : x.catchType ≠ 0)
    (hg : (Jvm.resolveClass f.method.cls x.catchType).Gives e.toSetting s.vm (.ok c) vm') (hsz : vm'.classes.size ≤ s.vm.classes.size) (hcell : s.heap[a]? = some cell) (hobj : ∀ k, cell.vm ≠ .statics k) (hk : ∃ k, vm'.classes[cell.cls]? = some k) (hcl : ∃ k, vm'.classes[c]? = some k) (hfit : vm'.assignable cell.cls c = true)
    (Q : Handler → Pre) (E : CtlPost) (d : Bool) (acts : List Action) : wp (findHandler f a) Q E e d acts s ↔ Q (.found x.handlerPc) d acts (s.setVm vm') := by
  obtain ⟨ha, ht⟩ := hg.op (op := VmOp.resolveClass f.method.cls x.catchType) rfl
  simp only [covers] at hx
  rw [Jvm.W.findHandler_eq hm hc, htab]
  simp [findHandler.go, hx, h0, ha, ht, hsz, hcell, hobj, hk, hcl, hfit, VmOp.dirties, VmOp.acts]
theorem th_step {e : Env} {s : State} {a : Addr} {f : JFrame} {r : List Frame} {pc : Nat} {vm' : Vm} (hfind : ∀ (Q : Handler → Pre) (E : CtlPost) (d : Bool) (acts : List Action), wp (findHandler f a) Q E e d acts s ↔ Q (.found pc) d acts (s.setVm vm')) :
    (stepThrowing e s a (.java f :: r)).Is ((s.setVm vm').setFrames (.java { f with pc := pc, stack := [.ref a] } :: r)) [] := by
  simp only [stepThrowing, searchFrame, vmDo]
  generalize hr : Sem.go _ e false [] s = res
  obtain ⟨as, rfl, ha⟩ := Sem.eq_ok_of hr (a := Handler.found pc) (s' := s.setVm vm') (acts' := []) (by simp [hfind _ _ _ _])
  exact ⟨rfl, ha⟩
theorem th_caught {tb : Tables} {e : Env} {s target : State} {g : JFrame} {c : Code} {below : List Frame} {a : Addr} {vm' : Vm} (h : At s g.method c below) {pc : Nat} (hfind : ∀ (Q : Handler → Pre) (E : CtlPost) (d : Bool) (acts : List Action), wp (findHandler g a) Q E e d acts ((s.setTop g).pushFrame (.throwing a)) ↔ Q (.found pc) d acts (((s.setTop g).pushFrame (.throwing a)).setVm vm'))
    (hrest : Steps tb e below ((s.setVm vm').setTop { g with pc := pc, stack := [.ref a] }) target) : Steps tb e below ((s.setTop g).pushFrame (.throwing a)) target := by
  obtain ⟨hgo, hw⟩ := h.throwing a
  refine Steps.head hgo hw ?_
  rw [stepThread_throwing (frames_entered h.top _), (th_step (s := (s.setTop g).pushFrame (.throwing a)) hfind).1]
  obtain ⟨g₀, hg⟩ := Option.isSome_iff_exists.mp h.top
  obtain ⟨r, hr⟩ := State.topJava?_eq_some.mp hg
  have hr2 : (s.setVm vm').frames = .java g₀ :: r := hr
  rw [State.setTop_of_frames _ hr2] at hrest
  have key : ((((s.setTop g).pushFrame (.throwing a)).setVm vm').setFrames (.java { g with pc := pc, stack := [.ref a] } :: s.frames.tail)) = (s.setVm vm').setFrames (.java { g with pc := pc, stack := [.ref a] } :: r) := by
    rw [hr, State.pushFrame, State.setTop_of_frames _ hr]
    show (((s.setFrames _).setFrames _).setFrames _).setVm vm' = (s.setFrames _).setVm vm'
    rw [State.setFrames_setFrames, State.setFrames_setFrames]
    rfl
  rw [key]
  exact hrest
/-- the words on the heap that a throw rests on: for every later state whose heap is H0's below its size -/
abbrev tIA : String := "java/lang/IllegalArgumentException"
abbrev upIA : List String := ["java/lang/RuntimeException", "java/lang/Exception"]
abbrev oaIA : List Cond := Bundle.ownAtoms "PerformRanges" 102 tIA upIA
abbrev tTh : String := "java/lang/Throwable"
abbrev iS (c : String) : MethodName := ⟨c, "<init>", "(Ljava/lang/String;)V"⟩
def zW : List Cond := [.laysStatic tTh "UNASSIGNED_STACK" "[Ljava/lang/StackTraceElement;", .laysStatic tTh "SUPPRESSED_SENTINEL" "Ljava/util/List;", .isRef (.static tTh "UNASSIGNED_STACK" "[Ljava/lang/StackTraceElement;"), .isRef (.static tTh "SUPPRESSED_SENTINEL" "Ljava/util/List;"), .declares (iS "java/lang/RuntimeException"), .declares (iS "java/lang/Exception"), .declares (iS tTh), .castable tIA tIA]
theorem oa_ok : oaIA.all (fun w => (decide (w ∈ lw_tbl) && goodWord w) || decide (w ∈ zW)) = true := by decide +kernel
def ZW (H0 : Heap) (U : State) : Prop := ∀ V9 : State, U.WarmedH V9.vm → (∀ q : Nat, q < H0.size → V9.heap[q]? = H0[q]?) → (∀ w ∈ zW, ∀ a : Array Value, w.before a V9 = true) ∧ ∃ a, vk_R "PerformRanges" 100 "no such cell" a V9
theorem ZW.moved {H0 : Heap} {s U : State} (hW : s.WarmedH U.vm) (h : ZW H0 s) : ZW H0 U := fun V9 h1 h2 => h V9 (State.WarmedH.trans hW h1) h2
theorem ls_move {C n d : String} {s U : State} {a a' : Array Value} (hW : s.WarmedH U.vm) (hh : ∀ q : Nat, q < s.heap.size → U.heap[q]? = s.heap[q]?) (h : (Cond.laysStatic C n d).before a s = true) : (Cond.laysStatic C n d).before a' U = true := by
  obtain ⟨c, k, i, f, ad, cell, hc, hi, hst, ha, hcell, hs, hcls, hlt, hty⟩ := Cond.laysStatic_spec h
  obtain ⟨k', hi', he⟩ := State.fieldFound?_setVm hW.alike hi
  have hi2 : U.fieldFound? C n d = some (c, k', i, f) := hi'
  have hc' : U.vm.findClass C = some c := by rw [hW.alike.findClass]; exact hc
  have hcell' : U.heap[ad]? = some cell := by rw [hh ad (Array.getElem?_eq_some_iff.mp hcell).1]; exact hcell
  have e1 : k'.statics = some ad := by rw [he]; exact ha
  have e2 : k'.staticTypes[f.slot]? = some f.type := by rw [he]; exact hty
  simp [Cond.before, Cond.holds, Cond.value, hc', hi2, e1, hcell', hst, hs, hcls, hlt, e2]
theorem zq_ref {C n d : String} {A : Nat → Prop} {U : State} {a : Array Value} (h : va_Zq C n d A U U.heap) : (Cond.isRef (.static C n d)).before a U = true := by
  rcases h with h | ⟨t, h⟩
  · obtain ⟨cf, kf, fi, f, ad, cell, h1, h2, h3, h4, h5, h6, h7, h8⟩ := h
    simp [Cond.before, Cond.holds, Cond.value, Term.eval, State.fieldNamed?, h1, h2, h4, h5, h6, h7]
  · obtain ⟨cf, kf, fi, f, ad, cell, h1, h2, h3, h4, h5, h6, h7, h8⟩ := h
    simp [Cond.before, Cond.holds, Cond.value, Term.eval, State.fieldNamed?, h1, h2, h4, h5, h6, h7]
theorem dc_move {x : MethodName} {s U : State} {a a' : Array Value} (hW : s.WarmedH U.vm) (h : (Cond.declares x).before a s = true) : (Cond.declares x).before a' U = true := by
  obtain ⟨m, meth, h1, h2, h3, h4⟩ := Cond.declares_spec h
  have h1' : U.methodNamed? x = some m := (State.methodNamed?_setVm hW.alike x).trans h1
  have h2' : U.vm.method? m = some meth := by rw [hW.alike.method?]; exact h2
  simp [Cond.before, Cond.holds, Cond.value, h1', h2', h3, h4]
theorem ct_move {x y : String} {s U : State} {a a' : Array Value} (hW : s.WarmedH U.vm) (h : (Cond.castable x y).before a s = true) : (Cond.castable x y).before a' U = true := by
  obtain ⟨c3, c4, h1, h2, h3⟩ := Cond.castable_spec h
  have h1' : U.vm.findClass x = some c3 := by rw [hW.alike.findClass]; exact h1
  have h2' : U.vm.findClass y = some c4 := by rw [hW.alike.findClass]; exact h2
  have h3' : U.vm.assignable c3 c4 = true := by rw [hW.alike.assignable]; exact h3
  simp [Cond.before, Cond.holds, Cond.value, h1', h2', h3']
theorem ZW.of {s : State} {args : Array Value} (h : ∀ w ∈ zW, w.before args s = true) (hi : (Cond.initialized tTh).before args s = true) (hs : (Cond.stringRef "PerformRanges" 100 "no such cell").before args s = true) : ZW s.heap s := by
  intro V9 hW hh
  have l1 := h _ (List.mem_of_getElem? (i := 0) rfl)
  have l2 := h _ (List.mem_of_getElem? (i := 1) rfl)
  have r1 := h _ (List.mem_of_getElem? (i := 2) rfl)
  have r2 := h _ (List.mem_of_getElem? (i := 3) rfl)
  have c1 := h _ (List.mem_of_getElem? (i := 4) rfl)
  have c2 := h _ (List.mem_of_getElem? (i := 5) rfl)
  have c3 := h _ (List.mem_of_getElem? (i := 6) rfl)
  have c4 := h _ (List.mem_of_getElem? (i := 7) rfl)
  have hA : ∀ a : Nat, a < s.heap.size → ¬ (fun q : Nat => s.heap.size ≤ q) a := fun a ha hb => by have : s.heap.size ≤ a := hb; omega
  have z1 := ((va_Zqof l1 hi r1 hA).moved (U := V9) hW.alike).kept (H1 := V9.heap) (fun a ha _ => hh a ha)
  have z2 := ((va_Zqof l2 hi r2 hA).moved (U := V9) hW.alike).kept (H1 := V9.heap) (fun a ha _ => hh a ha)
  refine ⟨fun w hw a => ?_, ?_⟩
  · simp only [zW, List.mem_cons, List.not_mem_nil, or_false] at hw
    rcases hw with rfl | rfl | rfl | rfl | rfl | rfl | rfl | rfl
    · exact ls_move hW hh l1
    · exact ls_move hW hh l2
    · exact zq_ref z1
    · exact zq_ref z2
    · exact dc_move hW c1
    · exact dc_move hW c2
    · exact dc_move hW c3
    · exact ct_move hW c4
  · have hcur : ∃ cur, s.vm.findClass "PerformRanges" = some cur := by
      have h1 := hs
      simp only [Cond.before, Cond.holds, Cond.value] at h1
      cases hc : s.vm.findClass "PerformRanges" with
      | none => simp [hc] at h1
      | some cur => exact ⟨cur, rfl⟩
    obtain ⟨cur, hcur⟩ := hcur
    obtain ⟨-, -, -, sa, -, -, -, -, -, hev⟩ := Cond.stringRef_spec hcur hs
    exact ⟨sa, vk_R.warm hW (vk_R.of hs hev)⟩
/-- a throw's end -/
def QT : Array Value → State → Outcome → State → Prop := fun _ st o t => ∃ x : Nat, o = .threw x ∧ st.WarmedH t.vm ∧ (∃ L : List Loc, st.sameButNew ({ t with vm := st.vm } : State) L 1 6 ∧ ∀ q ∈ L, st.heap.size ≤ q.base) ∧ ∃ ce : Cell, t.heap[x]? = some ce ∧ ce.vm = .none ∧ st.vm.findClass tIA = some ce.cls
def TQ (below : List Frame) (a : Array Value) (s : State) : State → Prop := fun t => ∃ o, t.status = .running ∧ Ended t below o ∧ QT a s o t
section TH
variable {p : Program} {l : Launch} {e : Env} {R : Room} {s : State} {m : MethodId} {args : Array Value} {below : List Frame} {meth : Method} {c : Code} {H0 : Heap} {D : va_G} {cl : List vw_C} {nL : Nat} {M : mp} {lv : List (Nat × Value)} {cc : ByteArray} {own : String} {x : Cond}
/-- new IllegalArgumentException("no such cell"); athrow -/
theorem V.iae (X : CallFix p m c cc nL s args (x :: GW) "PerformRanges") (htr : e.platform.stackTraces = false) (hZ : (∀ w ∈ zW, ∀ a : Array Value, w.before a s = true) ∧ ∃ a, vk_R "PerformRanges" 100 "no such cell" a s) (hlk : meth.locks = false) (htab : c.exceptionTable.isEmpty = true)
    (d7 : decode cc 7 = .ok (.new 98, 3)) (d10 : decode cc 10 = .ok (.dup, 1)) (d11 : decode cc 11 = .ok (.ldc 100, 2)) (d13 : decode cc 13 = .ok (.invokespecial 102, 3)) (d16 : decode cc 16 = .ok (.athrow, 1))
    (hc1 : 1 ≤ R.cells) (hs6 : 6 ≤ R.slots) (hRf : 5 < R.frames) (hRl : 84 ≤ R.locals) : V p l e R s m args below meth c s.heap D cl (TQ below args s) nL M 0 0 7 lv [] := by
  intro H locs ls hH hL hl T hT X0
  subst hT
  have gw : ∀ w ∈ oaIA, w.before args s = true := fun w hw => by
    have h1 := List.all_eq_true.mp oa_ok w hw
    simp only [Bool.or_eq_true, Bool.and_eq_true, decide_eq_true_eq] at h1
    rcases h1 with h1 | h1
    · exact X.2.2.2.2 w (mcs (List.mem_filter.mpr h1))
    · exact hZ.1 w h1 args
  have w1 : (Cond.classLink "PerformRanges" 98 tIA).before args s = true := X.2.2.2.2 _ (mcs (gw_of (i := 30 + 402) (by decide +kernel) (by decide +kernel)))
  have w2 : (Cond.initialized tIA).before args s = true := X.2.2.2.2 _ (mcs (gw_of (i := 30 + 12) (by decide +kernel) (by decide +kernel)))
  have w3 : (Cond.instantiable tIA 6).before args s = true := gw _ (by simp [oaIA, Bundle.ownAtoms])
  obtain ⟨hexec, hb, hml, hown, hws⟩ := X
  obtain ⟨vm₁, cX, kX, hfX, hkX, -, -, X₁, st1⟩ := X0.newCold hexec (own := "PerformRanges") (C := tIA) (index := 98) (n := 6) hown w1 w3 w2
    (g := F0 m 7 ls []) rfl (by rw [hb]; exact d7) (by omega) (by omega)
  obtain ⟨sa, hsa⟩ := hZ.2
  have hconst : (Cond.stringRef "PerformRanges" 100 "no such cell").before args s = true := hsa.1
  obtain ⟨-, -, -, sb, -, -, -, -, -, hev⟩ := Cond.stringRef_spec hown hconst
  generalize hT : (T.setVm vm₁).pushCell { cls := cX, slots := kX.instanceTypes.map defaultValue, vm := .none } = T2 at X₁ st1
  have hcellA : T2.heap[T.heap.size]? = some (freshCell cX kX) := by rw [← hT]; exact State.heap_pushCell_size _ _
  obtain ⟨U, hsteps, hrun, hend, hW, hsame, ce, hce, K⟩ := X₁.ctorThrowS hexec htr (own := "PerformRanges") (cls := tIA) (names := upIA) (ic := 102) hown (by decide +kernel) (by decide +kernel)
    gw (fun y hy cell hcell => absurd (Array.getElem?_eq_some_iff.mp hcell).1 (Nat.not_lt.mpr (hL y hy))) hfX hkX hcellA hH.1 (msg := .ref sb) rfl
    (g := F0 m 13 ls [.ref sb, .ref T.heap.size, .ref T.heap.size]) rfl (hl.1.trans hml.symm) rfl rfl (rest := []) rfl
    (by rw [hb]; exact d13) (by rw [hb]; exact d16) (covers_of_empty htab _) (by show 2 + 3 < R.frames; omega) (by show 0 + 1 + (13 * (2 + 1) + 42) ≤ R.locals; omega)
  refine ⟨U, st1 _ ?_, .threw T.heap.size, hrun, hend, _, rfl, hW, ⟨locs, hsame, hL⟩, ce, hce, K.vm, K.cls⟩
  show Steps p.tables e below (T2.setTop (F0 m 10 ls [.ref T.heap.size])) _
  jvm_step X₁.here [X₁.here.top, hexec, hb, d10, Value.category]
  exact X₁.ldcString hexec (own := "PerformRanges") (text := "no such cell") (index := 100) (a := sb) hown hconst hev (g := F0 m 11 ls [.ref T.heap.size, .ref T.heap.size]) rfl (by rw [hb]; exact d11) _ hsteps
end TH
/-- a method's contract that ends in a throw -/
def MT (l : Launch) (H0 : Heap) (D : va_G) (tys : List (ClassId × FieldType)) (y : MethodName) (ws : List Cond) (rm : Room) (av : List Value) (M : mp) : Prop :=
  MetFree l y (headSpec ws rm) (va_Pc av (fun U => hw H0 D cls7 M U.heap ∧ KK D cls7 tys NW U ∧ ZW H0 U)) (fun _ _ _ _ _ => True) QT
theorem MT.of {l : Launch} {H0 : Heap} {D : va_G} {tys : List (ClassId × FieldType)} {y : MethodName} {ws' : List Cond} {rm : Room} {av : List Value} {M : mp} {cc : ByteArray} {nL : Nat} {ret : Option FieldType} {lv : List (Nat × Value)} (hy : plainName y.cls = true) (hlen : (lg_sl av).length ≤ nL) (hlv : lv_args 0 av = lv)
    (body : ∀ p e s m below meth c, l.admits e → CallFix p m c cc nL s av.toArray (Cond.code y cc nL ret :: ws') y.cls → meth.locks = false → c.exceptionTable.isEmpty = true → KK D cls7 tys NW s → (∀ w ∈ zW, ∀ a : Array Value, w.before a s = true) ∧ (∃ a, vk_R "PerformRanges" 100 "no such cell" a s) → V p l e rm s m av.toArray below meth c s.heap D cls7 (TQ below av.toArray s) nL (fun _ => none) 0 0 0 lv []) : MT l H0 D tys y (Cond.code y cc nL ret :: ws') rm av M := by
  refine MetFree.of_bodyS (code := cc) (maxLocals := nL) (ret := ret) hy ?_ ?_
  · intro args s m h hn
    obtain ⟨meth, c, h1, h2, h3, h4, h5, h6, -, -⟩ := Cond.code_spec hn (atoms_spec (ws := Cond.code y cc nL ret :: ws') h _ List.mem_cons_self)
    exact ⟨meth, c, h1, h2, h3, h4, h5, h6⟩
  · intro p e s m args below meth c s₁ B hml hP _
    obtain ⟨rfl, hH, hK, hZ⟩ := hP
    have hh0 : s₁.heap = s.heap := by rw [B.state]; rfl
    have hws := atoms_spec (ws := Cond.code y cc nL ret :: ws') B.pre
    have X₀ := Stand.of_body B
    have hv := body p e s m below meth c X₀.admits ⟨B.exec, B.bytes, hml, findClass_of_methodNamed B.named, hws⟩ B.notSynchronized (B.noHandlers (hws _ List.mem_cons_self)) hK (hZ s (State.WarmedH.refl s) hH.2.1)
    have hl := lv_entry av (n := nL) hlen
    rw [hlv] at hl
    obtain ⟨t, a1, o, b1, b2, b3⟩ := hv s.heap [] _ ⟨Nat.le_refl _, fun _ _ => rfl, fun a e h => by cases h⟩ (fun q h => by cases h) hl s₁ hh0 X₀
    rw [← lg_entry_eq] at a1
    exact ⟨t, o, a1, b1, b2, b3⟩
theorem t_PR_get {l : Launch} (hfl : l.flags = flags0) {H0 : Heap} {D : va_G} {cI cL cQ cB : ClassId} {M : mp} {px : Nat} {x : Int32} (hcx : (sp_isCell x) = 0) : MT l H0 D (tysOf cI cL cQ cB) ({ cls := "PerformRanges", name := "get", desc := "(I)J" } : Jvm.MethodName) (Cond.code ({ cls := "PerformRanges", name := "get", desc := "(I)J" } : Jvm.MethodName) prog_1_method_11_code 2 (Option.some Jvm.ClassFile.FieldType.long) :: GW) ({ frames := 6, cells := 1, slots := 6, locals := 90 }) [.ref px, .int x] M := by
  refine MT.of (cc := prog_1_method_11_code) (nL := 2) (lv := [(0, .ref px), (1, .int x)]) (by decide) (Nat.le_of_ble_eq_true rfl) rfl ?_
  intro p e s m below meth c ha X hlk htab hK hZ
  refine V.rd (pc' := 1) (fun hl => lv_iload_n X.1 X.2.1 d_PR_get_0 rfl (lv_at hl 1 rfl)) ?_
  refine V.callS0 (pc' := 4) X hK (c_isCell  (x := x)     ) (csG (n := 1) X (mcs wd_300) (mcs wd_301) (mcs wd_289) wd_302 (by decide +kernel) (by decide) (by decide)) rfl rfl (Nat.le_of_ble_eq_true rfl) d_PR_get_1 ⟨by decide, by decide⟩ rfl (st1 := [.int (sp_isCell x)]) rfl ?_
  refine V.bnT (pc' := 7) (tgt := 17) (lv_if_ne X.1 X.2.1 d_PR_get_4 (by decide)) hcx ?_
  exact V.iae X (Launch.traces_off hfl ha) hZ hlk htab d_PR_get_7 d_PR_get_10 d_PR_get_11 d_PR_get_13 d_PR_get_16 (by decide) (by decide) (by decide) (by decide)
theorem t_PR_put {l : Launch} (hfl : l.flags = flags0) {H0 : Heap} {D : va_G} {cI cL cQ cB : ClassId} {M : mp} {px : Nat} {x : Int32} {y : Int64} (hcx : (sp_isCell x) = 0) : MT l H0 D (tysOf cI cL cQ cB) ({ cls := "PerformRanges", name := "put", desc := "(IJ)J" } : Jvm.MethodName) (Cond.code ({ cls := "PerformRanges", name := "put", desc := "(IJ)J" } : Jvm.MethodName) prog_1_method_12_code 6 (Option.some Jvm.ClassFile.FieldType.long) :: GW) ({ frames := 6, cells := 1, slots := 6, locals := 90 }) [.ref px, .int x, .long y] M := by
  refine MT.of (cc := prog_1_method_12_code) (nL := 6) (lv := [(0, .ref px), (1, .int x), (2, .long y)]) (by decide) (Nat.le_of_ble_eq_true rfl) rfl ?_
  intro p e s m below meth c ha X hlk htab hK hZ
  refine V.rd (pc' := 1) (fun hl => lv_iload_n X.1 X.2.1 d_PR_put_0 rfl (lv_at hl 1 rfl)) ?_
  refine V.callS0 (pc' := 4) X hK (c_isCell  (x := x)     ) (csG (n := 1) X (mcs wd_300) (mcs wd_301) (mcs wd_289) wd_302 (by decide +kernel) (by decide) (by decide)) rfl rfl (Nat.le_of_ble_eq_true rfl) d_PR_put_1 ⟨by decide, by decide⟩ rfl (st1 := [.int (sp_isCell x)]) rfl ?_
  refine V.bnT (pc' := 7) (tgt := 17) (lv_if_ne X.1 X.2.1 d_PR_put_4 (by decide)) hcx ?_
  exact V.iae X (Launch.traces_off hfl ha) hZ hlk htab d_PR_put_7 d_PR_put_10 d_PR_put_11 d_PR_put_13 d_PR_put_16 (by decide) (by decide) (by decide) (by decide)
