/-! the law's own get and put: a call that throws, caught; methods with handlers -/
theorem hw_thrown {H0 : Heap} {D : va_G} {cl : List vw_C} {M : mp} {st t : State} {L : List Loc} {k n : Nat} (h : hw H0 D cl M st.heap) (hs : st.sameButNew ({ t with vm := st.vm } : State) L k n) (hL : ∀ q ∈ L, st.heap.size ≤ q.base) : hw H0 D cl M t.heap := by
  obtain ⟨-, h1, -, -, -, h2⟩ := hs
  have h1 : st.heap.size ≤ t.heap.size := h1
  have key : ∀ q : Nat, q < st.heap.size → t.heap[q]? = st.heap[q]? := by
    intro q hq
    have hc : st.heap[q]? = some st.heap[q] := Array.getElem?_eq_getElem hq
    obtain ⟨c', e1, e2, e3, e4⟩ := h2 q _ hc
    have e1 : t.heap[q]? = some c' := e1
    have e5 : c'.slots = (st.heap[q]).slots := Array.ext_getElem? (fun i => e4 i (fun hm => by have := hL _ hm; exact absurd hq (Nat.not_lt.mpr this)))
    rw [e1, hc, e2, e5]
  exact ⟨Nat.le_trans h.1 h1, fun q hq => (key q (Nat.lt_of_lt_of_le hq h.1)).trans (h.2.1 q hq), fun a e he => ⟨(h.2.2 a e he).1, (h.2.2 a e he).2.kept (key a (h.lt he))⟩⟩
section CT
variable {p : Program} {l : Launch} {e : Env} {R : Room} {s : State} {m : MethodId} {args : Array Value} {below : List Frame} {meth : Method} {c : Code} {H0 : Heap} {D : va_G} {tys : List (ClassId × FieldType)} {Q : State → Prop} {nL : Nat} {M : mp} {cells slots pc pc' : Nat} {lv : List (Nat × Value)} {cc : ByteArray} {own : String} {Ts : List Cond}
set_option maxHeartbeats 1000000 in
/-- a call that throws, caught here -/
theorem V.callT (X : CallFix p m c cc nL s args Ts own) (hK : KK D cls7 tys NW s) (hZ : ZW H0 s) {y : MethodName} {ws : List Cond} {rm : Room} {bytes : ByteArray} {maxL n index ci b N : Nat} {ret : Option FieldType} {C : String} {T0 : u_T} {fs As rest st0 : List Value} (hM : MT l H0 D tys y ws rm (.ref b :: As) M) (hb : M b = some (.inr (ci, fs))) (hc : cls7[ci]? = some (C, T0, N)) (cw : CallW R s args own C index y bytes maxL ret ws rm rm.cells rm.slots n) (hn : As.length = n) (hst : st0 = As.reverse ++ .ref b :: rest) (hroom : (rest.map fun v => v.category).sum ≤ 8) (hdg : decode cc pc = .ok (.invokevirtual index, 3)) (hrc : rm.cells = 1) (hrs : rm.slots = 6) (hf : cells + 1 ≤ R.cells ∧ slots + 6 ≤ R.slots)
    {x : ExceptionTableEntry} (htab : c.exceptionTable.toList = [x]) (hx : covers x pc = true) (h0 : x.catchType ≠ 0) (hclink : (Cond.classLink own x.catchType tIA).before args s = true) (hcast : (Cond.castable tIA tIA).before args s = true) (hpc : x.handlerPc = pc')
    (kk : ∀ q : Nat, V p l e R s m args below meth c H0 D cls7 Q nL M (cells + 1) (slots + 6) pc' lv [.ref q]) : V p l e R s m args below meth c H0 D cls7 Q nL M cells slots pc lv st0 := by
  subst hpc
  intro H locs ls hH hL hl T hT X0
  subst hT
  obtain ⟨⟨-, -, hfr, hlo, hws, hcw, hcode, hini, hy, hlen, hlink⟩, hinst, hsel⟩ := cw
  obtain ⟨hexec, hbb, hml, hown, -⟩ := X
  obtain ⟨mk, methM, hnamed, hmethM, hstM, habM⟩ := Cond.instanceMethod_spec hinst
  obtain ⟨methM', cM, hmethM', hcM, hbM, hlM, -, -, -, hsigM⟩ := Cond.code_spec hnamed hcode
  cases hmethM.symm.trans hmethM'
  obtain ⟨cellB, hcB, hoB, hclB⟩ := va_recv hK.1 (hH.one hb) hc (q0 := 0) rfl
  obtain ⟨c2, r2, m2, q1, q2, q3, q4, kP, hkP, hkPi⟩ := Cond.selects_spec hsel
  cases hclB.symm.trans q1
  cases (State.methodFound?_of_named hnamed hy).symm.trans q2
  cases hnamed.symm.trans q3
  have hselP : selectMethod e.platform s.vm cellB.cls mk = .method mk := by rw [Launch.admits_selectMethod X0.admits]; exact q4
  obtain ⟨vm₁, X₁, hstep₁⟩ := X0.invokevirtual hexec hown hlink hnamed hmethM hstM hkP hkPi hy (a := b) (cell := cellB) hcB
    (fun z h => by rw [h] at hoB; cases hoB) hselP hmethM habM hkP hkPi (g := F0 m pc ls st0) rfl (argsL := As) (rest := rest) (hn.trans (hlen _ hsigM)) hst (by rw [hbb]; exact hdg)
  have hnU := X₁.named hnamed
  have hdg' : decode c.code pc = .ok (.invokevirtual index, 3) := by rw [hbb]; exact hdg
  have hcodeU : (Cond.code y bytes maxL ret).before (Value.ref b :: As).toArray (T.setVm vm₁) = true := hws _ hcw _ _ X₁.warmed
  obtain ⟨methY, cY, hmY, hcY, -, hlY, -, -, -, -⟩ := Cond.code_spec hnU hcodeU
  obtain ⟨kY, hkY, -⟩ := className_of_methodNamed hnU
  have hiniU : (Cond.initialized y.cls).before (Value.ref b :: As).toArray (T.setVm vm₁) = true := word_at X₁.warmed (Or.inl (by first | rfl | simp [Cond.onTables, Cond.keeps, Cond.steady])) hini
  have hinitY : kY.init = .initialized := Cond.initialized_spec (findClass_of_methodNamed hnU) hkY hiniU
  have hA : At (T.setVm vm₁) (F0 m pc ls rest).method c below := X₁.here
  have hw8 : 2 * (F0 m pc ls rest).monitorRoom + (rest.map fun v => v.category).sum ≤ 8 := lv_room hroom
  have happ : (headSpec ws rm).appliesLoose y e.platform ((T.setVm vm₁).calling (F0 m pc ls rest) mk (Value.ref b :: As).toArray) = true :=
    Spec.appliesLoose_calling (g := F0 m pc ls rest) hA hdg' hnU hkY hinitY
      (X₁.room_calling (g := F0 m pc ls rest) (R' := rm) (hl.1.trans hml.symm) hmY hcY hfr (by rw [hlY]; show 2 * (F0 m pc ls rest).monitorRoom + (rest.map fun v => v.category).sum + (maxL + 11) + rm.locals ≤ R.locals; omega) (by omega) (by omega)) (atoms_intro fun w hw => hws w hw _ _ X₁.warmed)
  obtain ⟨mid, hmid⟩ := hA.above
  have hfr2 : ((T.setVm vm₁).setTop (F0 m pc ls rest)).frames = (.java (F0 m pc ls rest) :: mid) ++ below := by rw [State.frames_setTop' _ hA.top, hmid]; rfl
  obtain ⟨o, s₂, hsteps, -, hend, hq⟩ := Steps.callFree hM p X₁.admits X₁.cas X₁.clock (acts := []) hfr2 happ ⟨rfl, hH, (hK.moved X₁.warmed), hZ.moved X₁.warmed⟩ trivial
  have hq' : QT (Value.ref b :: As).toArray ((T.setVm vm₁).calling (F0 m pc ls rest) mk (Value.ref b :: As).toArray) o s₂ := hq
  obtain ⟨xa, rfl, hW, ⟨L, hsame, hLb⟩, ce, hce, hcevm, hcecls⟩ := hq'
  rw [State.frames_setTop' _ hA.top, X₁.tail] at hend
  obtain ⟨T', X', hWT, -, ht⟩ := X₁.outOfThrown (g := F0 m pc ls rest) rfl hend hW hsame
  have hheap : T'.heap = s₂.heap := by rw [ht]; exact (Stand.throwing_heap T' _ xa).symm
  have hpl : e.platform.magicAccessors = ({} : Platform).magicAccessors := by rw [X'.admits.platform]
  obtain ⟨cI9, hfcc, hcl⟩ := Cond.classLink_spec hown hclink e.platform hpl
  obtain ⟨hg₁, hwarm₁, hready₁⟩ := State.classEntry (e := e) X'.warmed hcl
  generalize hvm₂ : T'.vm.noted m.cls x.catchType (.cls cI9) = vm₂ at hg₁ hwarm₁ hready₁
  have X₂ := X'.noted hwarm₁
  have hcl9 : s.vm.findClass tIA = some ce.cls := by
    have h9 : (T.setVm vm₁).vm.findClass tIA = some ce.cls := hcecls
    rw [X₁.warmed.alike.findClass] at h9
    exact h9
  cases hfcc.symm.trans hcl9
  obtain ⟨c3, c4, hc3, hc4, hasg⟩ := Cond.castable_spec hcast
  cases hc3.symm.trans hcl9
  cases hc4.symm.trans hcl9
  obtain ⟨kI, hkI⟩ := Vm.classAt_of_findClass hcl9
  obtain ⟨kI2, hkI2, -⟩ := hwarm₁.alike.2.2 _ _ hkI
  have hsz : vm₂.classes.size ≤ T'.vm.classes.size := Vm.Alike.size_le (X'.warmed.alike.symm.trans hwarm₁.alike)
  have hmT : T'.vm.method? m = some meth := X'.method'
  have hwH : hw H0 D cls7 M T'.heap := by
    rw [hheap]
    exact hw_thrown (st := (T.setVm vm₁).calling (F0 m pc ls rest) mk (Value.ref b :: As).toArray) hH hsame hLb
  obtain ⟨tgt, k1, k2⟩ := kk xa T'.heap (locs ++ L) ls hwH (fun q hq => by
    rcases List.mem_append.mp hq with h | h
    · exact hL q h
    · exact Nat.le_trans hH.1 (hLb q h)) hl (T'.setVm vm₂) rfl X₂
  refine ⟨tgt, hstep₁ _ fun acts => ?_, k2⟩
  rw [doInvoke_state]
  refine hsteps.trans ?_
  rw [ht]
  refine th_caught (g := F0 m pc ls rest) (vm' := vm₂) (pc := x.handlerPc) X'.here ?_ k1
  exact th_find (f := F0 m pc ls rest) (s := (T'.setTop (F0 m pc ls rest)).pushFrame (.throwing xa)) (x := x) (meth := meth) (code := c) (by rw [Stand.throwing_vm]; exact hmT) X'.code htab hx h0 (by rw [Stand.throwing_vm]; exact hg₁) (by rw [Stand.throwing_vm]; exact hsz) (by rw [Stand.throwing_heap, hheap]; exact hce) (fun k hk => by rw [hcevm] at hk; cases hk) ⟨_, hkI2⟩ ⟨_, hkI2⟩ (by rw [hwarm₁.alike.assignable]; exact hasg)
end CT
