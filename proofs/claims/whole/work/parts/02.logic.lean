/-! MAP WORLDS: what the heap holds is a map from addresses to contents; H0 is the heap as the law found it. -/
abbrev mp : Type := Nat → Option va_E
def hw (H0 : Heap) (D : va_G) (cl : List vw_C) (M : mp) (H : Heap) : Prop :=
  H0.size ≤ H.size ∧ (∀ q : Nat, q < H0.size → H[q]? = H0[q]?) ∧ ∀ (a : Nat) (e : va_E), M a = some e → H0.size ≤ a ∧ va_at D cl (a, e) H
theorem hw.lt {H0 H : Heap} {D : va_G} {cl : List vw_C} {M : mp} (h : hw H0 D cl M H) {a : Nat} {e : va_E} (ha : M a = some e) : a < H.size := ((h.2.2 a e ha).2).lt
theorem hw.one {H0 H : Heap} {D : va_G} {cl : List vw_C} {M : mp} (h : hw H0 D cl M H) {a : Nat} {e : va_E} (ha : M a = some e) : va_P D cl [(a, e)] H := by
  intro k q hk
  have hz : k < 1 := (List.getElem?_eq_some_iff.mp hk).1
  rw [show k = 0 by omega] at hk
  cases hk
  exact (h.2.2 a e ha).2
theorem hw.set {H0 H H1 : Heap} {D : va_G} {cl : List vw_C} {M : mp} (h : hw H0 D cl M H) {a : Nat} {e0 e : va_E} (ha : M a = some e0) (z : H1.size = H.size) (oq : ∀ q : Nat, q ≠ a → H1[q]? = H[q]?) (he : va_at D cl (a, e) H1) : hw H0 D cl (va_up M a (some e)) H1 := by
  have hB := (h.2.2 a e0 ha).1
  refine ⟨by rw [z]; exact h.1, fun q hq => (oq q (by omega)).trans (h.2.1 q hq), fun b x hx => ?_⟩
  by_cases hb : b = a
  · subst hb
    rw [va_up_self] at hx
    cases hx
    exact ⟨hB, he⟩
  · rw [va_up_ne _ _ hb] at hx
    obtain ⟨h1, h2⟩ := h.2.2 b x hx
    exact ⟨h1, h2.kept (oq b hb)⟩
theorem hw.push {H0 H H1 : Heap} {D : va_G} {cl : List vw_C} {M : mp} (h : hw H0 D cl M H) {e : va_E} (z : H1.size = H.size + 1) (oq : ∀ q : Nat, q < H.size → H1[q]? = H[q]?) (he : va_at D cl (H.size, e) H1) : hw H0 D cl (va_up M H.size (some e)) H1 := by
  have hB := h.1
  refine ⟨by omega, fun q hq => (oq q (by omega)).trans (h.2.1 q hq), fun b x hx => ?_⟩
  by_cases hb : b = H.size
  · subst hb
    rw [va_up_self] at hx
    cases hx
    exact ⟨hB, he⟩
  · rw [va_up_ne _ _ hb] at hx
    obtain ⟨h1, h2⟩ := h.2.2 b x hx
    exact ⟨h1, h2.kept (oq b h2.lt)⟩
theorem hw.fresh {H0 H : Heap} {D : va_G} {cl : List vw_C} {M : mp} (h : hw H0 D cl M H) : M H.size = none := by
  cases hm : M H.size with
  | none => rfl
  | some e => exact absurd (h.lt hm) (Nat.lt_irrefl _)
/-- the words that no list of words holds: links among nest mates, arrays over a class -/
def nw_ok (w : Cond) : Bool := match w with
  | .fieldLinkNest _ _ _ _ _ _ => true
  | .methodLinkNest _ _ _ _ => true
  | .arrayOver (.object _) => true
  | _ => false
theorem nw_moved {w : Cond} (hw : nw_ok w = true) {s U : State} (hW : s.WarmedH U.vm) (h : va_Nw w s) : va_Nw w U := by
  cases w with
  | fieldLinkNest a i b n d h9 => exact va_Nw.warmF hW h
  | methodLinkNest a i x h9 => exact va_Nw.warmM hW h
  | arrayOver t =>
    cases t with
    | object C => exact va_AO.moved (C := C) hW.alike h
    | _ => cases hw
  | _ => cases hw
/-- what the tables say: classes, array classes, nest words -/
def KK (D : va_G) (cl : List vw_C) (tys : List (ClassId × FieldType)) (NW : List Cond) (U : State) : Prop := va_K D cl tys U ∧ (∀ w ∈ NW, nw_ok w = true) ∧ ∀ w ∈ NW, va_Nw w U
theorem KK.moved {D : va_G} {cl : List vw_C} {tys : List (ClassId × FieldType)} {NW : List Cond} {s U : State} (hW : s.WarmedH U.vm) (h : KK D cl tys NW s) : KK D cl tys NW U := ⟨va_K.moved hW.alike h.1, h.2.1, fun w hw => nw_moved (h.2.1 w hw) hW (h.2.2 w hw)⟩
def imax (x y : Int32) : Int32 := if x < y then y else x
/-- the walk's judgement over map worlds: from any heap that holds M, any locals that hold lv -/
def V (p : Program) (l : Launch) (e : Env) (R : Room) (s : State) (m : MethodId) (args : Array Value) (below : List Frame) (meth : Method) (c : Code) (H0 : Heap) (D : va_G) (cl : List vw_C) (Q : State → Prop) (nL : Nat) (M : mp) (cells slots : Nat) (pc : Nat) (lv : List (Nat × Value)) (st : List Value) : Prop :=
  ∀ (H : Heap) (locs : List Loc) (ls : Array Slot), hw H0 D cl M H → (∀ q ∈ locs, H0.size ≤ q.base) → lv_has ls nL lv → W p l e R s m args below meth c H locs cells slots Q (F0 m pc ls st)
/-- a method's end over map worlds -/
def Qm (H0 : Heap) (D : va_G) (cl : List vw_C) (post : Option Value → mp → Prop) : Array Value → State → Outcome → State → Prop := fun _ _ o t => ∃ (v : Option Value) (M : mp), o = .returned v ∧ post v M ∧ hw H0 D cl M t.heap
/-- a method's contract over map worlds -/
def MC (l : Launch) (H0 : Heap) (D : va_G) (cl : List vw_C) (tys : List (ClassId × FieldType)) (NW : List Cond) (y : MethodName) (ws : List Cond) (rm : Room) (av : List Value) (M : mp) (post : Option Value → mp → Prop) : Prop :=
  Met l y ws rm (va_Pc av (fun U => hw H0 D cl M U.heap ∧ KK D cl tys NW U)) (Qm H0 D cl post) rm.cells rm.slots (fun q => H0.size ≤ q)
theorem MC.blind {H0 : Heap} {D : va_G} {cl : List vw_C} {tys : List (ClassId × FieldType)} {NW : List Cond} {av : List Value} {M : mp} : FrameBlind (va_Pc av (fun U => hw H0 D cl M U.heap ∧ KK D cl tys NW U)) := fun a U g mk q => by
  obtain ⟨q0, qP, qK⟩ := q
  exact ⟨q0, qP, va_K.moved (u := U) (U := U.calling g mk a) (Vm.Alike.refl U.vm) qK.1, qK.2.1, fun w hw => nw_moved (s := U) (U := U.calling g mk a) (qK.2.1 w hw) (State.WarmedH.refl U) (qK.2.2 w hw)⟩
section VL
variable {p : Program} {l : Launch} {e : Env} {R : Room} {s : State} {m : MethodId} {args : Array Value} {below : List Frame} {meth : Method} {c : Code} {H0 : Heap} {D : va_G} {cl : List vw_C} {tys : List (ClassId × FieldType)} {NW : List Cond} {Q : State → Prop} {nL : Nat} {M : mp} {cells slots pc pc' : Nat} {lv lv' : List (Nat × Value)} {st : List Value} {cc : ByteArray} {own : String} {Ts : List Cond}
theorem MC.of {y : MethodName} {ws ws' : List Cond} {rm : Room} {av : List Value} {post : Option Value → mp → Prop} {ret : Option FieldType} (hy : plainName y.cls = true) (hw1 : ws = Cond.code y cc nL ret :: ws') (hlen : (lg_sl av).length ≤ nL) (hlv : lv_args 0 av = lv)
    (body : ∀ p e s m below meth c, CallFix p m c cc nL s av.toArray ws y.cls → meth.sig.returnType = ret → meth.locks = false → meth.name = y.name → KK D cl tys NW s → V p l e rm s m av.toArray below meth c H0 D cl (MQ below (Qm H0 D cl post) av.toArray s rm.cells rm.slots (fun q => H0.size ≤ q)) nL M 0 0 0 lv []) : MC l H0 D cl tys NW y ws rm av M post := by
  refine Met.ofW (cc := cc) (maxL := nL) (ret := ret) hy hw1 ?_
  intro p e s m args below meth c s₁ B hml hv
  obtain ⟨rfl, hH, hK⟩ := hv
  have hl := lv_entry av (n := nL) hlen
  rw [lg_entry_eq]
  rw [hlv] at hl
  exact body p e s m below meth c ⟨B.exec, B.bytes, hml, findClass_of_methodNamed B.named, atoms_spec (ws := ws) B.pre⟩ B.returns B.notSynchronized (name_of_methodNamed B.named B.method).1 hK s.heap [] _ hH (fun q h => by cases h) hl
/-- lifts: rows that look at neither heap nor locals; rows that read the locals -/
theorem V.go {st' : List Value} (f : ∀ {H : Heap} {locs : List Loc} {ls : Array Slot}, W p l e R s m args below meth c H locs cells slots Q (F0 m pc' ls st') → W p l e R s m args below meth c H locs cells slots Q (F0 m pc ls st)) (k : V p l e R s m args below meth c H0 D cl Q nL M cells slots pc' lv st') : V p l e R s m args below meth c H0 D cl Q nL M cells slots pc lv st :=
  fun H locs ls hH hL hl => f (k H locs ls hH hL hl)
theorem V.rd {st' : List Value} (f : ∀ {H : Heap} {locs : List Loc} {ls : Array Slot}, lv_has ls nL lv → W p l e R s m args below meth c H locs cells slots Q (F0 m pc' ls st') → W p l e R s m args below meth c H locs cells slots Q (F0 m pc ls st)) (k : V p l e R s m args below meth c H0 D cl Q nL M cells slots pc' lv st') : V p l e R s m args below meth c H0 D cl Q nL M cells slots pc lv st :=
  fun H locs ls hH hL hl => f hl (k H locs ls hH hL hl)
/-- fewer locals -/
theorem V.pick (ks : List Nat) (h : lv_pick lv ks = lv') (k : V p l e R s m args below meth c H0 D cl Q nL M cells slots pc lv' st) : V p l e R s m args below meth c H0 D cl Q nL M cells slots pc lv st :=
  fun H locs ls hH hL hl => k H locs ls hH hL (lv_sub hl ks h)
theorem V.widen {k n : Nat} (h1 : cells ≤ k) (h2 : slots ≤ n) (kk : V p l e R s m args below meth c H0 D cl Q nL M k n pc lv st) : V p l e R s m args below meth c H0 D cl Q nL M cells slots pc lv st :=
  fun H locs ls hH hL hl => W.widen h1 h2 (kk H locs ls hH hL hl)
theorem V.cast {M' : mp} (h : M = M') (k : V p l e R s m args below meth c H0 D cl Q nL M' cells slots pc lv st) : V p l e R s m args below meth c H0 D cl Q nL M cells slots pc lv st := h ▸ k
/-- getfield -/
theorem V.get (X : CallFix p m c cc nL s args Ts own) (hK : KK D cl tys NW s) {C : String} {T : u_T} {N ci index a : Nat} {fs : List Value} (ha : M a = some (.inr (ci, fs))) (hin : ∀ w ∈ u_ws C T N, w ∈ Ts) (hc : cl[ci]? = some (C, T, N)) (k : Nat) (hk : k < N) (hlink : Cond.fieldLink own index (T k).1 (T k).2.1 (T k).2.2.1 ∈ Ts) {v : Value} (hv : fs[k]? = some v) (hdg : decode cc pc = .ok (.getfield index, 3)) (hpc : pc + 3 = pc')
    (kk : V p l e R s m args below meth c H0 D cl Q nL M cells slots pc' lv (v :: st)) : V p l e R s m args below meth c H0 D cl Q nL M cells slots pc lv (.ref a :: st) := by
  subst hpc
  intro H locs ls hH hL hl
  exact va_get X.1 X.2.1 X.2.2.2.2 hin X.2.2.2.1 hK.1 (hH.one ha) 0 rfl hc k hk (X.2.2.2.2 _ hlink) (fun _ h9 => h9) hv hdg (kk H locs ls hH hL hl)
/-- getfield of a nest mate's private field -/
theorem V.getN (X : CallFix p m c cc nL s args Ts own) (hK : KK D cl tys NW s) {C host : String} {T : u_T} {N ci index a : Nat} {fs : List Value} (ha : M a = some (.inr (ci, fs))) (hin : ∀ w ∈ u_ws C T N, w ∈ Ts) (hc : cl[ci]? = some (C, T, N)) (k : Nat) (hk : k < N) (hlink : Cond.fieldLinkNest own index (T k).1 (T k).2.1 (T k).2.2.1 host ∈ NW) {v : Value} (hv : fs[k]? = some v) (hdg : decode cc pc = .ok (.getfield index, 3)) (hpc : pc + 3 = pc')
    (kk : V p l e R s m args below meth c H0 D cl Q nL M cells slots pc' lv (v :: st)) : V p l e R s m args below meth c H0 D cl Q nL M cells slots pc lv (.ref a :: st) := by
  subst hpc
  intro H locs ls hH hL hl
  exact va_getN X.1 X.2.1 X.2.2.2.2 hin X.2.2.2.1 hK.1 (hH.one ha) 0 rfl hc k hk (va_Nw.use rfl (hK.2.2 _ hlink)) (fun _ h9 => h9) hv hdg (kk H locs ls hH hL hl)
/-- putfield, not final -/
theorem V.put (X : CallFix p m c cc nL s args Ts own) (hK : KK D cl tys NW s) {C : String} {T : u_T} {N ci index a : Nat} {fs fs' : List Value} (ha : M a = some (.inr (ci, fs))) (hin : ∀ w ∈ u_ws C T N, w ∈ Ts) (ty0 : Nat → FieldType) (hty : ∀ k, k < N → parseFieldDescriptor (T k).2.2.1 = some (ty0 k)) (hnm : ∀ a, a < N → ∀ b, b < N → a ≠ b → (T a).2.1 ≠ (T b).2.1) (hc : cl[ci]? = some (C, T, N)) (k : Nat) (hk : k < N) (hlink : Cond.fieldLink own index (T k).1 (T k).2.1 (T k).2.2.1 ∈ Ts) (hfin : (T k).2.2.2 = false) {v : Value} (hn : narrow (ty0 k) v = v) (hfit : fits (ty0 k) v = true) (hl : k < fs.length) (hfs : fs.set k v = fs') (hdg : decode cc pc = .ok (.putfield index, 3)) (hpc : pc + 3 = pc')
    (kk : ∀ M' : mp, M' a = some (.inr (ci, fs')) → (∀ q, q ≠ a → M' q = M q) → V p l e R s m args below meth c H0 D cl Q nL M' cells slots pc' lv st) : V p l e R s m args below meth c H0 D cl Q nL M cells slots pc lv (v :: .ref a :: st) := by
  subst hpc
  subst hfs
  intro H locs ls hH hL hlv
  have hap := va_apart (own := own) X.2.2.2.2 hin ty0 hty hnm hK.1 hc
  obtain ⟨hB, r, h1, cell, q1, q2, q3, q4⟩ := hH.2.2 a _ ha
  have hr : r = (C, T, N) := Option.some.inj (h1.symm.trans hc)
  subst hr
  obtain ⟨hS, hfc, kC, hkC, hkind⟩ := hK.1.1 ci _ hc
  obtain ⟨cf, kf, fi, f, hi, hsl⟩ := hS k hk
  have hlay := X.2.2.2.2 _ (hin _ (u_in_lay hk))
  unfold u_lay at hlay
  rw [if_neg (by rw [hfin]; decide)] at hlay
  have hst := (u_facts hfc hkC (u_lays X.2.2.2.2 hin hk) hi).1
  have h6 := u_store hfc hkC hkind hlay hi (hty k hk) hn hfit
  refine W.putK X.1 X.2.1 (f := f) ⟨X.2.2.2.1, X.2.2.2.2 _ hlink, ⟨_, _, _, hi⟩, hst⟩ (by rw [q2]; exact h6) q1 q3 (by rw [hsl]; exact k2_hasslot (q4 k hk)) rfl rfl hdg fun H' e1 e2 e3 => ?_
  rw [hsl] at e1 ⊢
  refine kk _ (va_up_self _ _ _) (fun q h => va_up_ne _ _ h) H' _ ls (hH.set ha e2 e3 ⟨_, hc, t_OB.to (V := updV (vp_V fs) k v) ⟨_, e1, q2, q3, t_set q4 hap hk v⟩ (fun j _ => vp_updV_set hl v j)⟩) (fun q hq => ?_) hlv
  rcases List.mem_append.mp hq with h | h
  · exact hL q h
  · rw [List.mem_singleton.mp h]; exact hB
/-- putfield of a final field, in its class's constructor -/
theorem V.putF (X : CallFix p m c cc nL s args Ts own) (hK : KK D cl tys NW s) (hin2 : meth.name = "<init>") {C : String} {T : u_T} {N ci index a : Nat} {fs fs' : List Value} (ha : M a = some (.inr (ci, fs))) (hin : ∀ w ∈ u_ws C T N, w ∈ Ts) (ty0 : Nat → FieldType) (hty : ∀ k, k < N → parseFieldDescriptor (T k).2.2.1 = some (ty0 k)) (hnm : ∀ a, a < N → ∀ b, b < N → a ≠ b → (T a).2.1 ≠ (T b).2.1) (hc : cl[ci]? = some (C, T, N)) (k : Nat) (hk : k < N) (hlink : Cond.fieldLink own index (T k).1 (T k).2.1 (T k).2.2.1 ∈ Ts) (hfin : (T k).2.2.2 = true) (hdecl : (T k).1 = own) {v : Value} (hn : narrow (ty0 k) v = v) (hfit : fits (ty0 k) v = true) (hl : k < fs.length) (hfs : fs.set k v = fs') (hdg : decode cc pc = .ok (.putfield index, 3)) (hpc : pc + 3 = pc')
    (kk : ∀ M' : mp, M' a = some (.inr (ci, fs')) → (∀ q, q ≠ a → M' q = M q) → V p l e R s m args below meth c H0 D cl Q nL M' cells slots pc' lv st) : V p l e R s m args below meth c H0 D cl Q nL M cells slots pc lv (v :: .ref a :: st) := by
  subst hpc
  subst hfs
  intro H locs ls hH hL hlv
  have hap := va_apart (own := own) X.2.2.2.2 hin ty0 hty hnm hK.1 hc
  obtain ⟨hB, r, h1, cell, q1, q2, q3, q4⟩ := hH.2.2 a _ ha
  have hr : r = (C, T, N) := Option.some.inj (h1.symm.trans hc)
  subst hr
  obtain ⟨hS, hfc, kC, hkC, hkind⟩ := hK.1.1 ci _ hc
  obtain ⟨cf, kf, fi, f, hi, hsl⟩ := hS k hk
  have hlay := X.2.2.2.2 _ (hin _ (u_in_lay hk))
  unfold u_lay at hlay
  rw [if_pos hfin] at hlay
  have hst := (u_facts hfc hkC (u_lays X.2.2.2.2 hin hk) hi).1
  have hcf : m.cls = cf := by
    obtain ⟨_, _, c', _, _, _, -, -, hf', -, -, -, hown2, -⟩ := Cond.laysFinal_spec hlay
    have e1 : c' = cf := by have := hi.symm.trans hf'; simp at this; exact this.1.symm
    rw [hdecl] at hown2
    rw [← e1]; exact Option.some.inj (X.2.2.2.1.symm.trans hown2)
  have h6 := u_fits hfc hkC hkind (Or.inr hlay) hi (hty k hk) hn hfit
  refine W.putFinK X.1 X.2.1 X.2.2.2.1 (X.2.2.2.2 _ hlink) hi hst hcf hin2 (by rw [q2]; exact h6) q1 q3 (by rw [hsl]; exact k2_hasslot (q4 k hk)) rfl rfl hdg fun H' e1 e2 e3 => ?_
  rw [hsl] at e1 ⊢
  refine kk _ (va_up_self _ _ _) (fun q h => va_up_ne _ _ h) H' _ ls (hH.set ha e2 e3 ⟨_, hc, t_OB.to (V := updV (vp_V fs) k v) ⟨_, e1, q2, q3, t_set q4 hap hk v⟩ (fun j _ => vp_updV_set hl v j)⟩) (fun q hq => ?_) hlv
  rcases List.mem_append.mp hq with h | h
  · exact hL q h
  · rw [List.mem_singleton.mp h]; exact hB
/-- array reads -/
theorem V.iald (X : CallFix p m c cc nL s args Ts own) (hK : KK D cl tys NW s) (t0 : Nat) {cA : ClassId} {a n : Nat} {f : Nat → Int32} (ha : M a = some (.inl (cA, n, .inl f))) (ht : tys[t0]? = some (cA, .int)) {i : Int32} (hin : vp_in i n) (hdg : decode cc pc = .ok (.iaload, 1)) (hpc : pc + 1 = pc')
    (kk : V p l e R s m args below meth c H0 D cl Q nL M cells slots pc' lv (.int (f i.toNatClampNeg) :: st)) : V p l e R s m args below meth c H0 D cl Q nL M cells slots pc lv (.int i :: .ref a :: st) := by
  subst hpc
  intro H locs ls hH hL hl
  exact va_iald X.1 X.2.1 hK.1 (hH.one ha) 0 t0 rfl ht hin hdg (kk H locs ls hH hL hl)
theorem V.lald (X : CallFix p m c cc nL s args Ts own) (hK : KK D cl tys NW s) (t0 : Nat) {cA : ClassId} {a n : Nat} {f : Nat → Int64} (ha : M a = some (.inl (cA, n, .inr (.inl f)))) (ht : tys[t0]? = some (cA, .long)) {i : Int32} (hin : vp_in i n) (hdg : decode cc pc = .ok (.laload, 1)) (hpc : pc + 1 = pc')
    (kk : V p l e R s m args below meth c H0 D cl Q nL M cells slots pc' lv (.long (f i.toNatClampNeg) :: st)) : V p l e R s m args below meth c H0 D cl Q nL M cells slots pc lv (.int i :: .ref a :: st) := by
  subst hpc
  intro H locs ls hH hL hl
  exact va_lald X.1 X.2.1 hK.1 (hH.one ha) 0 t0 rfl ht hin hdg (kk H locs ls hH hL hl)
theorem V.aald (X : CallFix p m c cc nL s args Ts own) (hK : KK D cl tys NW s) (t0 : Nat) {cA : ClassId} {C : String} {a n : Nat} {f : Nat → Option Nat} (ha : M a = some (.inl (cA, n, .inr (.inr (.inr (.inr f)))))) (ht : tys[t0]? = some (cA, .object C)) {i : Int32} (hin : vp_in i n) (hdg : decode cc pc = .ok (.aaload, 1)) (hpc : pc + 1 = pc')
    (kk : V p l e R s m args below meth c H0 D cl Q nL M cells slots pc' lv (va_rf (f i.toNatClampNeg) :: st)) : V p l e R s m args below meth c H0 D cl Q nL M cells slots pc lv (.int i :: .ref a :: st) := by
  subst hpc
  intro H locs ls hH hL hl
  exact va_aldq X.1 X.2.1 hK.1 (hH.one ha) 0 t0 rfl ht hin hdg (kk H locs ls hH hL hl)
theorem V.alen (X : CallFix p m c cc nL s args Ts own) (hK : KK D cl tys NW s) (t0 : Nat) {cA : ClassId} {a : Nat} {x : vp_A} (ha : M a = some (.inl (cA, x))) {ty : FieldType} (ht : tys[t0]? = some (cA, ty)) {v : Int32} (hv : Int32.ofNat x.1 = v) (hdg : decode cc pc = .ok (.arraylength, 1)) (hpc : pc + 1 = pc')
    (kk : V p l e R s m args below meth c H0 D cl Q nL M cells slots pc' lv (.int v :: st)) : V p l e R s m args below meth c H0 D cl Q nL M cells slots pc lv (.ref a :: st) := by
  subst hpc
  intro H locs ls hH hL hl
  exact va_alen X.1 X.2.1 hK.1 (hH.one ha) 0 t0 rfl ht hv hdg (kk H locs ls hH hL hl)
theorem hL_app {H0 : Heap} {locs : List Loc} {a k : Nat} (hL : ∀ q ∈ locs, H0.size ≤ q.base) (hB : H0.size ≤ a) : ∀ q ∈ locs ++ [(⟨a, k⟩ : Loc)], H0.size ≤ q.base := fun q hq => by
  rcases List.mem_append.mp hq with h | h
  · exact hL q h
  · rw [List.mem_singleton.mp h]; exact hB
/-- array stores -/
theorem V.iast (X : CallFix p m c cc nL s args Ts own) (hK : KK D cl tys NW s) (t0 : Nat) {cA : ClassId} {a n : Nat} {f : Nat → Int32} (ha : M a = some (.inl (cA, n, .inl f))) (ht : tys[t0]? = some (cA, .int)) {i x : Int32} (hin : vp_in i n) (hdg : decode cc pc = .ok (.iastore, 1)) (hpc : pc + 1 = pc')
    (kk : ∀ M' : mp, M' a = some (.inl (cA, n, .inl (upd f i.toNatClampNeg x))) → (∀ q, q ≠ a → M' q = M q) → V p l e R s m args below meth c H0 D cl Q nL M' cells slots pc' lv st) : V p l e R s m args below meth c H0 D cl Q nL M cells slots pc lv (.int x :: .int i :: .ref a :: st) := by
  subst hpc
  intro H locs ls hH hL hl
  obtain ⟨hB, hat⟩ := hH.2.2 a _ ha
  refine W.iast X.1 X.2.1 hat ((hK.1.2 t0 _ ht).1 n (fun j => .int (f j))) (fun q => by cases q) (by show ¬ (i < 0 ∨ (arrV _ _ _).slots.size ≤ _); rw [arrV_size]; exact hin) rfl rfl hdg fun H1 e1 z oq => ?_
  refine kk _ (va_up_self _ _ _) (fun q h => va_up_ne _ _ h) H1 _ ls (hH.set ha z oq ?_) (hL_app hL hB) hl
  show H1[a]? = some (vp_cell _ _)
  rw [e1]
  rw [vp_cell_i, vp_cell_i, arrV_store]
  congr 2
  funext q
  by_cases hq : q = i.toNatClampNeg
  · subst hq
    simp [updV, upd]
  · simp [updV, upd, hq]
theorem V.last (X : CallFix p m c cc nL s args Ts own) (hK : KK D cl tys NW s) (t0 : Nat) {cA : ClassId} {a n : Nat} {f : Nat → Int64} (ha : M a = some (.inl (cA, n, .inr (.inl f)))) (ht : tys[t0]? = some (cA, .long)) {i : Int32} {x : Int64} (hin : vp_in i n) (hdg : decode cc pc = .ok (.lastore, 1)) (hpc : pc + 1 = pc')
    (kk : ∀ M' : mp, M' a = some (.inl (cA, n, .inr (.inl (vp_updL f i.toNatClampNeg x)))) → (∀ q, q ≠ a → M' q = M q) → V p l e R s m args below meth c H0 D cl Q nL M' cells slots pc' lv st) : V p l e R s m args below meth c H0 D cl Q nL M cells slots pc lv (.long x :: .int i :: .ref a :: st) := by
  subst hpc
  intro H locs ls hH hL hl
  obtain ⟨hB, hat⟩ := hH.2.2 a _ ha
  refine W.last X.1 X.2.1 hat ((hK.1.2 t0 _ ht).1 n (fun j => .long (f j))) (fun q => by cases q) (by show ¬ (i < 0 ∨ (arrV _ _ _).slots.size ≤ _); rw [arrV_size]; exact hin) rfl rfl hdg fun H1 e1 z oq => ?_
  refine kk _ (va_up_self _ _ _) (fun q h => va_up_ne _ _ h) H1 _ ls (hH.set ha z oq ?_) (hL_app hL hB) hl
  show H1[a]? = some (vp_cell _ _)
  rw [e1]
  rw [vp_cell_l, vp_cell_l, arrV_store]
  congr 2
  funext q
  by_cases hq : q = i.toNatClampNeg
  · subst hq
    simp [updV, vp_updL]
  · simp [updV, vp_updL, hq]
theorem V.aast (X : CallFix p m c cc nL s args Ts own) (hK : KK D cl tys NW s) (t0 ci : Nat) {cA : ClassId} {r : vw_C} {a n v : Nat} {vs : List Value} {f : Nat → Option Nat} (ha : M a = some (.inl (cA, n, .inr (.inr (.inr (.inr f)))))) (ht : tys[t0]? = some (cA, .object r.1)) (hv : M v = some (.inr (ci, vs))) (hc : cl[ci]? = some r) {i : Int32} (hin : vp_in i n) (hdg : decode cc pc = .ok (.aastore, 1)) (hpc : pc + 1 = pc')
    (kk : ∀ M' : mp, M' a = some (.inl (cA, n, .inr (.inr (.inr (.inr (va_up f i.toNatClampNeg (some v))))))) → (∀ q, q ≠ a → M' q = M q) → V p l e R s m args below meth c H0 D cl Q nL M' cells slots pc' lv st) : V p l e R s m args below meth c H0 D cl Q nL M cells slots pc lv (.ref v :: .int i :: .ref a :: st) := by
  subst hpc
  intro H locs ls hH hL hl
  obtain ⟨hB, hat⟩ := hH.2.2 a _ ha
  have hlt : i.toNatClampNeg < n := Nat.not_le.mp fun q => hin (Or.inr q)
  have h0 : ¬ i < 0 := fun q => hin (Or.inl q)
  obtain ⟨-, r', hr', cellV, g1, g2, g3, -⟩ := hH.2.2 v _ hv
  have hcls := (hK.1.1 ci r hc).2
  obtain ⟨kA, comp, k1, k2, k3, -⟩ := (hK.1.2 t0 _ ht).2
  have hcomp : comp = D.1 ci := Option.some.inj (k3.symm.trans hcls.1)
  subst hcomp
  obtain ⟨kC, hkC, -⟩ := hcls.2
  refine W.aast X.1 X.2.1 hat (fun q h => by cases h) (fun h => by cases h) k1 k2 rfl hkC ⟨h0, by show _ < (arrV _ _ _).slots.size; rw [arrV_size]; exact hlt⟩ g1 (fun q h => by rw [g3] at h; cases h) (by rw [g2]; exact hkC) (by rw [g2]; exact va_assign hcls) rfl rfl hdg fun H1 e1 z oq => ?_
  refine kk _ (va_up_self _ _ _) (fun q h => va_up_ne _ _ h) H1 _ ls (hH.set ha z oq ?_) (hL_app hL hB) hl
  show H1[a]? = some (vp_cell _ _)
  rw [e1]
  rw [vp_cell_q, vp_cell_q, arrV_store]
  congr 2
  funext q
  by_cases hq : q = i.toNatClampNeg
  · subst hq
    simp [updV, va_up, va_rf]
  · simp [updV, va_up, hq]
/-- new -/
theorem V.new (X : CallFix p m c cc nL s args Ts own) (hK : KK D cl tys NW s) {C : String} {T : u_T} {N ci index : Nat} (hin : ∀ w ∈ u_ws C T N, w ∈ Ts) (ty0 : Nat → FieldType) (hty : ∀ k, k < N → parseFieldDescriptor (T k).2.2.1 = some (ty0 k)) (hcl : Cond.classLink own index C ∈ Ts) (hinst : Cond.instantiable C N ∈ Ts) (hini : Cond.initialized C ∈ Ts) (hc : cl[ci]? = some (C, T, N)) {fs : List Value} (hfs : ∀ j, j < N → defaultValue (ty0 j) = vp_V fs j) (hcells : cells + 1 ≤ R.cells) (hslots : slots + N ≤ R.slots) (hdg : decode cc pc = .ok (.new index, 3)) (hpc : pc + 3 = pc')
    (kk : ∀ (q : Nat) (M' : mp), M q = none → M' q = some (.inr (ci, fs)) → (∀ r, r ≠ q → M' r = M r) → V p l e R s m args below meth c H0 D cl Q nL M' (cells + 1) (slots + N) pc' lv (.ref q :: st)) : V p l e R s m args below meth c H0 D cl Q nL M cells slots pc lv st := by
  subst hpc
  intro H locs ls hH hL hl
  have hKn := hK.1.1 ci _ hc
  refine W.newcK X.1 X.2.1 X.2.2.2.1 (X.2.2.2.2 _ hcl) (X.2.2.2.2 _ hinst) (X.2.2.2.2 _ hini) rfl hdg hcells hslots hKn.2.1 rfl fun H1 kC hkC e1 z1 o1 => ?_
  exact kk H.size _ hH.fresh (va_up_self _ _ _) (fun q h => va_up_ne _ _ h) H1 locs ls (hH.push z1 o1 ⟨_, hc, (u_born ty0 X.2.2.2.2 hin hKn hkC e1 hty).to hfs⟩) hL hl
/-- new int[], new long[] -/
theorem V.newa (X : CallFix p m c cc nL s args Ts own) (hK : KK D cl tys NW s) (t0 : Nat) {atype : ArrayType} {ty : FieldType} (harr : Cond.arrayClass (newarray.typeOf atype) ∈ Ts) (hty : newarray.typeOf atype = ty) {cA : ClassId} (ht : tys[t0]? = some (cA, ty)) (hro : va_RA s cA ty = (s.vm.findClass ("[" ++ ty.toString) = some cA)) {n : Int32} {N' : Nat} {a0 : vp_A} (ha : ∀ cB : ClassId, vp_cell cB a0 = arrV cB N' (fun _ => defaultValue ty)) (hn : ¬ n < 0) (hN : n.toNatClampNeg = N') (hbytes : N' * componentBytes ty ≤ 536870912) (hcells : cells + 1 ≤ R.cells) (hslots : slots + N' ≤ R.slots) (hdg : decode cc pc = .ok (.newarray atype, 2)) (hpc : pc + 2 = pc')
    (kk : ∀ (q : Nat) (M' : mp), M q = none → M' q = some (.inl (cA, a0)) → (∀ r, r ≠ q → M' r = M r) → V p l e R s m args below meth c H0 D cl Q nL M' (cells + 1) (slots + N') pc' lv (.ref q :: st)) : V p l e R s m args below meth c H0 D cl Q nL M cells slots pc lv (.int n :: st) := by
  subst hpc
  subst hty
  intro H locs ls hH hL hl
  refine va_newaK X.1 X.2.1 (X.2.2.2.2 _ harr) rfl hdg rfl hn hN hbytes hcells hslots rfl fun H1 cB e1 z1 o1 hAr hNm => ?_
  have h2 := (hK.1.2 t0 _ ht).2
  rw [hro] at h2
  cases h2.symm.trans hNm
  refine kk H.size _ hH.fresh (va_up_self _ _ _) (fun q h => va_up_ne _ _ h) H1 locs ls (hH.push z1 o1 ?_) hL hl
  show H1[H.size]? = some (vp_cell _ _)
  rw [ha]
  exact e1
/-- new C[] -/
theorem V.newq (X : CallFix p m c cc nL s args Ts own) (hK : KK D cl tys NW s) (t0 : Nat) {C : String} {index : Nat} (hclink : Cond.classLink own index C ∈ Ts) (hover : Cond.arrayOver (.object C) ∈ NW) {cA : ClassId} (ht : tys[t0]? = some (cA, .object C)) {n : Int32} {N' : Nat} (hn : ¬ n < 0) (hN : n.toNatClampNeg = N') (hbytes : N' * 4 ≤ 536870912) (hcells : cells + 1 ≤ R.cells) (hslots : slots + N' ≤ R.slots) (hdg : decode cc pc = .ok (.anewarray index, 3)) (hpc : pc + 3 = pc')
    (kk : ∀ (q : Nat) (M' : mp), M q = none → M' q = some (.inl (cA, N', .inr (.inr (.inr (.inr (fun _ => none)))))) → (∀ r, r ≠ q → M' r = M r) → V p l e R s m args below meth c H0 D cl Q nL M' (cells + 1) (slots + N') pc' lv (.ref q :: st)) : V p l e R s m args below meth c H0 D cl Q nL M cells slots pc lv (.int n :: st) := by
  subst hpc
  subst hN
  intro H locs ls hH hL hl
  refine W.anew X.1 X.2.1 X.2.2.2.1 (X.2.2.2.2 _ hclink) (va_AO.use (hK.2.2 _ hover)) rfl hdg rfl hn hbytes hcells hslots fun cB kA comp f1 f2 f3 f4 => ?_
  obtain ⟨kA', comp', -, -, -, g4⟩ := (hK.1.2 t0 _ ht).2
  cases g4.symm.trans f1
  refine kk H.size _ hH.fresh (va_up_self _ _ _) (fun q h => va_up_ne _ _ h) _ locs ls (hH.push (by rw [Array.size_push]) (fun q hq => by rw [Array.getElem?_push, if_neg (Nat.ne_of_lt hq)]) ?_) hL hl
  show (H.push _)[H.size]? = some (vp_cell _ _)
  rw [vp_cell_q, Array.getElem?_push_size, ← arrV_new]
  rfl
/-- returns -/
theorem V.iret (X : CallFix p m c cc nL s args Ts own) {post : Option Value → mp → Prop} {v : Int32} (hr : meth.sig.returnType = some .int) (hlocks : meth.locks = false) (hp : post (some (.int v)) M) (hdg : decode cc pc = .ok (.ireturn, 1)) : V p l e R s m args below meth c H0 D cl (MQ below (Qm H0 D cl post) args s cells slots (fun q => H0.size ≤ q)) nL M cells slots pc lv [.int v] :=
  fun H locs ls hH hL hl => W.iret X.1 X.2.1 hr (fun t ht hW => ⟨_, M, rfl, hp, by rw [ht]; exact hH⟩) hL hdg hlocks
theorem V.zret (X : CallFix p m c cc nL s args Ts own) {post : Option Value → mp → Prop} {v : Int32} (hr : meth.sig.returnType = some .boolean) (hlocks : meth.locks = false) (hn : narrow .boolean (.int v) = .int v) (hp : post (some (.int v)) M) (hdg : decode cc pc = .ok (.ireturn, 1)) : V p l e R s m args below meth c H0 D cl (MQ below (Qm H0 D cl post) args s cells slots (fun q => H0.size ≤ q)) nL M cells slots pc lv [.int v] :=
  fun H locs ls hH hL hl => W.zret X.1 X.2.1 hr hn (fun t ht hW => ⟨_, M, rfl, hp, by rw [ht]; exact hH⟩) hL hdg hlocks
theorem V.lret (X : CallFix p m c cc nL s args Ts own) {post : Option Value → mp → Prop} {v : Int64} (hr : meth.sig.returnType = some .long) (hlocks : meth.locks = false) (hp : post (some (.long v)) M) (hdg : decode cc pc = .ok (.lreturn, 1)) : V p l e R s m args below meth c H0 D cl (MQ below (Qm H0 D cl post) args s cells slots (fun q => H0.size ≤ q)) nL M cells slots pc lv [.long v] :=
  fun H locs ls hH hL hl => W.lret X.1 X.2.1 hr (fun t ht hW => ⟨_, M, rfl, hp, by rw [ht]; exact hH⟩) hL hdg hlocks
theorem V.vret (X : CallFix p m c cc nL s args Ts own) {post : Option Value → mp → Prop} (hr : meth.sig.returnType = none) (hlocks : meth.locks = false) (hp : post none M) (hdg : decode cc pc = .ok (.return_, 1)) : V p l e R s m args below meth c H0 D cl (MQ below (Qm H0 D cl post) args s cells slots (fun q => H0.size ≤ q)) nL M cells slots pc lv [] :=
  fun H locs ls hH hL hl => W.vret X.1 X.2.1 hr (fun t ht hW => ⟨_, M, rfl, hp, by rw [ht]; exact hH⟩) hL hdg hlocks
theorem V.aret (X : CallFix p m c cc nL s args Ts own) {post : Option Value → mp → Prop} {v : Value} {C : String} (hr : meth.sig.returnType = some (.object C)) (hlocks : meth.locks = false) (hv : v = .null ∨ ∃ a, v = .ref a) (hp : post (some v) M) (hdg : decode cc pc = .ok (.areturn, 1)) : V p l e R s m args below meth c H0 D cl (MQ below (Qm H0 D cl post) args s cells slots (fun q => H0.size ≤ q)) nL M cells slots pc lv [v] :=
  fun H locs ls hH hL hl => W.aret X.1 X.2.1 hr (Or.inl ⟨C, rfl⟩) hv (fun t ht hW => ⟨_, M, rfl, hp, by rw [ht]; exact hH⟩) hL hdg hlocks
/-- calls -/
theorem V.run {rest st0 : List Value} {mc ms : Nat} {a : Array Value} {post : Option Value → mp → Prop} (hr : ∀ (H : Heap) (locs : List Loc) (ls : Array Slot), hw H0 D cl M H → lv_has ls nL lv → va_Run p l e R s m args below meth c H locs cells slots mc ms (F0 m pc ls st0) rest (Qm H0 D cl post a) (fun q => H0.size ≤ q)) (hpc : pc + 3 = pc')
    (kk : ∀ (v : Option Value) (M' : mp), post v M' → V p l e R s m args below meth c H0 D cl Q nL M' (cells + mc) (slots + ms) pc' lv (v.toList ++ rest)) : V p l e R s m args below meth c H0 D cl Q nL M cells slots pc lv st0 := by
  subst hpc
  intro H locs ls hH hL hl T hT X
  obtain ⟨v, st₀, t, T', L, h0, X', hL', e1, e2, ⟨v', M', hv, hp, hH'⟩, st1⟩ := hr H locs ls hH hl T hT X
  cases hv
  obtain ⟨t2, a1, b1⟩ := kk v M' hp T'.heap (locs ++ L) ls (by rw [e1]; exact hH') (fun q hq => by
    rcases List.mem_append.mp hq with h | h
    · exact hL q h
    · exact hL' q h) hl T' rfl X'
  exact ⟨t2, st1 t2 a1, b1⟩
theorem V.callV (X : CallFix p m c cc nL s args Ts own) (hK : KK D cl tys NW s) {y : MethodName} {ws : List Cond} {rm : Room} {r : Option Value} {P : mp → Prop} {bytes : ByteArray} {maxL n index ci b N : Nat} {ret : Option FieldType} {C : String} {T : u_T} {fs As rest st0 st1 : List Value} (hM : MC l H0 D cl tys NW y ws rm (.ref b :: As) M (fun v M' => v = r ∧ P M')) (hb : M b = some (.inr (ci, fs))) (hc : cl[ci]? = some (C, T, N)) (cw : CallW R s args own C index y bytes maxL ret ws rm rm.cells rm.slots n) (hn : As.length = n) (hst : st0 = As.reverse ++ .ref b :: rest) (hroom : (rest.map fun v => v.category).sum ≤ 8) (hdg : decode cc pc = .ok (.invokevirtual index, 3)) (hf : cells + rm.cells ≤ R.cells ∧ slots + rm.slots ≤ R.slots) (hpc : pc + 3 = pc') (hst1 : r.toList ++ rest = st1)
    (kk : ∀ M' : mp, P M' → V p l e R s m args below meth c H0 D cl Q nL M' (cells + rm.cells) (slots + rm.slots) pc' lv st1) : V p l e R s m args below meth c H0 D cl Q nL M cells slots pc lv st0 :=
  V.run (fun H locs ls hH hl => va_runV X hM cw ⟨MC.blind, va_recv hK.1 (hH.one hb) hc (q0 := 0) rfl, fun U hU hW => ⟨rfl, by rw [hU]; exact hH, hK.moved hW⟩⟩ rfl hn hl.1 hst (lv_room hroom) hdg hf) hpc (fun v M' h => by rw [h.1, hst1]; exact kk M' h.2)
theorem V.callV0 (X : CallFix p m c cc nL s args Ts own) (hK : KK D cl tys NW s) {y : MethodName} {ws : List Cond} {rm : Room} {r : Option Value} {bytes : ByteArray} {maxL n index ci b N : Nat} {ret : Option FieldType} {C : String} {T : u_T} {fs As rest st0 st1 : List Value} (hM : MC l H0 D cl tys NW y ws rm (.ref b :: As) M (fun v M' => v = r ∧ M' = M)) (hb : M b = some (.inr (ci, fs))) (hc : cl[ci]? = some (C, T, N)) (cw : CallW R s args own C index y bytes maxL ret ws rm rm.cells rm.slots n) (hn : As.length = n) (hst : st0 = As.reverse ++ .ref b :: rest) (hroom : (rest.map fun v => v.category).sum ≤ 8) (hdg : decode cc pc = .ok (.invokevirtual index, 3)) (hf : cells + rm.cells ≤ R.cells ∧ slots + rm.slots ≤ R.slots) (hpc : pc + 3 = pc') (hst1 : r.toList ++ rest = st1)
    (kk : V p l e R s m args below meth c H0 D cl Q nL M (cells + rm.cells) (slots + rm.slots) pc' lv st1) : V p l e R s m args below meth c H0 D cl Q nL M cells slots pc lv st0 :=
  V.run (fun H locs ls hH hl => va_runV X hM cw ⟨MC.blind, va_recv hK.1 (hH.one hb) hc (q0 := 0) rfl, fun U hU hW => ⟨rfl, by rw [hU]; exact hH, hK.moved hW⟩⟩ rfl hn hl.1 hst (lv_room hroom) hdg hf) hpc (fun v M' h => by rw [h.1, hst1]; rw [h.2]; exact kk)
theorem V.callVN (X : CallFix p m c cc nL s args Ts own) (hK : KK D cl tys NW s) {y : MethodName} {ws : List Cond} {rm : Room} {r : Option Value} {P : mp → Prop} {bytes : ByteArray} {maxL n index ci b N : Nat} {ret : Option FieldType} {C host : String} {T : u_T} {fs As rest st0 st1 : List Value} (hM : MC l H0 D cl tys NW y ws rm (.ref b :: As) M (fun v M' => v = r ∧ P M')) (hb : M b = some (.inr (ci, fs))) (hc : cl[ci]? = some (C, T, N)) (cw : va_CN R s args own index y host bytes maxL ret ws rm rm.cells rm.slots n ∧ (Cond.instanceMethod y).before args s = true ∧ (Cond.selects C y y).before args s = true) (hn : As.length = n) (hst : st0 = As.reverse ++ .ref b :: rest) (hroom : (rest.map fun v => v.category).sum ≤ 8) (hdg : decode cc pc = .ok (.invokevirtual index, 3)) (hf : cells + rm.cells ≤ R.cells ∧ slots + rm.slots ≤ R.slots) (hpc : pc + 3 = pc') (hst1 : r.toList ++ rest = st1)
    (kk : ∀ M' : mp, P M' → V p l e R s m args below meth c H0 D cl Q nL M' (cells + rm.cells) (slots + rm.slots) pc' lv st1) : V p l e R s m args below meth c H0 D cl Q nL M cells slots pc lv st0 :=
  V.run (fun H locs ls hH hl => va_runVN X hM cw ⟨MC.blind, va_recv hK.1 (hH.one hb) hc (q0 := 0) rfl, fun U hU hW => ⟨rfl, by rw [hU]; exact hH, hK.moved hW⟩⟩ rfl hn hl.1 hst (lv_room hroom) hdg hf) hpc (fun v M' h => by rw [h.1, hst1]; exact kk M' h.2)
theorem V.callVN0 (X : CallFix p m c cc nL s args Ts own) (hK : KK D cl tys NW s) {y : MethodName} {ws : List Cond} {rm : Room} {r : Option Value} {bytes : ByteArray} {maxL n index ci b N : Nat} {ret : Option FieldType} {C host : String} {T : u_T} {fs As rest st0 st1 : List Value} (hM : MC l H0 D cl tys NW y ws rm (.ref b :: As) M (fun v M' => v = r ∧ M' = M)) (hb : M b = some (.inr (ci, fs))) (hc : cl[ci]? = some (C, T, N)) (cw : va_CN R s args own index y host bytes maxL ret ws rm rm.cells rm.slots n ∧ (Cond.instanceMethod y).before args s = true ∧ (Cond.selects C y y).before args s = true) (hn : As.length = n) (hst : st0 = As.reverse ++ .ref b :: rest) (hroom : (rest.map fun v => v.category).sum ≤ 8) (hdg : decode cc pc = .ok (.invokevirtual index, 3)) (hf : cells + rm.cells ≤ R.cells ∧ slots + rm.slots ≤ R.slots) (hpc : pc + 3 = pc') (hst1 : r.toList ++ rest = st1)
    (kk : V p l e R s m args below meth c H0 D cl Q nL M (cells + rm.cells) (slots + rm.slots) pc' lv st1) : V p l e R s m args below meth c H0 D cl Q nL M cells slots pc lv st0 :=
  V.run (fun H locs ls hH hl => va_runVN X hM cw ⟨MC.blind, va_recv hK.1 (hH.one hb) hc (q0 := 0) rfl, fun U hU hW => ⟨rfl, by rw [hU]; exact hH, hK.moved hW⟩⟩ rfl hn hl.1 hst (lv_room hroom) hdg hf) hpc (fun v M' h => by rw [h.1, hst1]; rw [h.2]; exact kk)
theorem V.callS (X : CallFix p m c cc nL s args Ts own) (hK : KK D cl tys NW s) {y : MethodName} {ws : List Cond} {rm : Room} {r : Option Value} {P : mp → Prop} {bytes : ByteArray} {maxL n index : Nat} {ret : Option FieldType} {As rest st0 st1 : List Value} (hM : MC l H0 D cl tys NW y ws rm As M (fun v M' => v = r ∧ P M')) (cw : CallB R s args own index y bytes maxL ret ws rm rm.cells rm.slots n ∧ (Cond.static y).before args s = true) (hn : As.length = n) (hst : st0 = As.reverse ++ rest) (hroom : (rest.map fun v => v.category).sum ≤ 8) (hdg : decode cc pc = .ok (.invokestatic index, 3)) (hf : cells + rm.cells ≤ R.cells ∧ slots + rm.slots ≤ R.slots) (hpc : pc + 3 = pc') (hst1 : r.toList ++ rest = st1)
    (kk : ∀ M' : mp, P M' → V p l e R s m args below meth c H0 D cl Q nL M' (cells + rm.cells) (slots + rm.slots) pc' lv st1) : V p l e R s m args below meth c H0 D cl Q nL M cells slots pc lv st0 :=
  V.run (fun H locs ls hH hl => va_runS X hM cw ⟨MC.blind, fun U hU hW => ⟨rfl, by rw [hU]; exact hH, hK.moved hW⟩⟩ rfl hn hl.1 hst (lv_room hroom) hdg hf) hpc (fun v M' h => by rw [h.1, hst1]; exact kk M' h.2)
theorem V.callS0 (X : CallFix p m c cc nL s args Ts own) (hK : KK D cl tys NW s) {y : MethodName} {ws : List Cond} {rm : Room} {r : Option Value} {bytes : ByteArray} {maxL n index : Nat} {ret : Option FieldType} {As rest st0 st1 : List Value} (hM : MC l H0 D cl tys NW y ws rm As M (fun v M' => v = r ∧ M' = M)) (cw : CallB R s args own index y bytes maxL ret ws rm rm.cells rm.slots n ∧ (Cond.static y).before args s = true) (hn : As.length = n) (hst : st0 = As.reverse ++ rest) (hroom : (rest.map fun v => v.category).sum ≤ 8) (hdg : decode cc pc = .ok (.invokestatic index, 3)) (hf : cells + rm.cells ≤ R.cells ∧ slots + rm.slots ≤ R.slots) (hpc : pc + 3 = pc') (hst1 : r.toList ++ rest = st1)
    (kk : V p l e R s m args below meth c H0 D cl Q nL M (cells + rm.cells) (slots + rm.slots) pc' lv st1) : V p l e R s m args below meth c H0 D cl Q nL M cells slots pc lv st0 :=
  V.run (fun H locs ls hH hl => va_runS X hM cw ⟨MC.blind, fun U hU hW => ⟨rfl, by rw [hU]; exact hH, hK.moved hW⟩⟩ rfl hn hl.1 hst (lv_room hroom) hdg hf) hpc (fun v M' h => by rw [h.1, hst1]; rw [h.2]; exact kk)
theorem V.callI (X : CallFix p m c cc nL s args Ts own) (hK : KK D cl tys NW s) {y : MethodName} {ws : List Cond} {rm : Room} {r : Option Value} {P : mp → Prop} {bytes : ByteArray} {maxL n index b : Nat} {As rest st0 st1 : List Value} (hM : MC l H0 D cl tys NW y ws rm (.ref b :: As) M (fun v M' => v = r ∧ P M')) (cw : CallB R s args own index y bytes maxL none ws rm rm.cells rm.slots n ∧ y.name = "<init>" ∧ (Cond.instanceMethod y).before args s = true) (hn : As.length = n) (hst : st0 = As.reverse ++ .ref b :: rest) (hroom : (rest.map fun v => v.category).sum ≤ 8) (hdg : decode cc pc = .ok (.invokespecial index, 3)) (hf : cells + rm.cells ≤ R.cells ∧ slots + rm.slots ≤ R.slots) (hpc : pc + 3 = pc') (hst1 : r.toList ++ rest = st1)
    (kk : ∀ M' : mp, P M' → V p l e R s m args below meth c H0 D cl Q nL M' (cells + rm.cells) (slots + rm.slots) pc' lv st1) : V p l e R s m args below meth c H0 D cl Q nL M cells slots pc lv st0 :=
  V.run (fun H locs ls hH hl => va_runI X hM cw ⟨MC.blind, fun U hU hW => ⟨rfl, by rw [hU]; exact hH, hK.moved hW⟩⟩ rfl hn hl.1 hst (lv_room hroom) hdg hf) hpc (fun v M' h => by rw [h.1, hst1]; exact kk M' h.2)
theorem V.callI0 (X : CallFix p m c cc nL s args Ts own) (hK : KK D cl tys NW s) {y : MethodName} {ws : List Cond} {rm : Room} {r : Option Value} {bytes : ByteArray} {maxL n index b : Nat} {As rest st0 st1 : List Value} (hM : MC l H0 D cl tys NW y ws rm (.ref b :: As) M (fun v M' => v = r ∧ M' = M)) (cw : CallB R s args own index y bytes maxL none ws rm rm.cells rm.slots n ∧ y.name = "<init>" ∧ (Cond.instanceMethod y).before args s = true) (hn : As.length = n) (hst : st0 = As.reverse ++ .ref b :: rest) (hroom : (rest.map fun v => v.category).sum ≤ 8) (hdg : decode cc pc = .ok (.invokespecial index, 3)) (hf : cells + rm.cells ≤ R.cells ∧ slots + rm.slots ≤ R.slots) (hpc : pc + 3 = pc') (hst1 : r.toList ++ rest = st1)
    (kk : V p l e R s m args below meth c H0 D cl Q nL M (cells + rm.cells) (slots + rm.slots) pc' lv st1) : V p l e R s m args below meth c H0 D cl Q nL M cells slots pc lv st0 :=
  V.run (fun H locs ls hH hl => va_runI X hM cw ⟨MC.blind, fun U hU hW => ⟨rfl, by rw [hU]; exact hH, hK.moved hW⟩⟩ rfl hn hl.1 hst (lv_room hroom) hdg hf) hpc (fun v M' h => by rw [h.1, hst1]; rw [h.2]; exact kk)
/-- branches, loads, stores -/
theorem V.br {P : Prop} {tgt : Nat} {st' : List Value} (f : ∀ {H : Heap} {locs : List Loc} {ls : Array Slot}, (P → W p l e R s m args below meth c H locs cells slots Q (F0 m tgt ls st')) → (¬ P → W p l e R s m args below meth c H locs cells slots Q (F0 m pc' ls st')) → W p l e R s m args below meth c H locs cells slots Q (F0 m pc ls st)) (k1 : P → V p l e R s m args below meth c H0 D cl Q nL M cells slots tgt lv st') (k2 : ¬ P → V p l e R s m args below meth c H0 D cl Q nL M cells slots pc' lv st') : V p l e R s m args below meth c H0 D cl Q nL M cells slots pc lv st :=
  fun H locs ls hH hL hl => f (fun h => k1 h H locs ls hH hL hl) (fun h => k2 h H locs ls hH hL hl)
theorem V.wr {st' : List Value} (f : ∀ {H : Heap} {locs : List Loc} {ls : Array Slot}, lv_has ls nL lv → (∀ ls' : Array Slot, lv_has ls' nL lv' → W p l e R s m args below meth c H locs cells slots Q (F0 m pc' ls' st')) → W p l e R s m args below meth c H locs cells slots Q (F0 m pc ls st)) (k : V p l e R s m args below meth c H0 D cl Q nL M cells slots pc' lv' st') : V p l e R s m args below meth c H0 D cl Q nL M cells slots pc lv st :=
  fun H locs ls hH hL hl => f hl (fun ls' hl' => k H locs ls' hH hL hl')
theorem V.dec {P : Prop} (k1 : P → V p l e R s m args below meth c H0 D cl Q nL M cells slots pc lv st) (k2 : ¬ P → V p l e R s m args below meth c H0 D cl Q nL M cells slots pc lv st) : V p l e R s m args below meth c H0 D cl Q nL M cells slots pc lv st := (Classical.em P).elim k1 k2
theorem V.brT {P : Prop} {tgt : Nat} {st' : List Value} (f : ∀ {H : Heap} {locs : List Loc} {ls : Array Slot}, (P → W p l e R s m args below meth c H locs cells slots Q (F0 m tgt ls st')) → (¬ P → W p l e R s m args below meth c H locs cells slots Q (F0 m pc' ls st')) → W p l e R s m args below meth c H locs cells slots Q (F0 m pc ls st)) (h : P) (k : V p l e R s m args below meth c H0 D cl Q nL M cells slots tgt lv st') : V p l e R s m args below meth c H0 D cl Q nL M cells slots pc lv st := V.br f (fun _ => k) (fun n => absurd h n)
theorem V.brF {P : Prop} {tgt : Nat} {st' : List Value} (f : ∀ {H : Heap} {locs : List Loc} {ls : Array Slot}, (P → W p l e R s m args below meth c H locs cells slots Q (F0 m tgt ls st')) → (¬ P → W p l e R s m args below meth c H locs cells slots Q (F0 m pc' ls st')) → W p l e R s m args below meth c H locs cells slots Q (F0 m pc ls st)) (h : ¬ P) (k : V p l e R s m args below meth c H0 D cl Q nL M cells slots pc' lv st') : V p l e R s m args below meth c H0 D cl Q nL M cells slots pc lv st := V.br f (fun n => absurd n h) (fun _ => k)
/-- '!=' : the first goal is that of equality, which goes on behind -/
theorem V.bn {P : Prop} {tgt : Nat} {st' : List Value} (f : ∀ {H : Heap} {locs : List Loc} {ls : Array Slot}, (¬ P → W p l e R s m args below meth c H locs cells slots Q (F0 m tgt ls st')) → (P → W p l e R s m args below meth c H locs cells slots Q (F0 m pc' ls st')) → W p l e R s m args below meth c H locs cells slots Q (F0 m pc ls st)) (k1 : P → V p l e R s m args below meth c H0 D cl Q nL M cells slots pc' lv st') (k2 : ¬ P → V p l e R s m args below meth c H0 D cl Q nL M cells slots tgt lv st') : V p l e R s m args below meth c H0 D cl Q nL M cells slots pc lv st :=
  fun H locs ls hH hL hl => f (fun h => k2 h H locs ls hH hL hl) (fun h => k1 h H locs ls hH hL hl)
theorem V.bnT {P : Prop} {tgt : Nat} {st' : List Value} (f : ∀ {H : Heap} {locs : List Loc} {ls : Array Slot}, (¬ P → W p l e R s m args below meth c H locs cells slots Q (F0 m tgt ls st')) → (P → W p l e R s m args below meth c H locs cells slots Q (F0 m pc' ls st')) → W p l e R s m args below meth c H locs cells slots Q (F0 m pc ls st)) (h : P) (k : V p l e R s m args below meth c H0 D cl Q nL M cells slots pc' lv st') : V p l e R s m args below meth c H0 D cl Q nL M cells slots pc lv st := V.bn f (fun _ => k) (fun n => absurd h n)
theorem V.bnF {P : Prop} {tgt : Nat} {st' : List Value} (f : ∀ {H : Heap} {locs : List Loc} {ls : Array Slot}, (¬ P → W p l e R s m args below meth c H locs cells slots Q (F0 m tgt ls st')) → (P → W p l e R s m args below meth c H locs cells slots Q (F0 m pc' ls st')) → W p l e R s m args below meth c H locs cells slots Q (F0 m pc ls st)) (h : ¬ P) (k : V p l e R s m args below meth c H0 D cl Q nL M cells slots tgt lv st') : V p l e R s m args below meth c H0 D cl Q nL M cells slots pc lv st := V.bn f (fun n => absurd n h) (fun _ => k)
/-- a reference that may be null: the two roads -/
theorem V.sp {o : Option Nat} {g : Nat → Nat} (k1 : o = none → V p l e R s m args below meth c H0 D cl Q nL M cells slots pc lv (.null :: st)) (k2 : ∀ i : Nat, o = some i → V p l e R s m args below meth c H0 D cl Q nL M cells slots pc lv (.ref (g i) :: st)) : V p l e R s m args below meth c H0 D cl Q nL M cells slots pc lv (va_rf (Option.map g o) :: st) := by
  cases o with
  | none => exact k1 rfl
  | some i => exact k2 i rfl
theorem V.spN {o : Option Nat} {g : Nat → Nat} (h : o = none) (k : V p l e R s m args below meth c H0 D cl Q nL M cells slots pc lv (.null :: st)) : V p l e R s m args below meth c H0 D cl Q nL M cells slots pc lv (va_rf (Option.map g o) :: st) := by
  subst h
  exact k
theorem V.spS {o : Option Nat} {g : Nat → Nat} {i : Nat} (h : o = some i) (k : V p l e R s m args below meth c H0 D cl Q nL M cells slots pc lv (.ref (g i) :: st)) : V p l e R s m args below meth c H0 D cl Q nL M cells slots pc lv (va_rf (Option.map g o) :: st) := by
  subst h
  exact k
/-- a loop: an invariant with a number that falls -/
theorem V.ind {α : Type} (I : Nat → α → mp → List (Nat × Value) → Prop) {n0 : Nat} {x0 : α} (h0 : I n0 x0 M lv) (step : ∀ n : Nat, (∀ k : Nat, k < n → ∀ (x : α) (M' : mp) (lv' : List (Nat × Value)), I k x M' lv' → V p l e R s m args below meth c H0 D cl Q nL M' cells slots pc lv' st) → ∀ (x : α) (M' : mp) (lv' : List (Nat × Value)), I n x M' lv' → V p l e R s m args below meth c H0 D cl Q nL M' cells slots pc lv' st) : V p l e R s m args below meth c H0 D cl Q nL M cells slots pc lv st := by
  have key : ∀ (n : Nat) (x : α) (M' : mp) (lv' : List (Nat × Value)), I n x M' lv' → V p l e R s m args below meth c H0 D cl Q nL M' cells slots pc lv' st := fun n => Nat.strongRecOn n step
  exact key n0 x0 M lv h0
/-- Math.max -/
theorem V.mmax (X : CallFix p m c cc nL s args Ts own) {index : Nat} {x y : Int32} (hlink : Cond.methodLink own index Lib.Math.max.name ∈ Ts) (hstat : Cond.static Lib.Math.max.name ∈ Ts) (hini : Cond.initialized "java/lang/Math" ∈ Ts) (hcode : Cond.code Lib.Math.max.name Lib.Math.max.code 2 (some .int) ∈ Ts) (hst : (st.map fun v => v.category).sum ≤ 8) (hframes : 1 ≤ R.frames) (hlocals : 21 ≤ R.locals) (hc : cells ≤ R.cells) (hs : slots ≤ R.slots) (hdg : decode cc pc = .ok (.invokestatic index, 3)) (hpc : pc + 3 = pc')
    (kk : V p l e R s m args below meth c H0 D cl Q nL M cells slots pc' lv (.int (imax x y) :: st)) : V p l e R s m args below meth c H0 D cl Q nL M cells slots pc lv (.int y :: .int x :: st) := by
  subst hpc
  intro H locs ls hH hL hl
  exact va_mmax X.1 X.2.1 (X.2.2.1.trans hl.1.symm) X.2.2.2.1 (X.2.2.2.2 _ hlink) (X.2.2.2.2 _ hstat) (X.2.2.2.2 _ hini) (X.2.2.2.2 _ hcode) hframes (by omega) hc hs hdg (kk H locs ls hH hL hl)
/-- Object.<init> -/
theorem V.obj (X : CallFix p m c cc nL s args Ts own) {idx a : Nat} (hlink : Cond.methodLink own idx objectInit ∈ Ts) (hinst : Cond.instanceMethod objectInit ∈ Ts) (hcode : Cond.code objectInit ⟨#[0xb1]⟩ 1 none ∈ Ts) (hst : (st.map fun v => v.category).sum ≤ 8) (hdg : decode cc pc = .ok (.invokespecial idx, 3)) (hframes : 1 ≤ R.frames) (hlocals : 20 ≤ R.locals) (hpc : pc + 3 = pc')
    (kk : V p l e R s m args below meth c H0 D cl Q nL M cells slots pc' lv st) : V p l e R s m args below meth c H0 D cl Q nL M cells slots pc lv (.ref a :: st) := by
  subst hpc
  intro H locs ls hH hL hl
  have h8 := lv_room (m := m) (pc := pc) (ls := ls) (rest := .ref a :: st) hst
  exact W.objInit X.1 X.2.1 X.2.2.2.1 (X.2.2.2.2 _ hlink) (X.2.2.2.2 _ hinst) (X.2.2.2.2 _ hcode) rfl (by rw [X.2.2.1]; exact hl.1) rfl hdg hframes (by omega) (kk H locs ls hH hL hl)
end VL
/-- the kind of a content: contents of different kinds lie apart -/
def tg (x : va_E) : Nat := match x with
  | .inr (ci, _) => ci
  | .inl (_, n, .inl _) => 1000 + n
  | .inl (_, n, .inr (.inl _)) => 100000 + n
  | .inl (_, n, .inr (.inr (.inr (.inr _)))) => 10000000 + n
  | .inl (_, _, _) => 999999999
theorem ne_k {M : mp} {a b : Nat} {x y : va_E} (ha : M a = some x) (hb : M b = some y) {i j : Nat} (hi : tg x = i) (hj : tg y = j) (h : i ≠ j) : a ≠ b := by
  intro e
  rw [e, hb] at ha
  cases ha
  exact h (hi.symm.trans hj)
theorem ne_z {M : mp} {a b : Nat} {x : va_E} (ha : M a = some x) (hb : M b = none) : a ≠ b := by
  intro e
  rw [e, hb] at ha
  cases ha
def oc {α : Type} (o : Option Nat) (a : α) (f : Nat → α) : α := match o with
  | none => a
  | some i => f i
theorem oc_none {α : Type} (a : α) (f : Nat → α) : oc none a f = a := rfl
theorem oc_some {α : Type} (i : Nat) (a : α) (f : Nat → α) : oc (some i) a f = f i := rfl
theorem vin {i : Int32} {n : Nat} (h1 : 0 ≤ i.toInt) (h2 : i.toInt < (n : Int)) : vp_in i n := vp_in_iff.mpr ⟨h1, h2⟩
theorem i32_add1 {x : Int32} (h : x.toInt < 2147483647) : (x + 1).toInt = x.toInt + 1 := by
  have h1 := Int32.le_toInt x
  rw [Int32.toInt_add, show (1 : Int32).toInt = 1 from rfl]
  exact Int.bmod_eq_of_le (by omega) (by omega)
theorem i32_addm1 {x : Int32} (h : -2147483648 < x.toInt) : (x + (-1)).toInt = x.toInt + (-1) := by
  have h1 := Int32.toInt_lt x
  rw [Int32.toInt_add, show (-1 : Int32).toInt = -1 from rfl]
  exact Int.bmod_eq_of_le (by omega) (by omega)
theorem i32_sub1 {x : Int32} (h : -2147483648 < x.toInt) : (x - 1).toInt = x.toInt - 1 := by
  have h1 := Int32.toInt_lt x
  rw [Int32.toInt_sub, show (1 : Int32).toInt = 1 from rfl]
  exact Int.bmod_eq_of_le (by omega) (by omega)
/-! the statements of a program: a pool -/
def Stm : Type := Int32 × Int32 × Int32 × Int32 × Int32 × Int32 × Int32 × (Nat → Int32) × (Nat → Int64) × (Nat → Int32) × (Nat → Int64) × (Nat → Int64)
def st_f (x : Stm) : Int32 := x.1
def st_t (x : Stm) : Int32 := x.2.1
def st_k (x : Stm) : Int32 := x.2.2.1
def st_n (x : Stm) : Int32 := x.2.2.2.1
def st_a (x : Stm) : Int32 := x.2.2.2.2.1
def st_c (x : Stm) : Int32 := x.2.2.2.2.2.1
def st_l (x : Stm) : Int32 := x.2.2.2.2.2.2.1
def st_kc (x : Stm) : Nat → Int32 := x.2.2.2.2.2.2.2.1
def st_kv (x : Stm) : Nat → Int64 := x.2.2.2.2.2.2.2.2.1
def st_lc (x : Stm) : Nat → Int32 := x.2.2.2.2.2.2.2.2.2.1
def st_fv (x : Stm) : Nat → Int64 := x.2.2.2.2.2.2.2.2.2.2.1
def st_lz (x : Stm) : Nat → Int64 := x.2.2.2.2.2.2.2.2.2.2.2
def SP (cI cL : ClassId) (M : mp) (ns : Int32) (sa u1 u2 u3 u4 u5 : Nat → Nat) (σ : Nat → Stm) : Prop := ∀ i : Nat, (i : Int) < ns.toInt →
  M (sa i) = some (.inr (4, [.int (st_f (σ i)), .int (st_t (σ i)), .int (st_k (σ i)), .int (st_n (σ i)), .int (st_a (σ i)), .int (st_c (σ i)), .int (st_l (σ i)), .ref (u1 i), .ref (u2 i), .ref (u3 i), .ref (u4 i), .ref (u5 i)])) ∧
  M (u1 i) = some (.inl (cI, 7, .inl (st_kc (σ i)))) ∧ M (u2 i) = some (.inl (cL, 7, .inr (.inl (st_kv (σ i))))) ∧ M (u3 i) = some (.inl (cI, 7, .inl (st_lc (σ i)))) ∧ M (u4 i) = some (.inl (cL, 7, .inr (.inl (st_fv (σ i))))) ∧ M (u5 i) = some (.inl (cL, 7, .inr (.inl (st_lz (σ i)))))
def pt (j : Nat) : Bool := j == 4 || j == 1007 || j == 100007
theorem SP.keep {cI cL : ClassId} {M M' : mp} {ns : Int32} {sa u1 u2 u3 u4 u5 : Nat → Nat} {σ : Nat → Stm} (h : SP cI cL M ns sa u1 u2 u3 u4 u5 σ) (hk : ∀ (q : Nat) (e : va_E), M q = some e → pt (tg e) = true → M' q = M q) : SP cI cL M' ns sa u1 u2 u3 u4 u5 σ := by
  intro i hi
  obtain ⟨h0, h1, h2, h3, h4, h5⟩ := h i hi
  exact ⟨(hk _ _ h0 rfl).trans h0, (hk _ _ h1 rfl).trans h1, (hk _ _ h2 rfl).trans h2, (hk _ _ h3 rfl).trans h3, (hk _ _ h4 rfl).trans h4, (hk _ _ h5 rfl).trans h5⟩
theorem ne_p {M : mp} {q a : Nat} {e x : va_E} (hq : M q = some e) (ht : pt (tg e) = true) (ha : M a = some x) {j : Nat} (hj : tg x = j) (hn : pt j = false) : q ≠ a := by
  intro h
  rw [h, ha] at hq
  cases hq
  rw [hj, hn] at ht
  cases ht
abbrev tysOf (cI cL cQ cB : ClassId) : List (ClassId × FieldType) := [(cI, .int), (cL, .long), (cQ, .object "PerformRanges$Statement"), (cB, .boolean)]
theorem gw_good {z y : Cond} (hy : y ∈ GW) : GoodIn (z :: GW) (y :: GW) := by
  intro w hw
  have h1 : w ∈ GW := by
    rcases List.mem_cons.mp hw with h | h
    · rw [h]; exact hy
    · exact h
  exact ⟨mcs h1, good_of_word (List.mem_filter.mp h1).2⟩
section CG
variable {p : Program} {m : MethodId} {c : Code} {cc bytes : ByteArray} {nL maxL n index : Nat} {s : State} {args : Array Value} {own C : String} {z : Cond} {R rm : Room} {y : MethodName} {ret : Option FieldType}
theorem cwG (X : CallFix p m c cc nL s args (z :: GW) own) (h1 : Cond.methodLink own index y ∈ z :: GW) (h2 : Cond.instanceMethod y ∈ z :: GW) (h3 : Cond.selects C y y ∈ z :: GW) (h4 : Cond.initialized y.cls ∈ z :: GW) (h5 : Cond.code y bytes maxL ret ∈ GW)
    (hd : y.cls ≠ "java/lang/invoke/MethodHandle" ∧ y.cls ≠ "java/lang/invoke/VarHandle" ∧ (parseMethodDescriptor y.desc).map (fun d => d.parameters.length) = some n) (hR1 : rm.frames + 1 ≤ R.frames) (hR2 : 8 + (maxL + 11) + rm.locals ≤ R.locals) : CallW R s args own C index y bytes maxL ret (Cond.code y bytes maxL ret :: GW) rm rm.cells rm.slots n :=
  ⟨callB_of n X.2.2.2.2 (gw_good h5) rfl rfl rfl (X.2.2.2.2 _ h4) (X.2.2.2.2 _ h1) hd ⟨hR1, hR2⟩, X.2.2.2.2 _ h2, X.2.2.2.2 _ h3⟩
theorem csG (X : CallFix p m c cc nL s args (z :: GW) own) (h1 : Cond.methodLink own index y ∈ z :: GW) (h2 : Cond.static y ∈ z :: GW) (h4 : Cond.initialized y.cls ∈ z :: GW) (h5 : Cond.code y bytes maxL ret ∈ GW)
    (hd : y.cls ≠ "java/lang/invoke/MethodHandle" ∧ y.cls ≠ "java/lang/invoke/VarHandle" ∧ (parseMethodDescriptor y.desc).map (fun d => d.parameters.length) = some n) (hR1 : rm.frames + 1 ≤ R.frames) (hR2 : 8 + (maxL + 11) + rm.locals ≤ R.locals) : CallB R s args own index y bytes maxL ret (Cond.code y bytes maxL ret :: GW) rm rm.cells rm.slots n ∧ (Cond.static y).before args s = true :=
  ⟨callB_of n X.2.2.2.2 (gw_good h5) rfl rfl rfl (X.2.2.2.2 _ h4) (X.2.2.2.2 _ h1) hd ⟨hR1, hR2⟩, X.2.2.2.2 _ h2⟩
theorem ciG (X : CallFix p m c cc nL s args (z :: GW) own) (h1 : Cond.methodLink own index y ∈ z :: GW) (h2 : Cond.instanceMethod y ∈ z :: GW) (h4 : Cond.initialized y.cls ∈ z :: GW) (h5 : Cond.code y bytes maxL none ∈ GW) (hy : y.name = "<init>")
    (hd : y.cls ≠ "java/lang/invoke/MethodHandle" ∧ y.cls ≠ "java/lang/invoke/VarHandle" ∧ (parseMethodDescriptor y.desc).map (fun d => d.parameters.length) = some n) (hR1 : rm.frames + 1 ≤ R.frames) (hR2 : 8 + (maxL + 11) + rm.locals ≤ R.locals) : CallB R s args own index y bytes maxL none (Cond.code y bytes maxL none :: GW) rm rm.cells rm.slots n ∧ y.name = "<init>" ∧ (Cond.instanceMethod y).before args s = true :=
  ⟨callB_of n X.2.2.2.2 (gw_good h5) rfl rfl rfl (X.2.2.2.2 _ h4) (X.2.2.2.2 _ h1) hd ⟨hR1, hR2⟩, hy, X.2.2.2.2 _ h2⟩
end CG
theorem nb_ok {b : Int32} (h : b = 0 ∨ b = 1) : narrow .boolean (.int b) = .int b := by
  rcases h with rfl | rfl <;> rfl
theorem fb_ok {b : Int32} (h : b = 0 ∨ b = 1) : fits .boolean (.int b) = true := by
  rcases h with rfl | rfl <;> rfl
def lq (lo : Nat → Option Nat) (sa : Nat → Nat) : Nat → Option Nat := fun k => Option.map sa (lo k)
theorem lq_up {lo : Nat → Option Nat} {sa : Nat → Nat} {k i : Nat} : va_up (lq lo sa) k (some (sa i)) = lq (va_up lo k (some i)) sa := by
  funext j
  by_cases h : j = k
  · subst h
    simp [va_up, lq]
  · simp [va_up, lq, h]
def tdOf (ns : Int32) (sa : Nat → Nat) : Nat → Option Nat := fun k => if (k : Int) < ns.toInt then some (sa k) else none
theorem tdOf_lt {ns : Int32} {sa : Nat → Nat} {k : Nat} (h : (k : Int) < ns.toInt) : tdOf ns sa k = some (sa k) := if_pos h
theorem clampI {x : Int32} (h : 0 ≤ x.toInt) : (x.toNatClampNeg : Int) = x.toInt := by
  show ((x.toInt.toNat : Nat) : Int) = x.toInt
  omega
theorem opt_ok {o o' : Option Nat} {sa : Nat → Nat} {v : Value} (h : o = o') (hv : v = va_rf (Option.map sa o')) : some v = some (va_rf (Option.map sa o)) := by
  rw [h, hv]
