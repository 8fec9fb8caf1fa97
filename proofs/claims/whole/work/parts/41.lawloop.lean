/-! THE CLAIM OUT OF ONE WALK OF THE LAW'S BODY. Your part is whole_start (and what it stands on); all else here is the same for every law, but numbers. -/
def R_law : String := "PerformRangesLaw"
def lw_P (b : Addr) (xs : List Int32) (args : Array Value) (s : State) : Prop := args = #[.ref b] ∧ s.IntsAt b xs ∧ xs.length ≤ 4096 ∧ (Jvm.Cond.and given_1 narrow_1).before args s = true
def lw_Q (_ : Array Value) (s : State) (o : Outcome) (t : State) : Prop := o = .returned (some (.int 1)) ∧ Framed s o t [] 601024 7293034
def lw_Z (below : List Frame) (a : Array Value) (s : State) : State → Prop := fun t => ∃ o, t.status = .running ∧ Ended t below o ∧ lw_Q a s o t
/-- the law's own end, with 1 on the stack, nothing written that was there before, its room as the claim has it -/
theorem lw_ret {p : Program} {l : Launch} {e : Env} {s : State} {m : MethodId} {below : List Frame} {meth : Method} {c : Code} {b : Nat} (hx : p.tables.exec = Jvm.exec) (hb : c.code = code) (hr : meth.sig.returnType = ret) (hlocks : meth.locks = false) {pc : Nat} {H : Heap} {ls : Array Slot} (hdg : decode code pc = .ok (.ireturn, 1)) : W p l e room_1 s m #[Value.ref b] below meth c H [] 601024 7293034 (lw_Z below #[Value.ref b] s) (F0 m pc ls [.int 1]) := by
  intro T hT X
  obtain ⟨fs, hret, hrun, hended, hW, hframe⟩ := X.leave (v := some (.int 1)) (hlocks := hlocks) (fun h => by rw [hr] at h; cases h)
  have hmeth' : T.vm.method? m = some meth := X.method'
  refine ⟨T.setFrames fs, ?_, .returned (some (.int 1)), hrun, hended, rfl, ⟨_, rfl⟩, hW, hframe⟩
  jvm_step X.here [X.here.top, hx, hb, hdg, hmeth', hr, ret, narrow_b1]
  (try refine ⟨rfl, ?_⟩); (try refine ⟨rfl, ?_⟩)
  first | (intro acts; rw [hret _ acts rfl rfl rfl]) | rw [hret _ _ rfl rfl rfl]
  exact Steps.refl _
/-- what holds at the law's entry: the machine, the code, the tables' words (any of lw_tbl by 'hts w (by decide +kernel)'), the script of L ints xs at the cell b, what the Statement gives of the start (any of its parts by flat_of_before) -/
def lw_At (p : Program) (s : State) (m : MethodId) (meth : Method) (c : Code) (b L : Nat) (xs : Nat → Int32) : Prop :=
  p.tables.exec = Jvm.exec ∧ c.code = code ∧ meth.sig.returnType = ret ∧ c.maxLocals = 8 ∧ s.vm.findClass R_law = some m.cls ∧ (∀ w ∈ lw_tbl, w.before #[Value.ref b] s = true) ∧ va_X b L xs s s.heap ∧ b < s.heap.size ∧ meth.locks = false ∧ (Jvm.Cond.and given_1 narrow_1).before #[Value.ref b] s = true

theorem law_head {p : Program} {l : Launch} {e : Env} {s : State} {m : MethodId} {below : List Frame} {meth : Method} {c : Code} {D : va_G} {z : Cond} {b L : Nat} {xs : Nat → Int32} {cI cL cQ cB : ClassId} {px pg lt tr dg gg tg0 ce va pi la pe tu ra ce2 va2 pi2 la2 pe2 tu2 ra2 mo ou : Nat} {ad : Nat → Nat} {M : mp} {i : Int32} {k0 n0 : Nat} (A : LX p l m c s #[Value.ref b] z D cI cL cQ cB b L xs px pg lt tr dg gg tg0 ce va pi la pe tu ra ce2 va2 pi2 la2 pe2 tu2 ra2 mo ou ad) (kE : Int32.ofNat L - 8 < i → V p l e room_1 s m #[Value.ref b] below meth c s.heap D cls7 (lw_Z below #[Value.ref b] s) 8 M k0 n0 850 [(0, .ref b), (1, .ref px), (2, .ref mo), (3, .ref ou), (4, .int i)] []) (kB : ¬ Int32.ofNat L - 8 < i → V p l e room_1 s m #[Value.ref b] below meth c s.heap D cls7 (lw_Z below #[Value.ref b] s) 8 M k0 n0 33 [(0, .ref b), (1, .ref px), (2, .ref mo), (3, .ref ou), (4, .int i)] []) : V p l e room_1 s m #[Value.ref b] below meth c s.heap D cls7 (lw_Z below #[Value.ref b] s) 8 M k0 n0 23 [(0, .ref b), (1, .ref px), (2, .ref mo), (3, .ref ou), (4, .int i)] [] := by
  have X := A.1
  refine V.rd (pc' := 25) (fun hl => lv_iload X.1 X.2.1 d_Law_law_23 (lv_at hl 4 rfl)) ?_
  refine V.rd (pc' := 26) (fun hl => lv_aload_n X.1 X.2.1 d_Law_law_25 rfl (lv_at hl 0 rfl)) ?_
  refine V.slen (pc' := 27) X A.2.2.2.2.1 A.2.2.2.2.2.1 d_Law_law_26 rfl ?_
  refine V.go (pc' := 29) (lv_bipush (v := 8) X.1 X.2.1 d_Law_law_27 (by decide)) ?_
  refine V.go (pc' := 30) (lv_isub X.1 X.2.1 d_Law_law_29) ?_
  exact V.br (pc' := 33) (tgt := 850) (P := Int32.ofNat L - 8 < i) (lv_icmp_gt X.1 X.2.1 d_Law_law_30 (by decide)) kE kB
theorem law_exit {p : Program} {l : Launch} {e : Env} {s : State} {m : MethodId} {below : List Frame} {meth : Method} {c : Code} {D : va_G} {z : Cond} {b L : Nat} {xs : Nat → Int32} {cI cL cQ cB : ClassId} {px pg lt tr dg gg tg0 ce va pi la pe tu ra ce2 va2 pi2 la2 pe2 tu2 ra2 mo ou : Nat} {ad : Nat → Nat} {M : mp} {i : Int32} {k0 n0 : Nat} (A : LX p l m c s #[Value.ref b] z D cI cL cQ cB b L xs px pg lt tr dg gg tg0 ce va pi la pe tu ra ce2 va2 pi2 la2 pe2 tu2 ra2 mo ou ad) (hr : meth.sig.returnType = ret) (hlocks : meth.locks = false) (hc : k0 ≤ 601024) (hs : n0 ≤ 7293034) : V p l e room_1 s m #[Value.ref b] below meth c s.heap D cls7 (lw_Z below #[Value.ref b] s) 8 M k0 n0 850 [(0, .ref b), (1, .ref px), (2, .ref mo), (3, .ref ou), (4, .int i)] [] := by
  have X := A.1
  refine V.widen (k := 601024) (n := 7293034) hc hs ?_
  refine V.go (pc' := 851) (lv_iconst (v := 1) X.1 X.2.1 d_Law_law_850 (by decide)) ?_
  intro H locs ls hH hL hl
  exact W.forget (locs := []) (L := locs) hL (lw_ret X.1 X.2.1 hr hlocks d_Law_law_851)
set_option maxHeartbeats 4000000 in
theorem law_body {p : Program} {l : Launch} {e : Env} {s : State} {m : MethodId} {below : List Frame} {meth : Method} {c : Code} {D : va_G} {z : Cond} {b L : Nat} {xs : Nat → Int32} {cI cL cQ cB : ClassId} {px pg lt tr dg gg tg0 ce va pi la pe tu ra ce2 va2 pi2 la2 pe2 tu2 ra2 mo ou : Nat} {ad : Nat → Nat} {i x0 x1 x2 x3 x4 x5 x6 x7 : Int32} {k0 n0 : Nat} {M : mp} {sa u1 u2 u3 u4 u5 : Nat → Nat} {σ : Nat → Stm} {np : Int32} {ns : Int32} {ln : Int32} {en : Int32} {ln2 : Int32} {en2 : Int32} {hh : Int32} {hi : Int32} {hh2 : Int32} {hi2 : Int32} {dd : Nat → Int32} {gd : Nat → Int32} {f : Nat → Int64} {f2 : Nat → Int64} {lo : Nat → Option Nat} {lo2 : Nat → Option Nat} {pd : Nat → Int32} {ud : Nat → Int32} {rd : Nat → Int32} {pd2 : Nat → Int32} {ud2 : Nat → Int32} {rd2 : Nat → Int32} {fo : Nat → Int64} {xcode : Int32} {vkept : Nat → Int64} {vdoes : Nat → Int32} {vgos : Nat → Int32} {vfrom : Nat → Int32} {vto : Nat → Int32} {vkind : Nat → Int32} {vtimes : Nat → Int32} {vcond : Nat → Int32} {vlev : Nat → Int32} {vask : Nat → Int32} {vcc : Nat → Int32} {vvar : Nat → Int32} {vleast : Nat → Int64} {vfirst : Nat → Int64} {vstep : Nat → Int64} {vpile : Nat → Int32} {vcall : Nat → Int32} {vleft : Nat → Int32} {xsize : Int32} {xmost : Int32} {xend : Int32} {xran : Int32} {vord : Nat → Int32} {vlord : Nat → Int32} {vlpile : Nat → Int32} (A : LX p l m c s #[Value.ref b] z D cI cL cQ cB b L xs px pg lt tr dg gg tg0 ce va pi la pe tu ra ce2 va2 pi2 la2 pe2 tu2 ra2 mo ou ad) (hk : k0 + 6 ≤ room_1.cells) (hn : n0 + 47 ≤ room_1.slots) (h0 : vp_in i L ∧ xs i.toNatClampNeg = x0) (hs : SX L xs i x1 x2 x3 x4 x5 x6 x7) (I0 : INV cI cL cQ cB px pg lt tr dg gg tg0 ce va pi la pe tu ra ce2 va2 pi2 la2 pe2 tu2 ra2 mo ou ad sa u1 u2 u3 u4 u5 σ np ns ln en ln2 en2 hh hi hh2 hi2 dd gd f f2 lo lo2 pd ud rd pd2 ud2 rd2 fo xcode vkept vdoes vgos vfrom vto vkind vtimes vcond vlev vask vcc vvar vleast vfirst vstep vpile vcall vleft xsize xmost xend xran vord vlord vlpile M) (K : ∀ {M : mp} {sa u1 u2 u3 u4 u5 : Nat → Nat} {σ : Nat → Stm} {np : Int32} {ns : Int32} {ln : Int32} {en : Int32} {ln2 : Int32} {en2 : Int32} {hh : Int32} {hi : Int32} {hh2 : Int32} {hi2 : Int32} {dd : Nat → Int32} {gd : Nat → Int32} {f : Nat → Int64} {f2 : Nat → Int64} {lo : Nat → Option Nat} {lo2 : Nat → Option Nat} {pd : Nat → Int32} {ud : Nat → Int32} {rd : Nat → Int32} {pd2 : Nat → Int32} {ud2 : Nat → Int32} {rd2 : Nat → Int32} {fo : Nat → Int64} {xcode : Int32} {vkept : Nat → Int64} {vdoes : Nat → Int32} {vgos : Nat → Int32} {vfrom : Nat → Int32} {vto : Nat → Int32} {vkind : Nat → Int32} {vtimes : Nat → Int32} {vcond : Nat → Int32} {vlev : Nat → Int32} {vask : Nat → Int32} {vcc : Nat → Int32} {vvar : Nat → Int32} {vleast : Nat → Int64} {vfirst : Nat → Int64} {vstep : Nat → Int64} {vpile : Nat → Int32} {vcall : Nat → Int32} {vleft : Nat → Int32} {xsize : Int32} {xmost : Int32} {xend : Int32} {xran : Int32} {vord : Nat → Int32} {vlord : Nat → Int32} {vlpile : Nat → Int32}, INV cI cL cQ cB px pg lt tr dg gg tg0 ce va pi la pe tu ra ce2 va2 pi2 la2 pe2 tu2 ra2 mo ou ad sa u1 u2 u3 u4 u5 σ np ns ln en ln2 en2 hh hi hh2 hi2 dd gd f f2 lo lo2 pd ud rd pd2 ud2 rd2 fo xcode vkept vdoes vgos vfrom vto vkind vtimes vcond vlev vask vcc vvar vleast vfirst vstep vpile vcall vleft xsize xmost xend xran vord vlord vlpile M → V p l e room_1 s m #[Value.ref b] below meth c s.heap D cls7 (lw_Z below #[Value.ref b] s) 8 M (k0 + 6) (n0 + 47) 844 [(0, .ref b), (1, .ref px), (2, .ref mo), (3, .ref ou), (4, .int i)] []) : V p l e room_1 s m #[Value.ref b] below meth c s.heap D cls7 (lw_Z below #[Value.ref b] s) 8 M k0 n0 33 [(0, .ref b), (1, .ref px), (2, .ref mo), (3, .ref ou), (4, .int i)] [] := by
  have X := A.1
  refine V.rd (pc' := 34) (fun hl => lv_aload_n X.1 X.2.1 d_Law_law_33 rfl (lv_at hl 0 rfl)) ?_
  refine V.rd (pc' := 36) (fun hl => lv_iload X.1 X.2.1 d_Law_law_34 (lv_at hl 4 rfl)) ?_
  refine V.scr (pc' := 37) X A.2.2.2.2.1 A.2.2.2.2.2.1 h0.1 h0.2 d_Law_law_36 rfl ?_
  refine V.go (pc' := 39) (lv_bipush (v := 15) X.1 X.2.1 d_Law_law_37 (by decide)) ?_
  refine V.go (pc' := 40) (lv_iand X.1 X.2.1 d_Law_law_39) ?_
  generalize x0 &&& 15 = t
  refine V.dec (P := t = 0) (fun c0 => ?_) (fun c0 => ?_)
  · refine V.go (pc' := 104) (lv_tableIn X.1 X.2.1 d_Law_law_40 (by rw [c0]; decide) (by rw [c0]; decide) (off := 64) (by rw [c0]; rfl) (by decide)) ?_
    exact k_par A hk hn hs I0 K
  refine V.dec (P := t = 1) (fun c1 => ?_) (fun c1 => ?_)
  · refine V.go (pc' := 129) (lv_tableIn X.1 X.2.1 d_Law_law_40 (by rw [c1]; decide) (by rw [c1]; decide) (off := 89) (by rw [c1]; rfl) (by decide)) ?_
    by_cases q1 : (sp_isParagraph np x1) = 0
    · exact k_perfN A hk hn hs I0 K (Or.inl q1)
    by_cases q2 : (sp_isParagraph np x2) = 0
    · exact k_perfN A hk hn hs I0 K (Or.inr (Or.inl q2))
    by_cases q3 : x3 < 0
    · exact k_perfN A hk hn hs I0 K (Or.inr (Or.inr (Or.inl q3)))
    by_cases q4 : 3 < x3
    · exact k_perfN A hk hn hs I0 K (Or.inr (Or.inr (Or.inr (Or.inl q4))))
    by_cases q5 : (sp_isFullOfStatements ns) = 0
    · exact k_perf A hk hn hs I0 K q1 q2 q3 q4 q5
    exact k_perfN A hk hn hs I0 K (Or.inr (Or.inr (Or.inr (Or.inr q5))))
  refine V.dec (P := t = 2) (fun c2 => ?_) (fun c2 => ?_)
  · refine V.go (pc' := 190) (lv_tableIn X.1 X.2.1 d_Law_law_40 (by rw [c2]; decide) (by rw [c2]; decide) (off := 150) (by rw [c2]; rfl) (by decide)) ?_
    cases hst : sp_stAt ns x1 with
    | none => exact k_untN A hk hn hs I0 K hst
    | some i0 => exact k_unt A hk hn hs I0 K hst
  refine V.dec (P := t = 3) (fun c3 => ?_) (fun c3 => ?_)
  · refine V.go (pc' := 299) (lv_tableIn X.1 X.2.1 d_Law_law_40 (by rw [c3]; decide) (by rw [c3]; decide) (off := 259) (by rw [c3]; rfl) (by decide)) ?_
    cases hst : sp_stAt ns x1 with
    | none => exact k_varN A hk hn hs I0 K hst
    | some i0 => exact k_var A hk hn hs I0 K hst
  refine V.dec (P := t = 4) (fun c4 => ?_) (fun c4 => ?_)
  · refine V.go (pc' := 440) (lv_tableIn X.1 X.2.1 d_Law_law_40 (by rw [c4]; decide) (by rw [c4]; decide) (off := 400) (by rw [c4]; rfl) (by decide)) ?_
    exact k_goto A hk hn hs I0 K
  refine V.dec (P := t = 5) (fun c5 => ?_) (fun c5 => ?_)
  · refine V.go (pc' := 477) (lv_tableIn X.1 X.2.1 d_Law_law_40 (by rw [c5]; decide) (by rw [c5]; decide) (off := 437) (by rw [c5]; rfl) (by decide)) ?_
    exact k_run A hk hn hs I0 K
  refine V.dec (P := t = 6) (fun c6 => ?_) (fun c6 => ?_)
  · refine V.go (pc' := 546) (lv_tableIn X.1 X.2.1 d_Law_law_40 (by rw [c6]; decide) (by rw [c6]; decide) (off := 506) (by rw [c6]; rfl) (by decide)) ?_
    exact k_plain A hk hn hs I0 K
  refine V.dec (P := t = 7) (fun c7 => ?_) (fun c7 => ?_)
  · refine V.go (pc' := 615) (lv_tableIn X.1 X.2.1 d_Law_law_40 (by rw [c7]; decide) (by rw [c7]; decide) (off := 575) (by rw [c7]; rfl) (by decide)) ?_
    exact k_order A hk hn hs I0 K
  refine V.dec (P := t = 8) (fun c8 => ?_) (fun c8 => ?_)
  · refine V.go (pc' := 640) (lv_tableIn X.1 X.2.1 d_Law_law_40 (by rw [c8]; decide) (by rw [c8]; decide) (off := 600) (by rw [c8]; rfl) (by decide)) ?_
    exact k_active A hk hn hs I0 K
  refine V.dec (P := t = 9) (fun c9 => ?_) (fun c9 => ?_)
  · refine V.go (pc' := 665) (lv_tableIn X.1 X.2.1 d_Law_law_40 (by rw [c9]; decide) (by rw [c9]; decide) (off := 625) (by rw [c9]; rfl) (by decide)) ?_
    by_cases hcx : sp_isCell x1 = 0
    · exact k_getN A hk hn hs I0 K hcx
    · exact k_get A hk hn hs I0 K hcx
  refine V.dec (P := t = 10) (fun c10 => ?_) (fun c10 => ?_)
  · refine V.go (pc' := 720) (lv_tableIn X.1 X.2.1 d_Law_law_40 (by rw [c10]; decide) (by rw [c10]; decide) (off := 680) (by rw [c10]; rfl) (by decide)) ?_
    by_cases hcx : sp_isCell x1 = 0
    · exact k_putN A hk hn hs I0 K hcx
    · exact k_put A hk hn hs I0 K hcx
  refine V.dec (P := t = 11) (fun c11 => ?_) (fun c11 => ?_)
  · refine V.go (pc' := 819) (lv_tableIn X.1 X.2.1 d_Law_law_40 (by rw [c11]; decide) (by rw [c11]; decide) (off := 779) (by rw [c11]; rfl) (by decide)) ?_
    exact k_count A hk hn hs I0 K
  refine V.go (pc' := 844) (lv_tableOut X.1 X.2.1 d_Law_law_40 (by have t0 := lv_neT (a := 0) c0 rfl; have t1 := lv_neT (a := 1) c1 rfl; have t2 := lv_neT (a := 2) c2 rfl; have t3 := lv_neT (a := 3) c3 rfl; have t4 := lv_neT (a := 4) c4 rfl; have t5 := lv_neT (a := 5) c5 rfl; have t6 := lv_neT (a := 6) c6 rfl; have t7 := lv_neT (a := 7) c7 rfl; have t8 := lv_neT (a := 8) c8 rfl; have t9 := lv_neT (a := 9) c9 rfl; have t10 := lv_neT (a := 10) c10 rfl; have t11 := lv_neT (a := 11) c11 rfl; omega) (by decide)) ?_
  refine V.widen (k := k0 + 6) (n := n0 + 47) (Nat.le_add_right _ _) (Nat.le_add_right _ _) ?_
  exact K I0
theorem law_loop {p : Program} {l : Launch} {e : Env} {s : State} {m : MethodId} {below : List Frame} {meth : Method} {c : Code} {D : va_G} {z : Cond} {b L : Nat} {xs : Nat → Int32} {cI cL cQ cB : ClassId} {px pg lt tr dg gg tg0 ce va pi la pe tu ra ce2 va2 pi2 la2 pe2 tu2 ra2 mo ou : Nat} {ad : Nat → Nat} (A : LX p l m c s #[Value.ref b] z D cI cL cQ cB b L xs px pg lt tr dg gg tg0 ce va pi la pe tu ra ce2 va2 pi2 la2 pe2 tu2 ra2 mo ou ad) (hL : L ≤ 4096) (hr : meth.sig.returnType = ret) (hlocks : meth.locks = false) : ∀ (n : Nat) (i : Int32) (k0 n0 : Nat) {M : mp} {sa u1 u2 u3 u4 u5 : Nat → Nat} {σ : Nat → Stm} {np : Int32} {ns : Int32} {ln : Int32} {en : Int32} {ln2 : Int32} {en2 : Int32} {hh : Int32} {hi : Int32} {hh2 : Int32} {hi2 : Int32} {dd : Nat → Int32} {gd : Nat → Int32} {f : Nat → Int64} {f2 : Nat → Int64} {lo : Nat → Option Nat} {lo2 : Nat → Option Nat} {pd : Nat → Int32} {ud : Nat → Int32} {rd : Nat → Int32} {pd2 : Nat → Int32} {ud2 : Nat → Int32} {rd2 : Nat → Int32} {fo : Nat → Int64} {xcode : Int32} {vkept : Nat → Int64} {vdoes : Nat → Int32} {vgos : Nat → Int32} {vfrom : Nat → Int32} {vto : Nat → Int32} {vkind : Nat → Int32} {vtimes : Nat → Int32} {vcond : Nat → Int32} {vlev : Nat → Int32} {vask : Nat → Int32} {vcc : Nat → Int32} {vvar : Nat → Int32} {vleast : Nat → Int64} {vfirst : Nat → Int64} {vstep : Nat → Int64} {vpile : Nat → Int32} {vcall : Nat → Int32} {vleft : Nat → Int32} {xsize : Int32} {xmost : Int32} {xend : Int32} {xran : Int32} {vord : Nat → Int32} {vlord : Nat → Int32} {vlpile : Nat → Int32}, 0 ≤ i.toInt → i.toInt ≤ 4096 → (L : Int) < i.toInt + 8 * (n + 1) → k0 + 6 * n ≤ 601024 → n0 + 47 * n ≤ 7293034 → INV cI cL cQ cB px pg lt tr dg gg tg0 ce va pi la pe tu ra ce2 va2 pi2 la2 pe2 tu2 ra2 mo ou ad sa u1 u2 u3 u4 u5 σ np ns ln en ln2 en2 hh hi hh2 hi2 dd gd f f2 lo lo2 pd ud rd pd2 ud2 rd2 fo xcode vkept vdoes vgos vfrom vto vkind vtimes vcond vlev vask vcc vvar vleast vfirst vstep vpile vcall vleft xsize xmost xend xran vord vlord vlpile M → V p l e room_1 s m #[Value.ref b] below meth c s.heap D cls7 (lw_Z below #[Value.ref b] s) 8 M k0 n0 23 [(0, .ref b), (1, .ref px), (2, .ref mo), (3, .ref ou), (4, .int i)] [] := by
  intro n
  have hLi : (Int32.ofNat L).toInt = (L : Int) := toInt_of rfl (by omega)
  have hL8 : (Int32.ofNat L - 8).toInt = (L : Int) - 8 := by
    rw [i32_subl (c := 8) rfl (by omega) (by omega), hLi]
  induction n with
  | zero =>
    intro i k0 n0 M sa u1 u2 u3 u4 u5 σ np ns ln en ln2 en2 hh hi hh2 hi2 dd gd f f2 lo lo2 pd ud rd pd2 ud2 rd2 fo xcode vkept vdoes vgos vfrom vto vkind vtimes vcond vlev vask vcc vvar vleast vfirst vstep vpile vcall vleft xsize xmost xend xran vord vlord vlpile h0 h1 h2 h3 h4 I0
    refine law_head A (fun _ => law_exit A hr hlocks (by omega) (by omega)) (fun c0 => ?_)
    exfalso
    have c1 := mt Int32.lt_iff_toInt_lt.mpr c0
    omega
  | succ n ih =>
    intro i k0 n0 M sa u1 u2 u3 u4 u5 σ np ns ln en ln2 en2 hh hi hh2 hi2 dd gd f f2 lo lo2 pd ud rd pd2 ud2 rd2 fo xcode vkept vdoes vgos vfrom vto vkind vtimes vcond vlev vask vcc vvar vleast vfirst vstep vpile vcall vleft xsize xmost xend xran vord vlord vlpile h0 h1 h2 h3 h4 I0
    refine law_head A (fun _ => law_exit A hr hlocks (by omega) (by omega)) (fun c0 => ?_)
    have c1 := mt Int32.lt_iff_toInt_lt.mpr c0
    have a8 : (i + 8).toInt = i.toInt + 8 := i32_addl (c := 8) rfl (by omega) (by omega)
    have a1 : (i + 1).toInt = i.toInt + 1 := i32_addl (c := 1) rfl (by omega) (by omega)
    have a2 : (i + 2).toInt = i.toInt + 2 := i32_addl (c := 2) rfl (by omega) (by omega)
    have a3 : (i + 3).toInt = i.toInt + 3 := i32_addl (c := 3) rfl (by omega) (by omega)
    have a4 : (i + 4).toInt = i.toInt + 4 := i32_addl (c := 4) rfl (by omega) (by omega)
    have a5 : (i + 5).toInt = i.toInt + 5 := i32_addl (c := 5) rfl (by omega) (by omega)
    have a6 : (i + 6).toInt = i.toInt + 6 := i32_addl (c := 6) rfl (by omega) (by omega)
    have a7 : (i + 7).toInt = i.toInt + 7 := i32_addl (c := 7) rfl (by omega) (by omega)
    refine law_body A (show k0 + 6 ≤ 601024 by omega) (show n0 + 47 ≤ 7293034 by omega) ⟨vin h0 (by omega), rfl⟩ (show SX L xs i _ _ _ _ _ _ _ from ⟨⟨vin (by omega) (by omega), rfl⟩, ⟨vin (by omega) (by omega), rfl⟩, ⟨vin (by omega) (by omega), rfl⟩, ⟨vin (by omega) (by omega), rfl⟩, ⟨vin (by omega) (by omega), rfl⟩, ⟨vin (by omega) (by omega), rfl⟩, ⟨vin (by omega) (by omega), rfl⟩⟩) I0 ?_
    intro M' sa' u1' u2' u3' u4' u5' σ' np' ns' ln' en' ln2' en2' hh' hi' hh2' hi2' dd' gd' f' f2' lo' lo2' pd' ud' rd' pd2' ud2' rd2' fo' xcode' vkept' vdoes' vgos' vfrom' vto' vkind' vtimes' vcond' vlev' vask' vcc' vvar' vleast' vfirst' vstep' vpile' vcall' vleft' xsize' xmost' xend' xran' vord' vlord' vlpile' I1
    have X := A.1
    refine V.wr (pc' := 847) (lv' := [(4, .int (i + 8)), (0, .ref b), (1, .ref px), (2, .ref mo), (3, .ref ou)]) (fun hl => lv_iinc (k := 4) (v := i + 8) X.1 X.2.1 d_Law_law_844 hl rfl rfl (by decide) rfl) ?_
    refine V.pick [1, 2, 3, 4, 0] rfl ?_
    refine V.go (pc' := 23) (lv_goto X.1 X.2.1 d_Law_law_847 (by decide)) ?_
    exact ih (i + 8) (k0 + 6) (n0 + 47) (by omega) (by omega) (by omega) (by omega) (by omega) I1
