/-! THE LAW: rows for the script, helpers -/
section SCR
variable {p : Program} {l : Launch} {e : Env} {R : Room} {s : State} {m : MethodId} {args : Array Value} {below : List Frame} {meth : Method} {c : Code} {D : va_G} {cl : List vw_C} {Q : State → Prop} {nL : Nat} {M : mp} {cells slots pc pc' : Nat} {lv : List (Nat × Value)} {st : List Value} {cc : ByteArray} {own : String} {Ts : List Cond}
/-- a cell of the script -/
theorem V.scr (X : CallFix p m c cc nL s args Ts own) {b L : Nat} {xs : Nat → Int32} (hX : va_X b L xs s s.heap) (hbl : b < s.heap.size) {i v : Int32} (hin : vp_in i L) (hv : xs i.toNatClampNeg = v) (hdg : decode cc pc = .ok (.iaload, 1)) (hpc : pc + 1 = pc')
    (kk : V p l e R s m args below meth c s.heap D cl Q nL M cells slots pc' lv (.int v :: st)) : V p l e R s m args below meth c s.heap D cl Q nL M cells slots pc lv (.int i :: .ref b :: st) := by
  subst hpc
  subst hv
  intro H locs ls hH hL hl
  exact va_sld X.1 X.2.1 hX hbl (A := fun q => s.heap.size ≤ q) (Nat.not_le.mpr hbl) ⟨hH.1, fun q h _ => hH.2.1 q h, hL⟩ hin hdg (kk H locs ls hH hL hl)
theorem V.slen (X : CallFix p m c cc nL s args Ts own) {b L : Nat} {xs : Nat → Int32} (hX : va_X b L xs s s.heap) (hbl : b < s.heap.size) (hdg : decode cc pc = .ok (.arraylength, 1)) (hpc : pc + 1 = pc')
    (kk : V p l e R s m args below meth c s.heap D cl Q nL M cells slots pc' lv (.int (Int32.ofNat L) :: st)) : V p l e R s m args below meth c s.heap D cl Q nL M cells slots pc lv (.ref b :: st) := by
  subst hpc
  intro H locs ls hH hL hl
  exact va_slen X.1 X.2.1 hX hbl (A := fun q => s.heap.size ≤ q) (Nat.not_le.mpr hbl) ⟨hH.1, fun q h _ => hH.2.1 q h, hL⟩ hdg (kk H locs ls hH hL hl)
/-- an array of longs is what it holds below its length -/
theorem V.reL {H0 : Heap} {cA : ClassId} {a n : Nat} {f g : Nat → Int64} (ha : M a = some (.inl (cA, n, .inr (.inl f)))) (hfg : ∀ q : Nat, q < n → f q = g q)
    (kk : ∀ M' : mp, M' a = some (.inl (cA, n, .inr (.inl g))) → (∀ q, q ≠ a → M' q = M q) → V p l e R s m args below meth c H0 D cl Q nL M' cells slots pc lv st) : V p l e R s m args below meth c H0 D cl Q nL M cells slots pc lv st := by
  intro H locs ls hH hL hl
  refine kk (va_up M a (some (.inl (cA, n, .inr (.inl g))))) (va_up_self _ _ _) (fun q h => va_up_ne _ _ h) H locs ls ⟨hH.1, hH.2.1, fun b x hx => ?_⟩ hL hl
  by_cases hb : b = a
  · subst hb
    rw [va_up_self] at hx
    cases hx
    obtain ⟨hB, h2⟩ := hH.2.2 b _ ha
    refine ⟨hB, ?_⟩
    have h3 : H[b]? = some (vp_cell cA (n, .inr (.inl f))) := h2
    show H[b]? = some (vp_cell cA (n, .inr (.inl g)))
    rw [h3, vp_cell_l, vp_cell_l]
    congr 1
    unfold arrV
    congr 2
    funext j
    show Value.long (f j.val) = Value.long (g j.val)
    rw [hfg j.val j.isLt]
  · rw [va_up_ne _ _ hb] at hx
    exact hH.2.2 b x hx
end SCR
theorem lk {k0 A c N K : Nat} (hk : k0 + K ≤ N) (h : A + c ≤ K) : k0 + A + c ≤ N := by omega
def nup (f : Nat → Nat) (k v : Nat) : Nat → Nat := fun j => if j = k then v else f j
theorem nup_self {f : Nat → Nat} {k v : Nat} : nup f k v k = v := if_pos rfl
theorem nup_ne {f : Nat → Nat} {k v j : Nat} (h : j ≠ k) : nup f k v j = f j := if_neg h
theorem tdOf_push {ns : Int32} {sa : Nat → Nat} {n v : Nat} (hn : (n : Int) = ns.toInt) (h1 : (ns + 1).toInt = ns.toInt + 1) : va_up (tdOf ns sa) n (some v) = tdOf (ns + 1) (nup sa n v) := by
  funext k
  by_cases e : k = n
  · subst e
    rw [va_up_self]
    unfold tdOf
    rw [if_pos (by omega), nup_self]
  · rw [va_up_ne _ _ e]
    unfold tdOf
    rw [nup_ne e]
    by_cases h : (k : Int) < ns.toInt
    · rw [if_pos h, if_pos (by omega)]
    · rw [if_neg h, if_neg (by omega)]
theorem lq_push {ns : Int32} {lo : Nat → Option Nat} {sa : Nat → Nat} {n v : Nat} (hlo : ∀ k j : Nat, lo k = some j → (j : Int) < ns.toInt) (hn : (n : Int) = ns.toInt) : lq lo sa = lq lo (nup sa n v) := by
  funext k
  unfold lq
  cases h : lo k with
  | none => rfl
  | some j =>
    have := hlo k j h
    show some (sa j) = some (nup sa n v j)
    rw [nup_ne (by omega)]
theorem SP.push {cI cL : ClassId} {M M' : mp} {ns : Int32} {sa u1 u2 u3 u4 u5 : Nat → Nat} {σ : Nat → Stm} {n q0 q1 q2 q3 q4 q5 : Nat} {v : Stm} (h : SP cI cL M ns sa u1 u2 u3 u4 u5 σ) (hn : (n : Int) = ns.toInt) (hl : (ns + 1).toInt = ns.toInt + 1) (hk : ∀ (q : Nat) (e : va_E), M q = some e → pt (tg e) = true → M' q = M q)
    (g0 : M' q0 = some (.inr (4, [.int (st_f v), .int (st_t v), .int (st_k v), .int (st_n v), .int (st_a v), .int (st_c v), .int (st_l v), .ref q1, .ref q2, .ref q3, .ref q4, .ref q5])))
    (g1 : M' q1 = some (.inl (cI, 7, .inl (st_kc v)))) (g2 : M' q2 = some (.inl (cL, 7, .inr (.inl (st_kv v))))) (g3 : M' q3 = some (.inl (cI, 7, .inl (st_lc v)))) (g4 : M' q4 = some (.inl (cL, 7, .inr (.inl (st_fv v))))) (g5 : M' q5 = some (.inl (cL, 7, .inr (.inl (st_lz v))))) :
    SP cI cL M' (ns + 1) (nup sa n q0) (nup u1 n q1) (nup u2 n q2) (nup u3 n q3) (nup u4 n q4) (nup u5 n q5) (sup σ n v) := by
  intro i hi
  by_cases e : i = n
  · subst e
    simp only [nup_self, sup_self]
    exact ⟨g0, g1, g2, g3, g4, g5⟩
  · simp only [nup_ne e, sup_ne e]
    obtain ⟨h0, h1, h2, h3, h4, h5⟩ := h i (by omega)
    exact ⟨(hk _ _ h0 rfl).trans h0, (hk _ _ h1 rfl).trans h1, (hk _ _ h2 rfl).trans h2, (hk _ _ h3 rfl).trans h3, (hk _ _ h4 rfl).trans h4, (hk _ _ h5 rfl).trans h5⟩
/-- the statements' cells lie apart -/
def PJ (ns : Int32) (sa u1 u2 u3 u4 u5 : Nat → Nat) : Prop := ∀ i j : Nat, (i : Int) < ns.toInt → (j : Int) < ns.toInt → (sa i = sa j → i = j) ∧ (u1 i = u1 j → i = j) ∧ (u2 i = u2 j → i = j) ∧ (u3 i = u3 j → i = j) ∧ (u4 i = u4 j → i = j) ∧ (u5 i = u5 j → i = j) ∧ u1 i ≠ u3 j ∧ u2 i ≠ u4 j ∧ u2 i ≠ u5 j ∧ u4 i ≠ u5 j
theorem PJ.push {cI cL : ClassId} {M : mp} {ns : Int32} {sa u1 u2 u3 u4 u5 : Nat → Nat} {σ : Nat → Stm} {n q0 q1 q2 q3 q4 q5 : Nat} (h : SP cI cL M ns sa u1 u2 u3 u4 u5 σ) (hj : PJ ns sa u1 u2 u3 u4 u5) (hn : (n : Int) = ns.toInt) (hl : (ns + 1).toInt = ns.toInt + 1)
    (z0 : M q0 = none) (z1 : M q1 = none) (z2 : M q2 = none) (z3 : M q3 = none) (z4 : M q4 = none) (z5 : M q5 = none) (n13 : q1 ≠ q3) (n24 : q2 ≠ q4) (n25 : q2 ≠ q5) (n45 : q4 ≠ q5) : PJ (ns + 1) (nup sa n q0) (nup u1 n q1) (nup u2 n q2) (nup u3 n q3) (nup u4 n q4) (nup u5 n q5) := by
  intro i j hi hj2
  by_cases ei : i = n
  · by_cases ej : j = n
    · subst ei
      subst ej
      simp only [nup_self]
      exact ⟨fun _ => trivial, fun _ => trivial, fun _ => trivial, fun _ => trivial, fun _ => trivial, fun _ => trivial, n13, n24, n25, n45⟩
    · subst ei
      simp only [nup_self, nup_ne ej]
      obtain ⟨h0, h1, h2, h3, h4, h5⟩ := h j (by omega)
      exact ⟨fun q => absurd q.symm (ne_z h0 z0), fun q => absurd q.symm (ne_z h1 z1), fun q => absurd q.symm (ne_z h2 z2), fun q => absurd q.symm (ne_z h3 z3), fun q => absurd q.symm (ne_z h4 z4), fun q => absurd q.symm (ne_z h5 z5), Ne.symm (ne_z h3 z1), Ne.symm (ne_z h4 z2), Ne.symm (ne_z h5 z2), Ne.symm (ne_z h5 z4)⟩
  · by_cases ej : j = n
    · subst ej
      simp only [nup_self, nup_ne ei]
      obtain ⟨h0, h1, h2, h3, h4, h5⟩ := h i (by omega)
      exact ⟨fun q => absurd q (ne_z h0 z0), fun q => absurd q (ne_z h1 z1), fun q => absurd q (ne_z h2 z2), fun q => absurd q (ne_z h3 z3), fun q => absurd q (ne_z h4 z4), fun q => absurd q (ne_z h5 z5), ne_z h1 z3, ne_z h2 z4, ne_z h2 z5, ne_z h4 z5⟩
    · simp only [nup_ne ei, nup_ne ej]
      exact hj i j (by omega) (by omega)
theorem SP.sup {cI cL : ClassId} {M M' : mp} {ns : Int32} {sa u1 u2 u3 u4 u5 : Nat → Nat} {σ : Nat → Stm} {i0 : Nat} {v : Stm} (h : SP cI cL M ns sa u1 u2 u3 u4 u5 σ) (hj : PJ ns sa u1 u2 u3 u4 u5) (hi0 : (i0 : Int) < ns.toInt)
    (g0 : M' (sa i0) = some (.inr (4, [.int (st_f v), .int (st_t v), .int (st_k v), .int (st_n v), .int (st_a v), .int (st_c v), .int (st_l v), .ref (u1 i0), .ref (u2 i0), .ref (u3 i0), .ref (u4 i0), .ref (u5 i0)])))
    (g1 : M' (u1 i0) = some (.inl (cI, 7, .inl (st_kc v)))) (g2 : M' (u2 i0) = some (.inl (cL, 7, .inr (.inl (st_kv v))))) (g3 : M' (u3 i0) = some (.inl (cI, 7, .inl (st_lc v)))) (g4 : M' (u4 i0) = some (.inl (cL, 7, .inr (.inl (st_fv v))))) (g5 : M' (u5 i0) = some (.inl (cL, 7, .inr (.inl (st_lz v)))))
    (hk : ∀ (q : Nat) (e : va_E), M q = some e → pt (tg e) = true → q ≠ sa i0 → q ≠ u1 i0 → q ≠ u2 i0 → q ≠ u3 i0 → q ≠ u4 i0 → q ≠ u5 i0 → M' q = M q) : SP cI cL M' ns sa u1 u2 u3 u4 u5 (sup σ i0 v) := by
  intro j hjl
  by_cases e : j = i0
  · subst e
    rw [sup_self]
    exact ⟨g0, g1, g2, g3, g4, g5⟩
  · rw [sup_ne e]
    obtain ⟨h0, h1, h2, h3, h4, h5⟩ := h j hjl
    obtain ⟨b0, b1, b2, b3, b4, b5⟩ := h i0 hi0
    obtain ⟨p0, p1, p2, p3, p4, p5, p6, p7, p8, p9⟩ := hj j i0 hjl hi0
    obtain ⟨-, -, -, -, -, -, r6, r7, r8, r9⟩ := hj i0 j hi0 hjl
    refine ⟨?_, ?_, ?_, ?_, ?_, ?_⟩
    · exact (hk _ _ h0 rfl (fun q => e (p0 q)) (ne_k h0 b1 (i := 4) (j := 1007) rfl rfl (by decide)) (ne_k h0 b2 (i := 4) (j := 100007) rfl rfl (by decide)) (ne_k h0 b3 (i := 4) (j := 1007) rfl rfl (by decide)) (ne_k h0 b4 (i := 4) (j := 100007) rfl rfl (by decide)) (ne_k h0 b5 (i := 4) (j := 100007) rfl rfl (by decide))).trans h0
    · exact (hk _ _ h1 rfl (ne_k h1 b0 (i := 1007) (j := 4) rfl rfl (by decide)) (fun q => e (p1 q)) (ne_k h1 b2 (i := 1007) (j := 100007) rfl rfl (by decide)) p6 (ne_k h1 b4 (i := 1007) (j := 100007) rfl rfl (by decide)) (ne_k h1 b5 (i := 1007) (j := 100007) rfl rfl (by decide))).trans h1
    · exact (hk _ _ h2 rfl (ne_k h2 b0 (i := 100007) (j := 4) rfl rfl (by decide)) (ne_k h2 b1 (i := 100007) (j := 1007) rfl rfl (by decide)) (fun q => e (p2 q)) (ne_k h2 b3 (i := 100007) (j := 1007) rfl rfl (by decide)) p7 p8).trans h2
    · exact (hk _ _ h3 rfl (ne_k h3 b0 (i := 1007) (j := 4) rfl rfl (by decide)) (Ne.symm r6) (ne_k h3 b2 (i := 1007) (j := 100007) rfl rfl (by decide)) (fun q => e (p3 q)) (ne_k h3 b4 (i := 1007) (j := 100007) rfl rfl (by decide)) (ne_k h3 b5 (i := 1007) (j := 100007) rfl rfl (by decide))).trans h3
    · exact (hk _ _ h4 rfl (ne_k h4 b0 (i := 100007) (j := 4) rfl rfl (by decide)) (ne_k h4 b1 (i := 100007) (j := 1007) rfl rfl (by decide)) (Ne.symm r7) (ne_k h4 b3 (i := 100007) (j := 1007) rfl rfl (by decide)) (fun q => e (p4 q)) p9).trans h4
    · exact (hk _ _ h5 rfl (ne_k h5 b0 (i := 100007) (j := 4) rfl rfl (by decide)) (ne_k h5 b1 (i := 100007) (j := 1007) rfl rfl (by decide)) (Ne.symm r8) (ne_k h5 b3 (i := 100007) (j := 1007) rfl rfl (by decide)) (Ne.symm r9) (fun q => e (p5 q))).trans h5
section RPL
variable {np ns : Int32} {dd gd : Nat → Int32} {σ : Nat → Stm} {vdoes vgos vfrom vto vkind vtimes vcond vlev vask vcc vvar : Nat → Int32} {vleast vfirst vstep : Nat → Int64}
theorem rp_fr (H : RP np ns dd gd σ vdoes vgos vfrom vto vkind vtimes vcond vlev vask vcc vvar vleast vfirst vstep) : ∀ i : Nat, 1 ≤ i → (i : Int) ≤ ns.toInt → 1 ≤ (vfrom i).toInt := fun i h1 h2 => by
  obtain ⟨j, rfl⟩ : ∃ j, i = j + 1 := ⟨i - 1, by omega⟩
  have h := H.1.2.2 j (by omega)
  rw [h.1.1]
  exact h.2.1
theorem rp_sl (H : RP np ns dd gd σ vdoes vgos vfrom vto vkind vtimes vcond vlev vask vcc vvar vleast vfirst vstep) : ∀ i : Nat, (i : Int) < ns.toInt → (st_l (σ i)).toInt ≤ 7 := fun i h => (H.1.2.2 i h).1.2.2.2.2.2.2.2.2.2.1
end RPL
theorem lg_same {fo : Nat → Int64} {v w : Int64} (h : v = w) : lg_cmp (vp_updL fo 0 v (0 : Int32).toNatClampNeg) w = 0 := (lg_cmp_eq _ _).mpr (by
  rw [show (0 : Int32).toNatClampNeg = 0 from rfl, pk_uls]
  exact h)
theorem v_get {f : Nat → Int64} {x : Int32} (h : ¬ sp_isCell x = 0) : sp_Cells_value f x = sp_M_get f x := by
  unfold sp_Cells_value sp_M_get
  rw [e_cell, if_neg h]
  unfold sp_isCell at h
  by_cases h1 : x < 0
  · rw [if_pos h1] at h
    exact absurd rfl h
  · rw [if_neg h1] at h ⊢
    by_cases h2 : 16 ≤ x
    · rw [if_pos h2] at h
      exact absurd rfl h
    · rw [if_neg h2]
theorem v_put {f : Nat → Int64} {x : Int32} {y : Int64} (h : ¬ sp_isCell x = 0) : sp_Cells_become_va f x y = vp_updL f x.toNatClampNeg y := by
  unfold sp_Cells_become_va
  unfold sp_isCell at h
  by_cases h1 : x < 0
  · rw [if_pos h1] at h
    exact absurd rfl h
  · rw [if_neg h1] at h ⊢
    by_cases h2 : 16 ≤ x
    · rw [if_pos h2] at h
      exact absurd rfl h
    · rw [if_neg h2]
/-- what holds between two calls of the law: the class and the reference hold the same -/
def INV (cI cL cQ cB : ClassId) (px pg lt tr dg gg tg0 ce va pi la pe tu ra ce2 va2 pi2 la2 pe2 tu2 ra2 mo ou : Nat) (ad : Nat → Nat) (sa u1 u2 u3 u4 u5 : Nat → Nat) (σ : Nat → Stm) (np : Int32) (ns : Int32) (ln : Int32) (en : Int32) (ln2 : Int32) (en2 : Int32) (hh : Int32) (hi : Int32) (hh2 : Int32) (hi2 : Int32) (dd : Nat → Int32) (gd : Nat → Int32) (f : Nat → Int64) (f2 : Nat → Int64) (lo : Nat → Option Nat) (lo2 : Nat → Option Nat) (pd : Nat → Int32) (ud : Nat → Int32) (rd : Nat → Int32) (pd2 : Nat → Int32) (ud2 : Nat → Int32) (rd2 : Nat → Int32) (fo : Nat → Int64) (xcode : Int32) (vkept : Nat → Int64) (vdoes : Nat → Int32) (vgos : Nat → Int32) (vfrom : Nat → Int32) (vto : Nat → Int32) (vkind : Nat → Int32) (vtimes : Nat → Int32) (vcond : Nat → Int32) (vlev : Nat → Int32) (vask : Nat → Int32) (vcc : Nat → Int32) (vvar : Nat → Int32) (vleast : Nat → Int64) (vfirst : Nat → Int64) (vstep : Nat → Int64) (vpile : Nat → Int32) (vcall : Nat → Int32) (vleft : Nat → Int32) (xsize : Int32) (xmost : Int32) (xend : Int32) (xran : Int32) (vord : Nat → Int32) (vlord : Nat → Int32) (vlpile : Nat → Int32) (M : mp) : Prop :=
  M px = some (.inr (5, [.ref pg, .ref lt, .ref tr])) ∧ M pg = some (.inr (3, [.ref dg, .ref gg, .ref tg0, .int np, .int ns])) ∧ M lt = some (.inr (1, [.ref pg, .ref ce, .ref pi, .ref ra, .int ln, .int en])) ∧ M tr = some (.inr (1, [.ref pg, .ref ce2, .ref pi2, .ref ra2, .int ln2, .int en2])) ∧ M dg = some (.inl (cI, 60, .inl dd)) ∧ M gg = some (.inl (cI, 60, .inl gd)) ∧ M tg0 = some (.inl (cQ, 60, .inr (.inr (.inr (.inr (tdOf ns sa)))))) ∧ M ce = some (.inr (0, [.ref va])) ∧ M va = some (.inl (cL, 16, .inr (.inl f))) ∧ M pi = some (.inr (2, [.ref la, .ref pe, .ref tu, .int hh, .int hi])) ∧ M la = some (.inl (cQ, 100, .inr (.inr (.inr (.inr (lq lo sa)))))) ∧ M pe = some (.inl (cI, 100, .inl pd)) ∧ M tu = some (.inl (cI, 100, .inl ud)) ∧ M ra = some (.inl (cI, 4096, .inl rd)) ∧ M ce2 = some (.inr (0, [.ref va2])) ∧ M va2 = some (.inl (cL, 16, .inr (.inl f2))) ∧ M pi2 = some (.inr (2, [.ref la2, .ref pe2, .ref tu2, .int hh2, .int hi2])) ∧ M la2 = some (.inl (cQ, 100, .inr (.inr (.inr (.inr (lq lo2 sa)))))) ∧ M pe2 = some (.inl (cI, 100, .inl pd2)) ∧ M tu2 = some (.inl (cI, 100, .inl ud2)) ∧ M ra2 = some (.inl (cI, 0, .inl rd2)) ∧ M mo = some (.inr (6, [.int xcode, .ref (ad 1), .ref (ad 2), .int np, .int ns, .ref (ad 5), .ref (ad 6), .ref (ad 7), .ref (ad 8), .ref (ad 9), .ref (ad 10), .ref (ad 11), .ref (ad 12), .ref (ad 13), .ref (ad 14), .ref (ad 15), .ref (ad 16), .ref (ad 17), .ref (ad 18), .ref (ad 19), .ref (ad 20), .ref (ad 21), .int xsize, .int xmost, .int xend, .int xran, .ref (ad 26), .int en, .int hh, .int hi, .int ln, .ref (ad 31), .ref (ad 32)])) ∧ M (ad 1) = some (.inl (cL, 16, .inr (.inl f))) ∧ M (ad 2) = some (.inl (cL, 16, .inr (.inl vkept))) ∧ M (ad 5) = some (.inl (cI, 61, .inl vdoes)) ∧ M (ad 6) = some (.inl (cI, 61, .inl vgos)) ∧ M (ad 7) = some (.inl (cI, 61, .inl vfrom)) ∧ M (ad 8) = some (.inl (cI, 61, .inl vto)) ∧ M (ad 9) = some (.inl (cI, 61, .inl vkind)) ∧ M (ad 10) = some (.inl (cI, 61, .inl vtimes)) ∧ M (ad 11) = some (.inl (cI, 61, .inl vcond)) ∧ M (ad 12) = some (.inl (cI, 61, .inl vlev)) ∧ M (ad 13) = some (.inl (cB, 61, .inl vask)) ∧ M (ad 14) = some (.inl (cI, 488, .inl vcc)) ∧ M (ad 15) = some (.inl (cI, 488, .inl vvar)) ∧ M (ad 16) = some (.inl (cL, 488, .inr (.inl vleast))) ∧ M (ad 17) = some (.inl (cL, 488, .inr (.inl vfirst))) ∧ M (ad 18) = some (.inl (cL, 488, .inr (.inl vstep))) ∧ M (ad 19) = some (.inl (cI, 101, .inl vpile)) ∧ M (ad 20) = some (.inl (cI, 101, .inl vcall)) ∧ M (ad 21) = some (.inl (cI, 101, .inl vleft)) ∧ M (ad 26) = some (.inl (cI, 4097, .inl vord)) ∧ M (ad 31) = some (.inl (cI, 4097, .inl vlord)) ∧ M (ad 32) = some (.inl (cI, 101, .inl vlpile)) ∧ M ou = some (.inl (cL, 1, .inr (.inl fo))) ∧ SP cI cL M ns sa u1 u2 u3 u4 u5 σ ∧ PJ ns sa u1 u2 u3 u4 u5 ∧ RP np ns dd gd σ vdoes vgos vfrom vto vkind vtimes vcond vlev vask vcc vvar vleast vfirst vstep ∧ RQ ns vfrom vkind vlev vpile vcall ∧ RR ns ln hh hi hi2 rd lo lo2 vlord vlpile
theorem INV.mk {cI cL cQ cB : ClassId} {px pg lt tr dg gg tg0 ce va pi la pe tu ra ce2 va2 pi2 la2 pe2 tu2 ra2 mo ou : Nat} {ad : Nat → Nat} {sa u1 u2 u3 u4 u5 : Nat → Nat} {σ : Nat → Stm} {np : Int32} {ns : Int32} {ln : Int32} {en : Int32} {ln2 : Int32} {en2 : Int32} {hh : Int32} {hi : Int32} {hh2 : Int32} {hi2 : Int32} {dd : Nat → Int32} {gd : Nat → Int32} {f : Nat → Int64} {f2 : Nat → Int64} {lo : Nat → Option Nat} {lo2 : Nat → Option Nat} {pd : Nat → Int32} {ud : Nat → Int32} {rd : Nat → Int32} {pd2 : Nat → Int32} {ud2 : Nat → Int32} {rd2 : Nat → Int32} {fo : Nat → Int64} {xcode : Int32} {vkept : Nat → Int64} {vdoes : Nat → Int32} {vgos : Nat → Int32} {vfrom : Nat → Int32} {vto : Nat → Int32} {vkind : Nat → Int32} {vtimes : Nat → Int32} {vcond : Nat → Int32} {vlev : Nat → Int32} {vask : Nat → Int32} {vcc : Nat → Int32} {vvar : Nat → Int32} {vleast : Nat → Int64} {vfirst : Nat → Int64} {vstep : Nat → Int64} {vpile : Nat → Int32} {vcall : Nat → Int32} {vleft : Nat → Int32} {xsize : Int32} {xmost : Int32} {xend : Int32} {xran : Int32} {vord : Nat → Int32} {vlord : Nat → Int32} {vlpile : Nat → Int32} {M : mp} (g_px : M px = some (.inr (5, [.ref pg, .ref lt, .ref tr]))) (g_pg : M pg = some (.inr (3, [.ref dg, .ref gg, .ref tg0, .int np, .int ns]))) (g_lt : M lt = some (.inr (1, [.ref pg, .ref ce, .ref pi, .ref ra, .int ln, .int en]))) (g_tr : M tr = some (.inr (1, [.ref pg, .ref ce2, .ref pi2, .ref ra2, .int ln2, .int en2]))) (g_dg : M dg = some (.inl (cI, 60, .inl dd))) (g_gg : M gg = some (.inl (cI, 60, .inl gd))) (g_tg0 : M tg0 = some (.inl (cQ, 60, .inr (.inr (.inr (.inr (tdOf ns sa))))))) (g_ce : M ce = some (.inr (0, [.ref va]))) (g_va : M va = some (.inl (cL, 16, .inr (.inl f)))) (g_pi : M pi = some (.inr (2, [.ref la, .ref pe, .ref tu, .int hh, .int hi]))) (g_la : M la = some (.inl (cQ, 100, .inr (.inr (.inr (.inr (lq lo sa))))))) (g_pe : M pe = some (.inl (cI, 100, .inl pd))) (g_tu : M tu = some (.inl (cI, 100, .inl ud))) (g_ra : M ra = some (.inl (cI, 4096, .inl rd))) (g_ce2 : M ce2 = some (.inr (0, [.ref va2]))) (g_va2 : M va2 = some (.inl (cL, 16, .inr (.inl f2)))) (g_pi2 : M pi2 = some (.inr (2, [.ref la2, .ref pe2, .ref tu2, .int hh2, .int hi2]))) (g_la2 : M la2 = some (.inl (cQ, 100, .inr (.inr (.inr (.inr (lq lo2 sa))))))) (g_pe2 : M pe2 = some (.inl (cI, 100, .inl pd2))) (g_tu2 : M tu2 = some (.inl (cI, 100, .inl ud2))) (g_ra2 : M ra2 = some (.inl (cI, 0, .inl rd2))) (g_mo : M mo = some (.inr (6, [.int xcode, .ref (ad 1), .ref (ad 2), .int np, .int ns, .ref (ad 5), .ref (ad 6), .ref (ad 7), .ref (ad 8), .ref (ad 9), .ref (ad 10), .ref (ad 11), .ref (ad 12), .ref (ad 13), .ref (ad 14), .ref (ad 15), .ref (ad 16), .ref (ad 17), .ref (ad 18), .ref (ad 19), .ref (ad 20), .ref (ad 21), .int xsize, .int xmost, .int xend, .int xran, .ref (ad 26), .int en, .int hh, .int hi, .int ln, .ref (ad 31), .ref (ad 32)]))) (g_ad1 : M (ad 1) = some (.inl (cL, 16, .inr (.inl f)))) (g_ad2 : M (ad 2) = some (.inl (cL, 16, .inr (.inl vkept)))) (g_ad5 : M (ad 5) = some (.inl (cI, 61, .inl vdoes))) (g_ad6 : M (ad 6) = some (.inl (cI, 61, .inl vgos))) (g_ad7 : M (ad 7) = some (.inl (cI, 61, .inl vfrom))) (g_ad8 : M (ad 8) = some (.inl (cI, 61, .inl vto))) (g_ad9 : M (ad 9) = some (.inl (cI, 61, .inl vkind))) (g_ad10 : M (ad 10) = some (.inl (cI, 61, .inl vtimes))) (g_ad11 : M (ad 11) = some (.inl (cI, 61, .inl vcond))) (g_ad12 : M (ad 12) = some (.inl (cI, 61, .inl vlev))) (g_ad13 : M (ad 13) = some (.inl (cB, 61, .inl vask))) (g_ad14 : M (ad 14) = some (.inl (cI, 488, .inl vcc))) (g_ad15 : M (ad 15) = some (.inl (cI, 488, .inl vvar))) (g_ad16 : M (ad 16) = some (.inl (cL, 488, .inr (.inl vleast)))) (g_ad17 : M (ad 17) = some (.inl (cL, 488, .inr (.inl vfirst)))) (g_ad18 : M (ad 18) = some (.inl (cL, 488, .inr (.inl vstep)))) (g_ad19 : M (ad 19) = some (.inl (cI, 101, .inl vpile))) (g_ad20 : M (ad 20) = some (.inl (cI, 101, .inl vcall))) (g_ad21 : M (ad 21) = some (.inl (cI, 101, .inl vleft))) (g_ad26 : M (ad 26) = some (.inl (cI, 4097, .inl vord))) (g_ad31 : M (ad 31) = some (.inl (cI, 4097, .inl vlord))) (g_ad32 : M (ad 32) = some (.inl (cI, 101, .inl vlpile))) (g_ou : M ou = some (.inl (cL, 1, .inr (.inl fo)))) (hp : SP cI cL M ns sa u1 u2 u3 u4 u5 σ) (hj : PJ ns sa u1 u2 u3 u4 u5) (HP : RP np ns dd gd σ vdoes vgos vfrom vto vkind vtimes vcond vlev vask vcc vvar vleast vfirst vstep) (HQ : RQ ns vfrom vkind vlev vpile vcall) (HR : RR ns ln hh hi hi2 rd lo lo2 vlord vlpile) : INV cI cL cQ cB px pg lt tr dg gg tg0 ce va pi la pe tu ra ce2 va2 pi2 la2 pe2 tu2 ra2 mo ou ad sa u1 u2 u3 u4 u5 σ np ns ln en ln2 en2 hh hi hh2 hi2 dd gd f f2 lo lo2 pd ud rd pd2 ud2 rd2 fo xcode vkept vdoes vgos vfrom vto vkind vtimes vcond vlev vask vcc vvar vleast vfirst vstep vpile vcall vleft xsize xmost xend xran vord vlord vlpile M := ⟨g_px, g_pg, g_lt, g_tr, g_dg, g_gg, g_tg0, g_ce, g_va, g_pi, g_la, g_pe, g_tu, g_ra, g_ce2, g_va2, g_pi2, g_la2, g_pe2, g_tu2, g_ra2, g_mo, g_ad1, g_ad2, g_ad5, g_ad6, g_ad7, g_ad8, g_ad9, g_ad10, g_ad11, g_ad12, g_ad13, g_ad14, g_ad15, g_ad16, g_ad17, g_ad18, g_ad19, g_ad20, g_ad21, g_ad26, g_ad31, g_ad32, g_ou, hp, hj, HP, HQ, HR⟩
/-- what stands fast while the law runs -/
def LX (p : Program) (l : Launch) (m : MethodId) (c : Code) (s : State) (args : Array Value) (z : Cond) (D : va_G) (cI cL cQ cB : ClassId) (b L : Nat) (xs : Nat → Int32) (px pg lt tr dg gg tg0 ce va pi la pe tu ra ce2 va2 pi2 la2 pe2 tu2 ra2 mo ou : Nat) (ad : Nat → Nat) : Prop :=
  (CallFix p m c code 8 s args (z :: GW) "PerformRangesLaw") ∧ (KK D cls7 (tysOf cI cL cQ cB) NW s) ∧ (ZW s.heap s) ∧ (l.flags = flags0) ∧ (va_X b L xs s s.heap) ∧ (b < s.heap.size) ∧ (∀ i j : Nat, i < 33 → j < 33 → ad i = ad j → i = j) ∧ (pe ≠ tu) ∧ (dg ≠ gg) ∧ (lt ≠ tr) ∧ (ce ≠ ce2) ∧ (va ≠ va2) ∧ (pe2 ≠ tu2) ∧ (pi ≠ pi2) ∧ (la ≠ la2) ∧ (pe ≠ pe2) ∧ (pe ≠ tu2) ∧ (tu ≠ pe2) ∧ (tu ≠ tu2) ∧ (va ≠ ad 1) ∧ (va ≠ ad 2) ∧ (va2 ≠ ad 1) ∧ (va2 ≠ ad 2)
theorem LX.mk {p : Program} {l : Launch} {m : MethodId} {c : Code} {s : State} {args : Array Value} {z : Cond} {D : va_G} {b L : Nat} {xs : Nat → Int32} {cI cL cQ cB : ClassId} {px pg lt tr dg gg tg0 ce va pi la pe tu ra ce2 va2 pi2 la2 pe2 tu2 ra2 mo ou : Nat} {ad : Nat → Nat} (X : CallFix p m c code 8 s args (z :: GW) "PerformRangesLaw") (hK : KK D cls7 (tysOf cI cL cQ cB) NW s) (hZ : ZW s.heap s) (hfl : l.flags = flags0) (hX : va_X b L xs s s.heap) (hbl : b < s.heap.size) (hinj : ∀ i j : Nat, i < 33 → j < 33 → ad i = ad j → i = j) (ne0 : pe ≠ tu) (ne1 : dg ≠ gg) (ne2 : lt ≠ tr) (ne3 : ce ≠ ce2) (ne4 : va ≠ va2) (ne5 : pe2 ≠ tu2) (ne6 : pi ≠ pi2) (ne7 : la ≠ la2) (ne8 : pe ≠ pe2) (ne9 : pe ≠ tu2) (ne10 : tu ≠ pe2) (ne11 : tu ≠ tu2) (ne12 : va ≠ ad 1) (ne13 : va ≠ ad 2) (ne14 : va2 ≠ ad 1) (ne15 : va2 ≠ ad 2) : LX p l m c s args z D cI cL cQ cB b L xs px pg lt tr dg gg tg0 ce va pi la pe tu ra ce2 va2 pi2 la2 pe2 tu2 ra2 mo ou ad := ⟨X, hK, hZ, hfl, hX, hbl, hinj, ne0, ne1, ne2, ne3, ne4, ne5, ne6, ne7, ne8, ne9, ne10, ne11, ne12, ne13, ne14, ne15⟩
def SX (L : Nat) (xs : Nat → Int32) (i x1 x2 x3 x4 x5 x6 x7 : Int32) : Prop := (vp_in (i + 1) L ∧ xs (i + 1).toNatClampNeg = x1) ∧ (vp_in (i + 2) L ∧ xs (i + 2).toNatClampNeg = x2) ∧ (vp_in (i + 3) L ∧ xs (i + 3).toNatClampNeg = x3) ∧ (vp_in (i + 4) L ∧ xs (i + 4).toNatClampNeg = x4) ∧ (vp_in (i + 5) L ∧ xs (i + 5).toNatClampNeg = x5) ∧ (vp_in (i + 6) L ∧ xs (i + 6).toNatClampNeg = x6) ∧ (vp_in (i + 7) L ∧ xs (i + 7).toNatClampNeg = x7)
