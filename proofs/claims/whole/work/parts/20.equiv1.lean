/-! EQUIVALENCE, statement by statement: what the class's specs and the reference's say is one thing. -/
theorem i_lt {x c : Int32} {k : Int} (hc : c.toInt = k) (h : x.toInt < k) : x < c := Int32.lt_iff_toInt_lt.mpr (by omega)
theorem i_nlt {x c : Int32} {k : Int} (hc : c.toInt = k) (h : k ≤ x.toInt) : ¬ x < c := fun e => by have := Int32.lt_iff_toInt_lt.mp e; omega
theorem i_gt {x c : Int32} {k : Int} (hc : c.toInt = k) (h : k < x.toInt) : c < x := Int32.lt_iff_toInt_lt.mpr (by omega)
theorem i_ngt {x c : Int32} {k : Int} (hc : c.toInt = k) (h : x.toInt ≤ k) : ¬ c < x := fun e => by have := Int32.lt_iff_toInt_lt.mp e; omega
theorem i_le {x c : Int32} {k : Int} (hc : c.toInt = k) (h : x.toInt ≤ k) : x ≤ c := Int32.le_iff_toInt_le.mpr (by omega)
theorem i_nle {x c : Int32} {k : Int} (hc : c.toInt = k) (h : k < x.toInt) : ¬ x ≤ c := fun e => by have := Int32.le_iff_toInt_le.mp e; omega
theorem i_ge {x c : Int32} {k : Int} (hc : c.toInt = k) (h : k ≤ x.toInt) : c ≤ x := Int32.le_iff_toInt_le.mpr (by omega)
theorem i_nge {x c : Int32} {k : Int} (hc : c.toInt = k) (h : x.toInt < k) : ¬ c ≤ x := fun e => by have := Int32.le_iff_toInt_le.mp e; omega
theorem i_eq {x c : Int32} {k : Int} (hc : c.toInt = k) (h : x.toInt = k) : x = c := Int32.toInt_inj.mp (by omega)
theorem i_ne {x c : Int32} {k : Int} (hc : c.toInt = k) (h : ¬ x.toInt = k) : ¬ x = c := fun e => by subst e; exact h hc
theorem q_ix {s y : Int32} {i : Nat} (hs : s.toInt = (i : Int) + 1) (hi : i < 60) (h1 : 1 ≤ y.toInt) (h2 : y.toInt ≤ 7) : (((8 * (s - 1)) + y) - 1).toNatClampNeg = 8 * i + (y - 1).toNatClampNeg ∧ (y - 1).toNatClampNeg < 7 := by
  have a1 : (s - 1).toInt = s.toInt - 1 := i32_sub1 (by omega)
  have a2 : (8 * (s - 1)).toInt = 8 * (s - 1).toInt := i32_mul8 (by omega) (by omega)
  have a3 : ((8 * (s - 1)) + y).toInt = (8 * (s - 1)).toInt + y.toInt := i32_add (by omega) (by omega)
  have a4 : (((8 * (s - 1)) + y) - 1).toInt = ((8 * (s - 1)) + y).toInt - 1 := i32_sub1 (by omega)
  have a5 : (y - 1).toInt = y.toInt - 1 := i32_sub1 (by omega)
  have b1 := clampI (x := ((8 * (s - 1)) + y) - 1) (by omega)
  have b2 := clampI (x := y - 1) (by omega)
  constructor <;> omega
/-- what the reference's rows hold of the statement i -/
def R7 (i : Nat) (kc lc vcc vvar : Nat → Int32) (kv fv lz vleast vfirst vstep : Nat → Int64) : Prop :=
  (∀ k : Nat, k < 7 → vcc (8 * i + k) = kc k ∧ vleast (8 * i + k) = kv k ∧ vvar (8 * i + k) = lc k ∧ vfirst (8 * i + k) = fv k ∧ vstep (8 * i + k) = lz k) ∧
  ∀ k : Nat, (0 ≤ (kc k).toInt ∧ (kc k).toInt ≤ 15) ∧ 0 ≤ (lc k).toInt ∧ (lc k).toInt ≤ 15
section EQ1
variable {i : Nat} {s : Int32} {kc lc vcc vvar : Nat → Int32} {kv fv lz vleast vfirst vstep : Nat → Int64}
theorem q_holds (h : R7 i kc lc vcc vvar kv fv lz vleast vfirst vstep) (hs : s.toInt = (i : Int) + 1) (hi : i < 60) {y : Int32} (h1 : 1 ≤ y.toInt) (h2 : y.toInt ≤ 7) (f : Nat → Int64) : sp_holds kc kv f y = sp_M_holds f vcc vleast s y := by
  obtain ⟨e, hlt⟩ := q_ix hs hi h1 h2
  obtain ⟨e1, e2, -⟩ := h.1 _ hlt
  have r := (h.2 (y - 1).toNatClampNeg).1
  unfold sp_holds sp_M_holds
  rw [if_neg (i_nlt (k := 1) rfl h1), if_pos (i_le (k := 7) rfl h2), e, e1, e2, sp_Cells_value, if_neg (i_nlt (k := 0) rfl r.1), if_neg (i_nge (k := 16) rfl (by omega))]
theorem q_begin (h : R7 i kc lc vcc vvar kv fv lz vleast vfirst vstep) (hs : s.toInt = (i : Int) + 1) (hi : i < 60) {y : Int32} (h1 : 1 ≤ y.toInt) (h2 : y.toInt ≤ 7) (f : Nat → Int64) : sp_Cells_become_va f (lc (y - 1).toNatClampNeg) (fv (y - 1).toNatClampNeg) = vp_updL f (vvar (((8 * (s - 1)) + y) - 1).toNatClampNeg).toNatClampNeg (vfirst (((8 * (s - 1)) + y) - 1).toNatClampNeg) := by
  obtain ⟨e, hlt⟩ := q_ix hs hi h1 h2
  obtain ⟨-, -, e3, e4, -⟩ := h.1 _ hlt
  have r := (h.2 (y - 1).toNatClampNeg).2
  rw [e, e3, e4, sp_Cells_become_va, if_neg (i_nlt (k := 0) rfl r.1), if_neg (i_nge (k := 16) rfl (by omega))]
theorem q_goOn (h : R7 i kc lc vcc vvar kv fv lz vleast vfirst vstep) (hs : s.toInt = (i : Int) + 1) (hi : i < 60) {y : Int32} (h1 : 1 ≤ y.toInt) (h2 : y.toInt ≤ 7) (f : Nat → Int64) : sp_takeStep_va lc lz f y = vp_updL f (vvar (((8 * (s - 1)) + y) - 1).toNatClampNeg).toNatClampNeg ((f (vvar (((8 * (s - 1)) + y) - 1).toNatClampNeg).toNatClampNeg) + (vstep (((8 * (s - 1)) + y) - 1).toNatClampNeg)) := by
  obtain ⟨e, hlt⟩ := q_ix hs hi h1 h2
  obtain ⟨-, -, e3, -, e5⟩ := h.1 _ hlt
  have r := (h.2 (y - 1).toNatClampNeg).2
  rw [e, e3, e5, sp_takeStep_va, if_neg (i_nlt (k := 1) rfl h1), if_neg (i_ngt (k := 7) rfl h2), sp_Cells_grow_va, if_neg (i_nlt (k := 0) rfl r.1), if_neg (i_nge (k := 16) rfl (by omega))]
/-- first values from a level on: the class's loop and the reference's -/
theorem q_first (h : R7 i kc lc vcc vvar kv fv lz vleast vfirst vstep) (hs : s.toInt = (i : Int) + 1) (hi : i < 60) {sl : Int32} {vlev : Nat → Int32} (hl : vlev s.toNatClampNeg = sl) (hl7 : sl.toInt ≤ 7) : ∀ (n : Nat) (k : Int32) (g : Nat → Int64), 1 ≤ k.toInt → lp_takeFirstValues_va sl lc fv n k g = il_M_goesAhead_71_g3 vlev vvar vfirst s n k g
  | 0, _, _, _ => rfl
  | n + 1, k, g, hk => by
    rw [lp_takeFirstValues_va, il_M_goesAhead_71_g3, hl]
    by_cases c : sl < k
    · rw [if_pos c, if_pos c]
    · have c' := mt Int32.lt_iff_toInt_lt.mpr c
      rw [if_neg c, if_neg c, if_neg (i_ngt (k := 7) rfl (by omega)), q_begin h hs hi hk (by omega)]
      exact q_first h hs hi hl hl7 n (k + 1) _ (by rw [i32_add1 (by omega)]; omega)
theorem q_first_b (vlev : Nat → Int32) : ∀ (n : Nat) (k : Int32) (g : Nat → Int64), il_M_goesBehind_51_g3 vlev vvar vfirst s n k g = il_M_goesAhead_71_g3 vlev vvar vfirst s n k g
  | 0, _, _ => rfl
  | n + 1, k, g => by
    rw [il_M_goesBehind_51_g3, il_M_goesAhead_71_g3]
    by_cases c : vlev s.toNatClampNeg < k
    · rw [if_pos c, if_pos c]
    · rw [if_neg c, if_neg c]
      exact q_first_b vlev n _ _
theorem q_first_a {vlev vpile : Nat → Int32} {xsize : Int32} (hp : vpile xsize.toNatClampNeg = s) : ∀ (n : Nat) (k : Int32) (g : Nat → Int64), il_M_goesAgain_107_g3 xsize vlev vvar vfirst vpile 1 n k g = il_M_goesAhead_71_g3 vlev vvar vfirst s n k g
  | 0, _, _ => rfl
  | n + 1, k, g => by
    rw [il_M_goesAgain_107_g3, il_M_goesAhead_71_g3, hp]
    by_cases c : vlev s.toNatClampNeg < k
    · rw [if_pos c, if_pos c]
    · rw [if_neg c, if_neg c, if_neg (show ¬ (1 : Int32) = 0 by decide)]
      exact q_first_a hp n _ _
theorem q_first_0 {vlev vpile : Nat → Int32} {xsize : Int32} (n : Nat) (k : Int32) (g : Nat → Int64) : il_M_goesAgain_107_g3 xsize vlev vvar vfirst vpile 0 n k g = g := by
  cases n with
  | zero => rfl
  | succ n =>
    rw [il_M_goesAgain_107_g3]
    by_cases c : vlev (vpile xsize.toNatClampNeg).toNatClampNeg < k
    · rw [if_pos c]
    · rw [if_neg c, if_pos rfl]
/-- the first level that holds: upwards by the class, downwards by the reference -/
theorem q_fl_snoc {sl sl' : Int32} {f : Nat → Int64} (h1 : sl'.toInt = sl.toInt + 1) : ∀ (n : Nat) (k : Int32), 1 ≤ k.toInt → k.toInt ≤ sl'.toInt → sl'.toInt ≤ 7 → 9 ≤ k.toInt + n → lp_firstLevel sl' kc kv f n k = if lp_firstLevel sl kc kv f n k = 0 then (if sp_holds kc kv f sl' = 0 then 0 else sl') else lp_firstLevel sl kc kv f n k
  | 0, k, a, b, c, d => by omega
  | n + 1, k, a, b, c, d => by
    rw [lp_firstLevel, lp_firstLevel]
    have e1 : ¬ sl' < k := fun e => by have := Int32.lt_iff_toInt_lt.mp e; omega
    rw [if_neg e1]
    by_cases hk : sl < k
    · have hk' := Int32.lt_iff_toInt_lt.mp hk
      have e2 : k = sl' := Int32.toInt_inj.mp (by omega)
      subst e2
      rw [if_pos hk, if_pos rfl]
      by_cases hh : sp_holds kc kv f k = 0
      · rw [if_pos hh, if_pos hh]
        cases n with
        | zero => rfl
        | succ n =>
          rw [lp_firstLevel, if_pos]
          have : (k + 1).toInt = k.toInt + 1 := i32_add1 (by omega)
          exact Int32.lt_iff_toInt_lt.mpr (by omega)
      · rw [if_neg hh, if_neg hh]
    · rw [if_neg hk]
      have hk' := mt Int32.lt_iff_toInt_lt.mpr hk
      by_cases hh : sp_holds kc kv f k = 0
      · rw [if_pos hh, if_pos hh]
        have a' : (k + 1).toInt = k.toInt + 1 := i32_add1 (by omega)
        exact q_fl_snoc h1 n (k + 1) (by omega) (by omega) c (by omega)
      · rw [if_neg hh, if_neg hh]
        have : ¬ k = 0 := i_ne (k := 0) rfl (by omega)
        rw [if_neg this]
end EQ1
