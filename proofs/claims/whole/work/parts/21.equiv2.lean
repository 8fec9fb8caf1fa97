section EQ2
variable {i : Nat} {s : Int32} {kc lc vcc vvar vlev : Nat → Int32} {kv fv lz vleast vfirst vstep : Nat → Int64} {sl : Int32}
theorem q_fl_0 {u : Int32} {f : Nat → Int64} (hu : u.toInt = 0) (n : Nat) : lp_firstLevel u kc kv f (n + 1) 1 = 0 := by
  rw [lp_firstLevel, if_pos (i_lt (k := 1) rfl (by omega) : u < 1)]
theorem q_fl (h : R7 i kc lc vcc vvar kv fv lz vleast vfirst vstep) (hs : s.toInt = (i : Int) + 1) (hi : i < 60) {f : Nat → Int64} : ∀ (n : Nat) (hd j : Int32), 0 ≤ j.toInt → j.toInt ≤ 7 → j.toInt + 1 ≤ n → il_M_goesAhead_19_hd vcc vleast s f n hd j = if lp_firstLevel j kc kv f 9 1 = 0 then hd else lp_firstLevel j kc kv f 9 1
  | 0, _, _, a, b, c => by omega
  | n + 1, hd, j, a, b, c => by
    rw [il_M_goesAhead_19_hd]
    by_cases hj : j ≤ 0
    · have hj' := Int32.le_iff_toInt_le.mp hj
      rw [show (0 : Int32).toInt = 0 from rfl] at hj'
      rw [if_pos hj, q_fl_0 (by omega) 8, if_pos rfl]
    · have hj' := mt Int32.le_iff_toInt_le.mpr hj
      rw [show (0 : Int32).toInt = 0 from rfl] at hj'
      have e1 : (j + (-1)).toInt = j.toInt + (-1) := i32_addm1 (by omega)
      have k1 : (1 : Int32).toInt = 1 := rfl
      have sn := q_fl_snoc (kc := kc) (kv := kv) (f := f) (sl := j + (-1)) (sl' := j) (by omega) 9 1 (by omega) (by omega) (by omega) (by omega)
      clear k1
      rw [if_neg hj, ← q_holds h hs hi (by omega) b, q_fl h hs hi n hd (j + (-1)) (by omega) (by omega) (by omega), q_fl h hs hi n j (j + (-1)) (by omega) (by omega) (by omega), sn]
      have nz : ¬ j = 0 := i_ne (k := 0) rfl (by omega)
      by_cases c1 : sp_holds kc kv f j = 0
      · rw [if_pos c1]
        by_cases c2 : lp_firstLevel (j + (-1)) kc kv f 9 1 = 0
        · rw [if_pos c2, if_pos c2, if_pos c1, if_pos rfl]
        · rw [if_neg c2, if_neg c2, if_neg c2]
      · rw [if_neg c1]
        by_cases c2 : lp_firstLevel (j + (-1)) kc kv f 9 1 = 0
        · rw [if_pos c2, if_pos c2, if_neg c1, if_neg nz]
        · rw [if_neg c2, if_neg c2, if_neg c2]
theorem q_fl_r {f : Nat → Int64} (h7 : sl.toInt ≤ 7) (h0 : 0 ≤ sl.toInt) : ∀ (n : Nat) (k : Int32), 1 ≤ k.toInt → k.toInt ≤ 8 → 0 ≤ (lp_firstLevel sl kc kv f n k).toInt ∧ (lp_firstLevel sl kc kv f n k).toInt ≤ sl.toInt
  | 0, _, _, _ => ⟨show 0 ≤ (0 : Int32).toInt by decide, h0⟩
  | n + 1, k, a, b => by
    rw [lp_firstLevel]
    by_cases c : sl < k
    · rw [if_pos c]
      exact ⟨by decide, h0⟩
    · have c' := mt Int32.lt_iff_toInt_lt.mpr c
      rw [if_neg c]
      by_cases c1 : sp_holds kc kv f k = 0
      · rw [if_pos c1]
        have e : (k + 1).toInt = k.toInt + 1 := i32_add1 (by omega)
        exact q_fl_r h7 h0 n (k + 1) (by omega) (by omega)
      · rw [if_neg c1]
        omega
/-- findsTurn is goesAhead -/
theorem q_turn (h : R7 i kc lc vcc vvar kv fv lz vleast vfirst vstep) (hs : s.toInt = (i : Int) + 1) (hi : i < 60) (hl : vlev s.toNatClampNeg = sl) (h0 : 0 ≤ sl.toInt) (h7 : sl.toInt ≤ 7) : ∀ (n : Nat) (k : Int32) (g : Nat → Int64), lp_findsTurn sl kc kv lc fv lz n k g = lp_M_goesAhead vlev vcc vvar vleast vfirst vstep s n k g ∧ lp_findsTurn_va sl kc kv lc fv lz n k g = lp_M_goesAhead_ad1 vlev vcc vvar vleast vfirst vstep s n k g
  | 0, _, _ => ⟨rfl, rfl⟩
  | n + 1, k, g => by
    rw [lp_findsTurn, lp_M_goesAhead, lp_findsTurn_va, lp_M_goesAhead_ad1, hl]
    have e0 : il_M_goesAhead_19_hd vcc vleast s g 9 0 sl = lp_firstLevel sl kc kv g 9 1 := by
      rw [q_fl h hs hi 9 0 sl h0 h7 (by omega)]
      by_cases c : lp_firstLevel sl kc kv g 9 1 = 0
      · rw [if_pos c, c]
      · rw [if_neg c]
    rw [e0]
    have r := q_fl_r (kc := kc) (kv := kv) (f := g) h7 h0 9 1 (by decide) (by decide)
    generalize lp_firstLevel sl kc kv g 9 1 = w at r ⊢
    by_cases c1 : (1000 : Int32) ≤ k
    · simp only [if_pos c1]
      exact ⟨trivial, trivial⟩
    · simp only [if_neg c1]
      by_cases c2 : w = 0
      · simp only [if_pos c2]
        exact ⟨trivial, trivial⟩
      · simp only [if_neg c2]
        by_cases c3 : w = 1
        · simp only [if_pos c3]
          exact ⟨trivial, trivial⟩
        · simp only [if_neg c3]
          have n2 := mt Int32.toInt_inj.mp c2
          have n3 := mt Int32.toInt_inj.mp c3
          rw [show (0 : Int32).toInt = 0 from rfl] at n2
          rw [show (1 : Int32).toInt = 1 from rfl] at n3
          have e1 : (w - 1).toInt = w.toInt - 1 := i32_sub1 (by omega)
          rw [sp_takeFirstValues_va, if_pos (i_ge (k := 1) rfl (by omega)), q_first h hs hi hl h7 9 w _ (by omega), q_goOn h hs hi (by omega) (by omega)]
          exact q_turn h hs hi hl h0 h7 n (k + 1) _
/-- the last level that doesn't hold -/
def q_dn (kc : Nat → Int32) (kv f : Nat → Int64) : Nat → Int32 → Int32
  | 0, _ => 0
  | n + 1, k => if k < 1 then 0 else if sp_holds kc kv f k = 0 then k else q_dn kc kv f n (k + (-1))
theorem q_dn_1 {f : Nat → Int64} : ∀ (n : Nat) (k : Int32), lp_stepsLast kc kv f n k = (if q_dn kc kv f n k = 0 then 0 else 1) ∧ lp_stepsLast_va sl kc kv lc fv lz f n k = (if q_dn kc kv f n k = 0 then f else sp_takeFirstValues_va sl lc fv (sp_takeStep_va lc lz f (q_dn kc kv f n k)) (q_dn kc kv f n k + 1))
  | 0, _ => ⟨rfl, rfl⟩
  | n + 1, k => by
    rw [lp_stepsLast, lp_stepsLast_va, q_dn]
    by_cases c : k < 1
    · simp only [if_pos c]
      exact ⟨rfl, rfl⟩
    · simp only [if_neg c]
      by_cases c1 : sp_holds kc kv f k = 0
      · simp only [if_pos c1]
        have c' := mt Int32.lt_iff_toInt_lt.mpr c
        rw [show (1 : Int32).toInt = 1 from rfl] at c'
        have nz : ¬ k = 0 := i_ne (k := 0) rfl (by omega)
        simp only [if_neg nz]
        exact ⟨trivial, trivial⟩
      · simp only [if_neg c1]
        exact q_dn_1 n _
theorem q_dn_r {f : Nat → Int64} : ∀ (n : Nat) (k : Int32), 0 ≤ k.toInt → 0 ≤ (q_dn kc kv f n k).toInt ∧ (q_dn kc kv f n k).toInt ≤ k.toInt
  | 0, _, h => ⟨show 0 ≤ (0 : Int32).toInt by decide, h⟩
  | n + 1, k, h => by
    rw [q_dn]
    by_cases c : k < 1
    · rw [if_pos c]
      exact ⟨by decide, h⟩
    · have c' := mt Int32.lt_iff_toInt_lt.mpr c
      rw [show (1 : Int32).toInt = 1 from rfl] at c'
      rw [if_neg c]
      by_cases c1 : sp_holds kc kv f k = 0
      · rw [if_pos c1]
        omega
      · rw [if_neg c1]
        have e : (k + (-1)).toInt = k.toInt + (-1) := i32_addm1 (by omega)
        have := q_dn_r (f := f) n (k + (-1)) (by omega)
        omega
def q_up (kc : Nat → Int32) (kv f : Nat → Int64) (u : Int32) : Nat → Int32 → Int32 → Int32
  | 0, op, _ => op
  | n + 1, op, j => if u < j then op else if sp_holds kc kv f j = 0 then q_up kc kv f u n j (j + 1) else q_up kc kv f u n op (j + 1)
theorem q_up_1 (h : R7 i kc lc vcc vvar kv fv lz vleast vfirst vstep) (hs : s.toInt = (i : Int) + 1) (hi : i < 60) (hl : vlev s.toNatClampNeg = sl) (h7 : sl.toInt ≤ 7) {f : Nat → Int64} : ∀ (n : Nat) (op j : Int32), 1 ≤ j.toInt → il_M_goesBehind_4_op f vlev vcc vleast s n op j = q_up kc kv f sl n op j
  | 0, _, _, _ => rfl
  | n + 1, op, j, hj => by
    rw [il_M_goesBehind_4_op, q_up, hl]
    by_cases c : sl < j
    · rw [if_pos c, if_pos c]
    · have c' := mt Int32.lt_iff_toInt_lt.mpr c
      have e : (j + 1).toInt = j.toInt + 1 := i32_add1 (by omega)
      rw [if_neg c, if_neg c, ← q_holds h hs hi hj (by omega), q_up_1 h hs hi hl h7 n j (j + 1) (by omega), q_up_1 h hs hi hl h7 n op (j + 1) (by omega)]
theorem q_up_snoc {f : Nat → Int64} {u u' : Int32} (h1 : u'.toInt = u.toInt + 1) : ∀ (n : Nat) (op j : Int32), 1 ≤ j.toInt → j.toInt ≤ u'.toInt → u'.toInt ≤ 7 → 9 ≤ j.toInt + n → q_up kc kv f u' n op j = if sp_holds kc kv f u' = 0 then u' else q_up kc kv f u n op j
  | 0, op, j, a, b, c, d => by omega
  | n + 1, op, j, a, b, c, d => by
    rw [q_up, q_up]
    have e1 : ¬ u' < j := fun e => by have := Int32.lt_iff_toInt_lt.mp e; omega
    have e3 : (j + 1).toInt = j.toInt + 1 := i32_add1 (by omega)
    rw [if_neg e1]
    by_cases hk : u < j
    · have hk' := Int32.lt_iff_toInt_lt.mp hk
      have e2 : j = u' := Int32.toInt_inj.mp (by omega)
      subst e2
      have stop : ∀ op2 : Int32, q_up kc kv f j n op2 (j + 1) = op2 := by
        intro op2
        cases n with
        | zero => rfl
        | succ n => rw [q_up, if_pos (Int32.lt_iff_toInt_lt.mpr (by omega))]
      rw [if_pos hk, stop, stop]
    · have hk' := mt Int32.lt_iff_toInt_lt.mpr hk
      rw [if_neg hk, q_up_snoc h1 n j (j + 1) (by omega) (by omega) c (by omega), q_up_snoc h1 n op (j + 1) (by omega) (by omega) c (by omega)]
      by_cases c1 : sp_holds kc kv f u' = 0
      · simp only [if_pos c1]
        split <;> rfl
      · simp only [if_neg c1]
theorem q_up_dn {f : Nat → Int64} (op : Int32) : ∀ (m n : Nat) (u : Int32), u.toInt = (m : Int) → m ≤ 7 → m + 1 ≤ n → q_up kc kv f u 9 op 1 = if q_dn kc kv f n u = 0 then op else q_dn kc kv f n u
  | 0, 0, u, a, b, c => by omega
  | 0, n + 1, u, a, b, c => by
    rw [q_up, if_pos (i_lt (k := 1) rfl (by omega)), q_dn, if_pos (i_lt (k := 1) rfl (by omega)), if_pos rfl]
  | m + 1, 0, u, a, b, c => by omega
  | m + 1, n + 1, u, a, b, c => by
    have e : (u + (-1)).toInt = u.toInt + (-1) := i32_addm1 (by omega)
    have k1 : (1 : Int32).toInt = 1 := rfl
    have sn := q_up_snoc (kc := kc) (kv := kv) (f := f) (u := u + (-1)) (u' := u) (by omega) 9 op 1 (by omega) (by omega) (by omega) (by omega)
    clear k1
    rw [sn, q_dn, if_neg (i_nlt (k := 1) rfl (by omega)), q_up_dn op m n (u + (-1)) (by omega) (by omega) (by omega)]
    have nz : ¬ u = 0 := i_ne (k := 0) rfl (by omega)
    by_cases c1 : sp_holds kc kv f u = 0
    · simp only [if_pos c1, if_neg nz]
    · simp only [if_neg c1]
/-- stepsLastOpenLevel is goesBehind -/
theorem q_last (h : R7 i kc lc vcc vvar kv fv lz vleast vfirst vstep) (hs : s.toInt = (i : Int) + 1) (hi : i < 60) (hl : vlev s.toNatClampNeg = sl) (h0 : 0 ≤ sl.toInt) (h7 : sl.toInt ≤ 7) (f : Nat → Int64) : lp_stepsLast kc kv f 9 sl = sp_M_goesBehind f vlev vcc vleast s ∧ lp_stepsLast_va sl kc kv lc fv lz f 9 sl = sp_M_goesBehind_ad1 f vlev vcc vvar vleast vfirst vstep s := by
  obtain ⟨a1, a2⟩ := q_dn_1 (kc := kc) (kv := kv) (lc := lc) (fv := fv) (lz := lz) (sl := sl) (f := f) 9 sl
  have e : il_M_goesBehind_4_op f vlev vcc vleast s 9 0 1 = q_dn kc kv f 9 sl := by
    rw [q_up_1 h hs hi hl h7 9 0 1 (by decide), q_up_dn 0 sl.toInt.toNat 9 sl (by omega) (by omega) (by omega)]
    by_cases c : q_dn kc kv f 9 sl = 0
    · rw [if_pos c, c]
    · rw [if_neg c]
  have r := q_dn_r (kc := kc) (kv := kv) (f := f) 9 sl h0
  rw [a1, a2, sp_M_goesBehind, sp_M_goesBehind_ad1, e]
  generalize q_dn kc kv f 9 sl = w at r ⊢
  refine ⟨rfl, ?_⟩
  by_cases c : w = 0
  · rw [if_pos c, if_pos c]
  · have n2 := mt Int32.toInt_inj.mp c
    rw [show (0 : Int32).toInt = 0 from rfl] at n2
    have e1 : (w + 1).toInt = w.toInt + 1 := i32_add1 (by omega)
    rw [if_neg c, if_neg c, q_first_b, sp_takeFirstValues_va, if_pos (i_ge (k := 1) rfl (by omega)), q_first h hs hi hl h7 9 (w + 1) _ (by omega), q_goOn h hs hi (by omega) (by omega)]
end EQ2
