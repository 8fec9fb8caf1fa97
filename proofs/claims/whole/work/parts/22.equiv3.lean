/-- the reference's rows say of statement i what the class's statement x says -/
def SRel (x : Stm) (i : Nat) (vfrom vto vkind vtimes vcond vlev vask vcc vvar : Nat → Int32) (vleast vfirst vstep : Nat → Int64) : Prop :=
  vfrom (i + 1) = st_f x ∧ vto (i + 1) = st_t x ∧ vkind (i + 1) = st_k x ∧ vtimes (i + 1) = st_n x ∧ vcond (i + 1) = st_c x ∧ vlev (i + 1) = st_l x ∧ vask (i + 1) = st_a x ∧
  R7 i (st_kc x) (st_lc x) vcc vvar (st_kv x) (st_fv x) (st_lz x) vleast vfirst vstep ∧ 0 ≤ (st_l x).toInt ∧ (st_l x).toInt ≤ 7 ∧ 0 ≤ (st_k x).toInt ∧ (st_k x).toInt ≤ 3
theorem q_01 {w : Int32} (h : w = 0 ∨ w = 1) : (if w = 0 then (0 : Int32) else 1) = w := by
  rcases h with rfl | rfl <;> rfl
section EQ3
variable {x : Stm} {i : Nat} {vfrom vto vkind vtimes vcond vlev vask vcc vvar : Nat → Int32} {vleast vfirst vstep : Nat → Int64} {xsize : Int32} {vpile vleft : Nat → Int32}
theorem q_clamp {s : Int32} (hs : s.toInt = (i : Int) + 1) : s.toNatClampNeg = i + 1 := by
  have := clampI (x := s) (by omega)
  omega
theorem q_upds {f : Nat → Int32} {k : Nat} {v : Int32} : upd f k v k = v := pk_us
theorem q_at (h : SRel x i vfrom vto vkind vtimes vcond vlev vask vcc vvar vleast vfirst vstep) (hi : i < 60) (hp : (vpile xsize.toNatClampNeg).toInt = (i : Int) + 1) (hl1 : ¬ st_k x = 0 → ¬ st_k x = 1 → ¬ st_k x = 2 → 1 ≤ (st_l x).toInt) (f : Nat → Int64) (hL : st_k x = 1 → (vleft xsize.toNatClampNeg).toInt = if 0 ≤ (st_n x).toInt then (st_n x).toInt else 0) :
    sp_goesAtFirst (st_k x) (st_n x) (st_a x) (st_l x) (st_kc x) (st_kv x) (st_lc x) (st_fv x) (st_lz x) f = sp_M_goesAgain xsize f vkind vlev vask vcc vvar vleast vfirst vstep vpile vleft 1 ∧
    sp_goesAtFirst_va (st_k x) (st_a x) (st_l x) (st_kc x) (st_kv x) (st_lc x) (st_fv x) (st_lz x) f = sp_M_goesAgain_ad1 xsize f vkind vlev vask vcc vvar vleast vfirst vstep vpile 1 := by
  obtain ⟨-, -, e3, -, -, e6, e7, h7, l0, l7, -, -⟩ := h
  have hc := q_clamp hp
  have n10 : ¬ (1 : Int32) = 0 := by decide
  unfold sp_goesAtFirst sp_goesAtFirst_va sp_M_goesAgain sp_M_goesAgain_ad1
  rw [hc, e3, e7, q_upds]
  by_cases c0 : st_k x = 0
  · simp only [if_pos c0]
    exact ⟨trivial, trivial⟩
  · simp only [if_neg c0]
    by_cases c1 : st_k x = 1
    · simp only [if_pos c1]
      refine ⟨?_, trivial⟩
      have hL := hL c1
      have hb := Int32.toInt_lt (st_n x)
      by_cases c : st_n x ≤ 0
      · have c' := Int32.le_iff_toInt_le.mp c
        rw [show (0 : Int32).toInt = 0 from rfl] at c'
        have z : (vleft xsize.toNatClampNeg).toInt = 0 := by
          rw [hL]
          split <;> omega
        have z2 : (vleft xsize.toNatClampNeg - 1).toInt = (vleft xsize.toNatClampNeg).toInt - 1 := i32_sub1 (by omega)
        rw [if_pos c, if_pos (i_lt (k := 0) rfl (by omega))]
      · have c' := mt Int32.le_iff_toInt_le.mpr c
        rw [show (0 : Int32).toInt = 0 from rfl] at c'
        rw [if_pos (by omega)] at hL
        have z2 : (vleft xsize.toNatClampNeg - 1).toInt = (vleft xsize.toNatClampNeg).toInt - 1 := i32_sub1 (by omega)
        rw [if_neg c, if_neg (i_nlt (k := 0) rfl (by omega))]
    · simp only [if_neg c1]
      by_cases c2 : st_k x = 2
      · simp only [if_pos c2, if_neg n10]
        rw [q_holds h7 hp hi (by decide) (by decide)]
        exact ⟨rfl, trivial⟩
      · simp only [if_neg c2, if_neg n10]
        have hl := e6
        rw [← hc] at hl
        have t1 : sp_takeFirstValues_va (st_l x) (st_lc x) (st_fv x) f 1 = il_M_goesAgain_107_g3 xsize vlev vvar vfirst vpile 1 9 1 f := by
          rw [sp_takeFirstValues_va, if_pos (by decide), q_first h7 hp hi hl l7 9 1 f (by decide), q_first_a rfl]
        rw [t1]
        obtain ⟨t2, t3⟩ := q_turn h7 hp hi hl l0 l7 1001 0 (il_M_goesAgain_107_g3 xsize vlev vvar vfirst vpile 1 9 1 f)
        rw [t2, t3]
        refine ⟨?_, rfl⟩
        by_cases ca : st_a x = 0
        · simp only [if_pos ca]
        · simp only [if_neg ca]
          exact q_01 (b_M_goesAhead _ _ _)
theorem q_more (h : SRel x i vfrom vto vkind vtimes vcond vlev vask vcc vvar vleast vfirst vstep) (hi : i < 60) (hp : (vpile xsize.toNatClampNeg).toInt = (i : Int) + 1) (hl1 : ¬ st_k x = 0 → ¬ st_k x = 1 → ¬ st_k x = 2 → 1 ≤ (st_l x).toInt) (f : Nat → Int64) {u : Int32} (hL : st_k x = 1 → (vleft xsize.toNatClampNeg).toInt = (st_n x).toInt - u.toInt ∧ 0 ≤ (vleft xsize.toNatClampNeg).toInt) :
    sp_goesOnceMore (st_k x) (st_n x) (st_a x) (st_l x) (st_kc x) (st_kv x) (st_lc x) (st_fv x) (st_lz x) f u = sp_M_goesAgain xsize f vkind vlev vask vcc vvar vleast vfirst vstep vpile vleft 0 ∧
    sp_goesOnceMore_va (st_k x) (st_a x) (st_l x) (st_kc x) (st_kv x) (st_lc x) (st_fv x) (st_lz x) f = sp_M_goesAgain_ad1 xsize f vkind vlev vask vcc vvar vleast vfirst vstep vpile 0 := by
  obtain ⟨-, -, e3, -, -, e6, e7, h7, l0, l7, -, -⟩ := h
  have hc := q_clamp hp
  unfold sp_goesOnceMore sp_goesOnceMore_va sp_M_goesAgain sp_M_goesAgain_ad1
  rw [hc, e3, e7, e6, q_upds]
  by_cases c0 : st_k x = 0
  · simp only [if_pos c0]
    exact ⟨trivial, trivial⟩
  · simp only [if_neg c0]
    by_cases c1 : st_k x = 1
    · simp only [if_pos c1]
      refine ⟨?_, trivial⟩
      obtain ⟨hL, hL0⟩ := hL c1
      have z2 : (vleft xsize.toNatClampNeg - 1).toInt = (vleft xsize.toNatClampNeg).toInt - 1 := i32_sub1 (by omega)
      by_cases c : st_n x ≤ u
      · have c' := Int32.le_iff_toInt_le.mp c
        rw [if_pos c, if_pos (i_lt (k := 0) rfl (by omega))]
      · have c' := mt Int32.le_iff_toInt_le.mpr c
        rw [if_neg c, if_neg (i_nlt (k := 0) rfl (by omega))]
    · simp only [if_neg c1]
      by_cases c2 : st_k x = 2
      · simp only [if_pos c2, if_true]
        rw [q_holds h7 hp hi (by decide) (by decide)]
        exact ⟨rfl, trivial⟩
      · simp only [if_neg c2, if_true, q_first_0]
        have hl := e6
        rw [← hc] at hl
        obtain ⟨t2, t3⟩ := q_turn h7 hp hi hl l0 l7 1001 0 (sp_takeStep_va (st_lc x) (st_lz x) f (st_l x))
        obtain ⟨t4, t5⟩ := q_last h7 hp hi hl l0 l7 f
        rw [t2, t3, t4, t5, q_goOn h7 hp hi (hl1 c0 c1 c2) l7]
        refine ⟨?_, rfl⟩
        by_cases ca : st_a x = 0
        · simp only [if_pos ca]
          refine (q_01 ?_).symm
          rw [sp_M_goesBehind]
          split
          · exact Or.inl rfl
          · exact Or.inr rfl
        · simp only [if_neg ca]
end EQ3
