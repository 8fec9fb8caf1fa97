/-! EQUIVALENCE call by call: the program's part -/
/-- the program as both hold it, with ranges, and what isn't told yet -/
def RG (vdoes vkind vcond vlev vcc vvar : Nat → Int32) : Prop := (∀ i : Nat, 0 ≤ (vdoes i).toInt) ∧ (∀ i : Nat, 0 ≤ (vkind i).toInt ∧ (vkind i).toInt ≤ 3) ∧ (∀ i : Nat, 0 ≤ (vcond i).toInt ∧ (vcond i).toInt ≤ 7) ∧ (∀ i : Nat, 0 ≤ (vlev i).toInt ∧ (vlev i).toInt ≤ 7) ∧ (∀ i : Nat, 0 ≤ (vcc i).toInt ∧ (vcc i).toInt ≤ 15) ∧ ∀ i : Nat, 0 ≤ (vvar i).toInt ∧ (vvar i).toInt ≤ 15
def ZB (np ns : Int32) (gd vgos vcond vlev vask vcc vvar : Nat → Int32) (vleast vfirst vstep : Nat → Int64) : Prop := (∀ k : Nat, np.toInt ≤ (k : Int) → gd k = 0 ∧ vgos (k + 1) = 0) ∧
  ∀ i : Nat, ns.toInt ≤ (i : Int) → vcond (i + 1) = 0 ∧ vlev (i + 1) = 0 ∧ vask (i + 1) = 0 ∧ ∀ k : Nat, k < 7 → vcc (8 * i + k) = 0 ∧ vleast (8 * i + k) = 0 ∧ vvar (8 * i + k) = 0 ∧ vfirst (8 * i + k) = 0 ∧ vstep (8 * i + k) = 0
def RP (np ns : Int32) (dd gd : Nat → Int32) (σ : Nat → Stm) (vdoes vgos vfrom vto vkind vtimes vcond vlev vask vcc vvar : Nat → Int32) (vleast vfirst vstep : Nat → Int64) : Prop :=
  PRG np ns dd gd σ vdoes vgos vfrom vto vkind vtimes vcond vlev vask vcc vvar vleast vfirst vstep ∧ RG vdoes vkind vcond vlev vcc vvar ∧ ZB np ns gd vgos vcond vlev vask vcc vvar vleast vfirst vstep
/-- the pile of the reference -/
def RQ (ns : Int32) (vfrom vkind vlev vpile vcall : Nat → Int32) : Prop := (∀ k : Nat, PN ns vfrom vkind vlev (vpile k)) ∧ ∀ k : Nat, 0 ≤ (vcall k).toInt ∧ (vcall k).toInt ≤ 60
/-- the last run -/
def RR (ns ln hh hi hi2 : Int32) (rd : Nat → Int32) (lo lo2 : Nat → Option Nat) (vlord vlpile : Nat → Int32) : Prop :=
  (0 ≤ ln.toInt ∧ ln.toInt ≤ 4096 ∧ ∀ k : Nat, (k : Int) < ln.toInt → rd k = vlord k) ∧
  (0 ≤ hh.toInt ∧ hh.toInt ≤ 100 ∧ ∀ k : Nat, (k : Int) < hh.toInt → ∃ j : Nat, lo k = some j ∧ (j : Int) < ns.toInt ∧ (vlpile (k + 1)).toInt = (j : Int) + 1) ∧
  (0 ≤ hi.toInt ∧ 0 ≤ hi2.toInt) ∧ (∀ k j : Nat, lo k = some j → (j : Int) < ns.toInt) ∧ (∀ k j : Nat, lo2 k = some j → (j : Int) < ns.toInt) ∧ ∀ k : Nat, 0 ≤ (vlpile k).toInt ∧ (vlpile k).toInt ≤ 60
section EQ10
variable {np ns ln hh hi hi2 : Int32} {dd gd rd : Nat → Int32} {σ : Nat → Stm} {lo lo2 : Nat → Option Nat} {vdoes vgos vfrom vto vkind vtimes vcond vlev vask vcc vvar vpile vcall vlord vlpile : Nat → Int32} {vleast vfirst vstep : Nat → Int64}
theorem e_par (H : RP np ns dd gd σ vdoes vgos vfrom vto vkind vtimes vcond vlev vask vcc vvar vleast vfirst vstep) (x : Int32) :
    sp_addParagraph np x = sp_M_paragraph np x ∧ sp_addParagraph_pg_3 np x = sp_M_paragraph_mo_3 np x ∧ RP (sp_addParagraph_pg_3 np x) ns (sp_addParagraph_dg np dd x) gd σ (sp_M_paragraph_ad5 np vdoes x) vgos vfrom vto vkind vtimes vcond vlev vask vcc vvar vleast vfirst vstep := by
  obtain ⟨⟨⟨hn0, hn6, hs0, hs6⟩, hpar, hsta⟩, hG, hz1, hz2⟩ := id H
  unfold sp_addParagraph sp_M_paragraph sp_addParagraph_pg_3 sp_M_paragraph_mo_3 sp_addParagraph_dg sp_M_paragraph_ad5
  by_cases c1 : x < 0
  · simp only [if_pos c1]
    exact ⟨trivial, trivial, H⟩
  · simp only [if_neg c1]
    generalize x - x / 8 * 8 = r
    by_cases c2 : 4 < r
    · simp only [if_pos c2]
      exact ⟨trivial, trivial, H⟩
    · simp only [if_neg c2]
      by_cases c3 : np = 60
      · have c4 : ¬ np < 60 := by rw [c3]; decide
        simp only [if_pos c3, if_neg c4]
        exact ⟨trivial, trivial, H⟩
      · have c5 : ¬ np.toInt = 60 := fun e => c3 (i_eq (k := 60) rfl e)
        have c4 : np < 60 := i_lt (k := 60) rfl (by omega)
        simp only [if_neg c3, if_pos c4]
        have x0 : 0 ≤ x.toInt := by
          have := mt Int32.lt_iff_toInt_lt.mpr c1
          rw [show (0 : Int32).toInt = 0 from rfl] at this
          omega
        have e1 : (np + 1).toInt = np.toInt + 1 := i32_add1 (by omega)
        have b1 := clampI (x := np) (by omega)
        have b2 := clampI (x := np + 1) (by omega)
        refine ⟨trivial, trivial, ⟨⟨by omega, by omega, hs0, hs6⟩, fun k hk => ?_, fun j hj => ?_⟩, ⟨fun i => upd_all (P := fun v => 0 ≤ v.toInt) hG.1 x0 i, hG.2⟩, fun k hk => hz1 k (by omega), hz2⟩
        · by_cases ck : k = np.toNatClampNeg
          · have : (np + 1).toNatClampNeg = k + 1 := by omega
            obtain ⟨g1, g2⟩ := hz1 k (by omega)
            rw [this, pk_us, ck, pk_us, ← ck, g1, g2]
            exact ⟨rfl, rfl, x0, by decide, by decide⟩
          · have : k + 1 ≠ (np + 1).toNatClampNeg := by omega
            rw [pk_un this, pk_un ck]
            exact hpar k (by omega)
        · obtain ⟨a1, a2, a3, a4⟩ := hsta j hj
          exact ⟨a1, a2, by omega, a4⟩
theorem e_goTo (H : RP np ns dd gd σ vdoes vgos vfrom vto vkind vtimes vcond vlev vask vcc vvar vleast vfirst vstep) (x y : Int32) :
    sp_PR_goTo np gd x y = sp_M_goTo np vgos x y ∧ RP np ns dd (sp_PR_goTo_gg np gd x y) σ vdoes (sp_M_goTo_ad6 np vgos x y) vfrom vto vkind vtimes vcond vlev vask vcc vvar vleast vfirst vstep := by
  obtain ⟨⟨⟨hn0, hn6, hs0, hs6⟩, hpar, hsta⟩, hG, hz1, hz2⟩ := id H
  unfold sp_PR_goTo sp_M_goTo sp_PR_goTo_gg sp_M_goTo_ad6 sp_tellGoing sp_tellGoing_gg
  by_cases c0 : sp_isParagraph np x = 0
  · have c1 : sp_M_isParagraph np x = 0 := (q_isPar hn6).mpr c0
    simp only [if_pos c0, if_pos c1, ite_self]
    exact ⟨trivial, H⟩
  · have c1 : ¬ sp_M_isParagraph np x = 0 := fun e => c0 ((q_isPar hn6).mp e)
    obtain ⟨x1, x2, x3⟩ := isPar_ne c0
    simp only [if_neg c0, if_neg c1]
    by_cases c2 : y < 0
    · simp only [if_pos c2]
      exact ⟨trivial, H⟩
    · simp only [if_neg c2]
      by_cases c3 : y ≤ 60
      · simp only [if_pos c3]
        have e1 : (x - 1).toInt = x.toInt - 1 := i32_sub1 (by omega)
        have b1 := clampI (x := x - 1) (by omega)
        have b2 := clampI (x := x) (by omega)
        have zx : x.toNatClampNeg = (x - 1).toNatClampNeg + 1 := by omega
        have y0 : 0 ≤ y.toInt := by
          have := mt Int32.lt_iff_toInt_lt.mpr c2
          rw [show (0 : Int32).toInt = 0 from rfl] at this
          omega
        have y6 : y.toInt ≤ 60 := by
          have := Int32.le_iff_toInt_le.mp c3
          rw [show (60 : Int32).toInt = 60 from rfl] at this
          exact this
        obtain ⟨-, d2, -, -, -⟩ := hpar (x - 1).toNatClampNeg (by omega)
        refine ⟨by rw [zx, d2], ⟨⟨hn0, hn6, hs0, hs6⟩, fun k hk => ?_, hsta⟩, hG, fun k hk => ?_, hz2⟩
        · obtain ⟨a1, a2, a3, a4, a5⟩ := hpar k hk
          by_cases ck : k = (x - 1).toNatClampNeg
          · have : x.toNatClampNeg = k + 1 := by omega
            rw [this, pk_us, ck, pk_us, ← ck]
            exact ⟨a1, rfl, a3, y0, y6⟩
          · have : k + 1 ≠ x.toNatClampNeg := by omega
            rw [pk_un this, pk_un ck]
            exact ⟨a1, a2, a3, a4, a5⟩
        · have h1 : k ≠ (x - 1).toNatClampNeg := by omega
          have h2 : k + 1 ≠ x.toNatClampNeg := by omega
          rw [pk_un h1, pk_un h2]
          exact hz1 k hk
      · simp only [if_neg c3]
        exact ⟨trivial, H⟩
theorem e_order (H : RR ns ln hh hi hi2 rd lo lo2 vlord vlpile) (x : Int32) : sp_ranAs ln rd x = sp_M_order ln vlord x := by
  obtain ⟨⟨h0, h1, h2⟩, -⟩ := H
  unfold sp_ranAs sp_M_order
  by_cases c1 : x < 0
  · rw [if_pos c1, if_pos c1]
  · rw [if_neg c1, if_neg c1]
    by_cases c2 : ln ≤ x
    · rw [if_pos c2, if_pos c2]
    · have c1' := mt Int32.lt_iff_toInt_lt.mpr c1
      rw [show (0 : Int32).toInt = 0 from rfl] at c1'
      have c2' := mt Int32.le_iff_toInt_le.mpr c2
      have b := clampI (x := x) (by omega)
      rw [if_neg c2, if_neg c2, if_neg (i_nge (k := 4096) rfl (by omega))]
      exact h2 _ (by omega)
theorem e_ending (HG : PRG np ns dd gd σ vdoes vgos vfrom vto vkind vtimes vcond vlev vask vcc vvar vleast vfirst vstep) (H : RR ns ln hh hi hi2 rd lo lo2 vlord vlpile) (x : Int32) : ∀ (n m : Nat) (fd k k1 : Int32), 0 ≤ k.toInt → k.toInt ≤ hh.toInt → k1.toInt = k.toInt + 1 → hh.toInt < k.toInt + n → hh.toInt < k.toInt + m → lp_endingAt hh lo x σ n fd k = lp_M_active hh vto vlpile x m fd k1 := by
  obtain ⟨-, ⟨h0, h1, h2⟩, -⟩ := H
  obtain ⟨-, -, hsta⟩ := HG
  intro n
  induction n with
  | zero =>
    intro m fd k k1 hk hk2 hk1 hn hm
    omega
  | succ n ih =>
    intro m fd k k1 hk hk2 hk1 hn hm
    obtain ⟨m, rfl⟩ : ∃ j, m = j + 1 := ⟨m - 1, by omega⟩
    rw [lp_endingAt, lp_M_active]
    by_cases c : hh ≤ k
    · have c' := Int32.le_iff_toInt_le.mp c
      rw [if_pos c, if_pos (Int32.lt_iff_toInt_lt.mpr (by omega))]
    · have c' := mt Int32.le_iff_toInt_le.mpr c
      have d1 : ¬ hh < k1 := fun e => by have := Int32.lt_iff_toInt_lt.mp e; omega
      rw [if_neg c, if_neg (i_nge (k := 100) rfl (by omega)), if_neg d1]
      have b1 := clampI (x := k) hk
      have b2 := clampI (x := k1) (by omega)
      obtain ⟨j, e1, e2, e3⟩ := h2 k.toNatClampNeg (by omega)
      have zk : k1.toNatClampNeg = k.toNatClampNeg + 1 := by omega
      have cl : (vlpile (k.toNatClampNeg + 1)).toNatClampNeg = j + 1 := q_clamp e3
      have a1 : (k + 1).toInt = k.toInt + 1 := i32_add1 (by omega)
      have a2 : (k1 + 1).toInt = k1.toInt + 1 := i32_add1 (by omega)
      rw [e1, oc_some, zk, cl, (hsta j e2).1.2.1, Int32.add_zero]
      rw [ih m fd (k + 1) (k1 + 1) (by omega) (by omega) (by omega) (by omega) (by omega), ih m (fd + 1) (k + 1) (k1 + 1) (by omega) (by omega) (by omega) (by omega) (by omega)]
theorem e_active (HG : PRG np ns dd gd σ vdoes vgos vfrom vto vkind vtimes vcond vlev vask vcc vvar vleast vfirst vstep) (H : RR ns ln hh hi hi2 rd lo lo2 vlord vlpile) (x : Int32) : sp_PR_active np hh lo x σ = sp_M_active np hh vto vlpile x := by
  have hn6 := HG.1.2.1
  have h0 := H.2.1.1
  have h1 := H.2.1.2.1
  unfold sp_PR_active sp_M_active
  by_cases c : sp_isParagraph np x = 0
  · rw [if_pos c, if_pos ((q_isPar hn6).mpr c)]
  · rw [if_neg c, if_neg (fun e => c ((q_isPar hn6).mp e))]
    exact e_ending HG H x 101 102 0 0 1 (by decide) (by rw [show (0 : Int32).toInt = 0 from rfl]; exact h0) (by decide) (by rw [show (0 : Int32).toInt = 0 from rfl]; omega) (by rw [show (0 : Int32).toInt = 0 from rfl]; omega)
end EQ10
