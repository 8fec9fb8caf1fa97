/-! EQUIVALENCE call by call: run, plain -/
section EQ13
variable {np ns ln hh hi hi2 Y : Int32} {dd gd rd : Nat → Int32} {σ : Nat → Stm} {lo lo2 : Nat → Option Nat} {vdoes vgos vfrom vto vkind vtimes vcond vlev vask vcc vvar pl cl lf pd ud od vlord vlpile : Nat → Int32} {vleast vfirst vstep : Nat → Int64}
set_option maxHeartbeats 2000000 in
theorem e_travel (HG : PRG np ns dd gd σ vdoes vgos vfrom vto vkind vtimes vcond vlev vask vcc vvar vleast vfirst vstep) (HQ : RQ ns vfrom vkind vlev pl cl) (hlo : ∀ k j : Nat, lo k = some j → (j : Int) < ns.toInt) (hY : hi.toInt = max Y.toInt (0 : Int32).toInt) {steps : Int64} (hst : steps.toInt ≤ 4096) (en x : Int32) (f : Nat → Int64) :
    (sp_travel en np ns hi dd gd f lo pd ud rd x steps σ) = (lp_M_machine_mo_25 np ns vdoes vgos vfrom vto vkind vtimes vcond vlev vask vcc vvar vleast vfirst vstep steps 4098 (sp_M_enter ns 0 f vfrom vkind vtimes vcond vlev vask vcc vvar vleast vfirst vstep pl lf x) (sp_M_enter_ad1 ns 0 f vkind vcond vlev vask vcc vvar vleast vfirst vstep pl x) (sp_M_enter_ad21 ns 0 vkind vtimes vcond vlev pl lf x) (sp_M_enter_ad19 ns 0 vkind vcond vlev pl x) (sp_M_enter_ad20 ns 0 vkind vcond vlev cl x 0) (sp_M_enter_mo_22 ns 0 f vkind vtimes vcond vlev vask vcc vvar vleast vfirst vstep pl lf x) (sp_M_enter_mo_23 ns 0 0 vkind vcond vlev x) (-2) 0 od) ∧
    (sp_travel_co_4 ln en np ns hi dd gd f lo pd ud rd x steps σ) = (lp_M_machine_mo_25 np ns vdoes vgos vfrom vto vkind vtimes vcond vlev vask vcc vvar vleast vfirst vstep steps 4098 (sp_M_enter ns 0 f vfrom vkind vtimes vcond vlev vask vcc vvar vleast vfirst vstep pl lf x) (sp_M_enter_ad1 ns 0 f vkind vcond vlev vask vcc vvar vleast vfirst vstep pl x) (sp_M_enter_ad21 ns 0 vkind vtimes vcond vlev pl lf x) (sp_M_enter_ad19 ns 0 vkind vcond vlev pl x) (sp_M_enter_ad20 ns 0 vkind vcond vlev cl x 0) (sp_M_enter_mo_22 ns 0 f vkind vtimes vcond vlev vask vcc vvar vleast vfirst vstep pl lf x) (sp_M_enter_mo_23 ns 0 0 vkind vcond vlev x) (-2) 0 od) ∧
    (sp_travel_co_5 en np ns hi dd gd f lo pd ud rd x steps σ) = (lp_M_machine_mo_24 np ns vdoes vgos vfrom vto vkind vtimes vcond vlev vask vcc vvar vleast vfirst vstep steps 4098 (sp_M_enter ns 0 f vfrom vkind vtimes vcond vlev vask vcc vvar vleast vfirst vstep pl lf x) (sp_M_enter_ad1 ns 0 f vkind vcond vlev vask vcc vvar vleast vfirst vstep pl x) (sp_M_enter_ad21 ns 0 vkind vtimes vcond vlev pl lf x) (sp_M_enter_ad19 ns 0 vkind vcond vlev pl x) (sp_M_enter_ad20 ns 0 vkind vcond vlev cl x 0) (sp_M_enter_mo_22 ns 0 f vkind vtimes vcond vlev vask vcc vvar vleast vfirst vstep pl lf x) (sp_M_enter_mo_23 ns 0 0 vkind vcond vlev x) (-2) 0 od) ∧
    (sp_travel_va en np ns hi dd gd f lo pd ud rd x steps σ) = (lp_M_machine_ad1 np ns vdoes vgos vfrom vto vkind vtimes vcond vlev vask vcc vvar vleast vfirst vstep steps 4098 (sp_M_enter ns 0 f vfrom vkind vtimes vcond vlev vask vcc vvar vleast vfirst vstep pl lf x) (sp_M_enter_ad1 ns 0 f vkind vcond vlev vask vcc vvar vleast vfirst vstep pl x) (sp_M_enter_ad21 ns 0 vkind vtimes vcond vlev pl lf x) (sp_M_enter_ad19 ns 0 vkind vcond vlev pl x) (sp_M_enter_ad20 ns 0 vkind vcond vlev cl x 0) (sp_M_enter_mo_22 ns 0 f vkind vtimes vcond vlev vask vcc vvar vleast vfirst vstep pl lf x) (sp_M_enter_mo_23 ns 0 0 vkind vcond vlev x) (-2) 0 od) ∧
    (sp_travel_pi_3 en np ns hi dd gd f lo pd ud rd x steps σ) = (lp_M_machine_mo_22 np ns vdoes vgos vfrom vto vkind vtimes vcond vlev vask vcc vvar vleast vfirst vstep steps 4098 (sp_M_enter ns 0 f vfrom vkind vtimes vcond vlev vask vcc vvar vleast vfirst vstep pl lf x) (sp_M_enter_ad1 ns 0 f vkind vcond vlev vask vcc vvar vleast vfirst vstep pl x) (sp_M_enter_ad21 ns 0 vkind vtimes vcond vlev pl lf x) (sp_M_enter_ad19 ns 0 vkind vcond vlev pl x) (sp_M_enter_ad20 ns 0 vkind vcond vlev cl x 0) (sp_M_enter_mo_22 ns 0 f vkind vtimes vcond vlev vask vcc vvar vleast vfirst vstep pl lf x) (sp_M_enter_mo_23 ns 0 0 vkind vcond vlev x) (-2) 0 od) ∧
    (sp_travel_pi_4 en np ns hi dd gd f lo pd ud rd x steps σ).toInt = max Y.toInt (lp_M_machine_mo_23 np ns vdoes vgos vfrom vto vkind vtimes vcond vlev vask vcc vvar vleast vfirst vstep steps 4098 (sp_M_enter ns 0 f vfrom vkind vtimes vcond vlev vask vcc vvar vleast vfirst vstep pl lf x) (sp_M_enter_ad1 ns 0 f vkind vcond vlev vask vcc vvar vleast vfirst vstep pl x) (sp_M_enter_ad21 ns 0 vkind vtimes vcond vlev pl lf x) (sp_M_enter_ad19 ns 0 vkind vcond vlev pl x) (sp_M_enter_ad20 ns 0 vkind vcond vlev cl x 0) (sp_M_enter_mo_22 ns 0 f vkind vtimes vcond vlev vask vcc vvar vleast vfirst vstep pl lf x) (sp_M_enter_mo_23 ns 0 0 vkind vcond vlev x) (-2) 0 od).toInt ∧
    PRel np ns σ (sp_travel_la en np ns hi dd gd f lo pd ud rd x steps σ) (sp_travel_pe en np ns hi dd gd f lo pd ud rd x steps σ) (sp_travel_tu en np ns hi dd gd f lo pd ud rd x steps σ) (lp_M_machine_ad19 np ns vdoes vgos vfrom vto vkind vtimes vcond vlev vask vcc vvar vleast vfirst vstep steps 4098 (sp_M_enter ns 0 f vfrom vkind vtimes vcond vlev vask vcc vvar vleast vfirst vstep pl lf x) (sp_M_enter_ad1 ns 0 f vkind vcond vlev vask vcc vvar vleast vfirst vstep pl x) (sp_M_enter_ad21 ns 0 vkind vtimes vcond vlev pl lf x) (sp_M_enter_ad19 ns 0 vkind vcond vlev pl x) (sp_M_enter_ad20 ns 0 vkind vcond vlev cl x 0) (sp_M_enter_mo_22 ns 0 f vkind vtimes vcond vlev vask vcc vvar vleast vfirst vstep pl lf x) (sp_M_enter_mo_23 ns 0 0 vkind vcond vlev x) (-2) 0 od) (lp_M_machine_ad20 np ns vdoes vgos vfrom vto vkind vtimes vcond vlev vask vcc vvar vleast vfirst vstep steps 4098 (sp_M_enter ns 0 f vfrom vkind vtimes vcond vlev vask vcc vvar vleast vfirst vstep pl lf x) (sp_M_enter_ad1 ns 0 f vkind vcond vlev vask vcc vvar vleast vfirst vstep pl x) (sp_M_enter_ad21 ns 0 vkind vtimes vcond vlev pl lf x) (sp_M_enter_ad19 ns 0 vkind vcond vlev pl x) (sp_M_enter_ad20 ns 0 vkind vcond vlev cl x 0) (sp_M_enter_mo_22 ns 0 f vkind vtimes vcond vlev vask vcc vvar vleast vfirst vstep pl lf x) (sp_M_enter_mo_23 ns 0 0 vkind vcond vlev x) (-2) 0 od) (lp_M_machine_ad21 np ns vdoes vgos vfrom vto vkind vtimes vcond vlev vask vcc vvar vleast vfirst vstep steps 4098 (sp_M_enter ns 0 f vfrom vkind vtimes vcond vlev vask vcc vvar vleast vfirst vstep pl lf x) (sp_M_enter_ad1 ns 0 f vkind vcond vlev vask vcc vvar vleast vfirst vstep pl x) (sp_M_enter_ad21 ns 0 vkind vtimes vcond vlev pl lf x) (sp_M_enter_ad19 ns 0 vkind vcond vlev pl x) (sp_M_enter_ad20 ns 0 vkind vcond vlev cl x 0) (sp_M_enter_mo_22 ns 0 f vkind vtimes vcond vlev vask vcc vvar vleast vfirst vstep pl lf x) (sp_M_enter_mo_23 ns 0 0 vkind vcond vlev x) (-2) 0 od) (sp_travel_pi_3 en np ns hi dd gd f lo pd ud rd x steps σ) ∧
    (∀ a_ j_ : Nat, (sp_travel_la en np ns hi dd gd f lo pd ud rd x steps σ) a_ = some j_ → (j_ : Int) < ns.toInt) ∧
    (∀ a_ : Nat, PN ns vfrom vkind vlev ((lp_M_machine_ad19 np ns vdoes vgos vfrom vto vkind vtimes vcond vlev vask vcc vvar vleast vfirst vstep steps 4098 (sp_M_enter ns 0 f vfrom vkind vtimes vcond vlev vask vcc vvar vleast vfirst vstep pl lf x) (sp_M_enter_ad1 ns 0 f vkind vcond vlev vask vcc vvar vleast vfirst vstep pl x) (sp_M_enter_ad21 ns 0 vkind vtimes vcond vlev pl lf x) (sp_M_enter_ad19 ns 0 vkind vcond vlev pl x) (sp_M_enter_ad20 ns 0 vkind vcond vlev cl x 0) (sp_M_enter_mo_22 ns 0 f vkind vtimes vcond vlev vask vcc vvar vleast vfirst vstep pl lf x) (sp_M_enter_mo_23 ns 0 0 vkind vcond vlev x) (-2) 0 od) a_)) ∧
    (∀ a_ : Nat, 0 ≤ ((lp_M_machine_ad20 np ns vdoes vgos vfrom vto vkind vtimes vcond vlev vask vcc vvar vleast vfirst vstep steps 4098 (sp_M_enter ns 0 f vfrom vkind vtimes vcond vlev vask vcc vvar vleast vfirst vstep pl lf x) (sp_M_enter_ad1 ns 0 f vkind vcond vlev vask vcc vvar vleast vfirst vstep pl x) (sp_M_enter_ad21 ns 0 vkind vtimes vcond vlev pl lf x) (sp_M_enter_ad19 ns 0 vkind vcond vlev pl x) (sp_M_enter_ad20 ns 0 vkind vcond vlev cl x 0) (sp_M_enter_mo_22 ns 0 f vkind vtimes vcond vlev vask vcc vvar vleast vfirst vstep pl lf x) (sp_M_enter_mo_23 ns 0 0 vkind vcond vlev x) (-2) 0 od) a_).toInt ∧ ((lp_M_machine_ad20 np ns vdoes vgos vfrom vto vkind vtimes vcond vlev vask vcc vvar vleast vfirst vstep steps 4098 (sp_M_enter ns 0 f vfrom vkind vtimes vcond vlev vask vcc vvar vleast vfirst vstep pl lf x) (sp_M_enter_ad1 ns 0 f vkind vcond vlev vask vcc vvar vleast vfirst vstep pl x) (sp_M_enter_ad21 ns 0 vkind vtimes vcond vlev pl lf x) (sp_M_enter_ad19 ns 0 vkind vcond vlev pl x) (sp_M_enter_ad20 ns 0 vkind vcond vlev cl x 0) (sp_M_enter_mo_22 ns 0 f vkind vtimes vcond vlev vask vcc vvar vleast vfirst vstep pl lf x) (sp_M_enter_mo_23 ns 0 0 vkind vcond vlev x) (-2) 0 od) a_).toInt ≤ 60) ∧
    (0 ≤ (lp_M_machine_mo_25 np ns vdoes vgos vfrom vto vkind vtimes vcond vlev vask vcc vvar vleast vfirst vstep steps 4098 (sp_M_enter ns 0 f vfrom vkind vtimes vcond vlev vask vcc vvar vleast vfirst vstep pl lf x) (sp_M_enter_ad1 ns 0 f vkind vcond vlev vask vcc vvar vleast vfirst vstep pl x) (sp_M_enter_ad21 ns 0 vkind vtimes vcond vlev pl lf x) (sp_M_enter_ad19 ns 0 vkind vcond vlev pl x) (sp_M_enter_ad20 ns 0 vkind vcond vlev cl x 0) (sp_M_enter_mo_22 ns 0 f vkind vtimes vcond vlev vask vcc vvar vleast vfirst vstep pl lf x) (sp_M_enter_mo_23 ns 0 0 vkind vcond vlev x) (-2) 0 od).toInt ∧ (lp_M_machine_mo_25 np ns vdoes vgos vfrom vto vkind vtimes vcond vlev vask vcc vvar vleast vfirst vstep steps 4098 (sp_M_enter ns 0 f vfrom vkind vtimes vcond vlev vask vcc vvar vleast vfirst vstep pl lf x) (sp_M_enter_ad1 ns 0 f vkind vcond vlev vask vcc vvar vleast vfirst vstep pl x) (sp_M_enter_ad21 ns 0 vkind vtimes vcond vlev pl lf x) (sp_M_enter_ad19 ns 0 vkind vcond vlev pl x) (sp_M_enter_ad20 ns 0 vkind vcond vlev cl x 0) (sp_M_enter_mo_22 ns 0 f vkind vtimes vcond vlev vask vcc vvar vleast vfirst vstep pl lf x) (sp_M_enter_mo_23 ns 0 0 vkind vcond vlev x) (-2) 0 od).toInt ≤ max (0 : Int32).toInt steps.toInt) ∧
    (∀ q : Nat, (q : Int) < (lp_M_machine_mo_25 np ns vdoes vgos vfrom vto vkind vtimes vcond vlev vask vcc vvar vleast vfirst vstep steps 4098 (sp_M_enter ns 0 f vfrom vkind vtimes vcond vlev vask vcc vvar vleast vfirst vstep pl lf x) (sp_M_enter_ad1 ns 0 f vkind vcond vlev vask vcc vvar vleast vfirst vstep pl x) (sp_M_enter_ad21 ns 0 vkind vtimes vcond vlev pl lf x) (sp_M_enter_ad19 ns 0 vkind vcond vlev pl x) (sp_M_enter_ad20 ns 0 vkind vcond vlev cl x 0) (sp_M_enter_mo_22 ns 0 f vkind vtimes vcond vlev vask vcc vvar vleast vfirst vstep pl lf x) (sp_M_enter_mo_23 ns 0 0 vkind vcond vlev x) (-2) 0 od).toInt → (sp_travel_ra en np ns hi dd gd f lo pd ud rd x steps σ) q = (lp_M_machine_ad26 np ns vdoes vgos vfrom vto vkind vtimes vcond vlev vask vcc vvar vleast vfirst vstep steps 4098 (sp_M_enter ns 0 f vfrom vkind vtimes vcond vlev vask vcc vvar vleast vfirst vstep pl lf x) (sp_M_enter_ad1 ns 0 f vkind vcond vlev vask vcc vvar vleast vfirst vstep pl x) (sp_M_enter_ad21 ns 0 vkind vtimes vcond vlev pl lf x) (sp_M_enter_ad19 ns 0 vkind vcond vlev pl x) (sp_M_enter_ad20 ns 0 vkind vcond vlev cl x 0) (sp_M_enter_mo_22 ns 0 f vkind vtimes vcond vlev vask vcc vvar vleast vfirst vstep pl lf x) (sp_M_enter_mo_23 ns 0 0 vkind vcond vlev x) (-2) 0 od) q) := by
  have P0 : PRel np ns σ lo pd ud pl cl lf 0 := ⟨by decide, by decide, fun k hk => by rw [show (0 : Int32).toInt = 0 from rfl] at hk; omega⟩
  obtain ⟨E1, E2, E3, E4, E5⟩ := q_enter HG (h := 0) (hi := hi) (mo := 0) (Y := Y) en x 0 f P0 (Or.inl ⟨rfl, rfl⟩) hY
  have la2 := q_la_ok HG (h := 0) (x := x) hlo
  have pk2 := q_pk_ok HG (h := 0) (x := x) HQ.1
  have ca2 := q_ca_ok (ns := ns) (vkind := vkind) (vcond := vcond) (vlev := vlev) (h := 0) (x := x) (y := 0) ⟨by decide, by decide⟩ HQ.2
  have z0 : 0 ≤ (0 : Int32).toInt := by decide
  have z1 : steps.toInt ≤ (0 : Int32).toInt + (4096 : Nat) := by rw [show (0 : Int32).toInt = 0 from rfl]; omega
  have z2 : (0 : Int32).toInt ≤ 4096 := by decide
  unfold sp_travel sp_travel_co_4 sp_travel_co_5 sp_travel_va sp_travel_pi_3 sp_travel_pi_4 sp_travel_la sp_travel_pe sp_travel_tu sp_travel_ra
  rcases E1 with ⟨a1, a2, a3⟩ | ⟨a1, a2, a4, a5⟩
  · simp only [if_pos a1]
    have R := q_loop HG (Y := Y) (ln := ln) hst 4096 0 0 _ _ _ 0 _ _ _ rd _ _ _ _ _ _ _ od z0 z1 z2 (fun q hq => by rw [show (0 : Int32).toInt = 0 from rfl] at hq; omega) ⟨⟨Or.inr ⟨rfl, Or.inl ⟨(congrArg Int32.toInt a2).trans rfl, rfl⟩⟩, E2, E3, E4, E5, fun h => absurd rfl h⟩, la2, pk2, ca2⟩
    exact R
  · simp only [if_neg a1]
    have R := q_loop HG (Y := Y) (ln := ln) hst 4096 _ 0 _ _ _ _ _ _ _ rd _ _ _ _ _ _ _ od z0 z1 z2 (fun q hq => by rw [show (0 : Int32).toInt = 0 from rfl] at hq; omega) ⟨⟨a4, E2, E3, E4, E5, a5⟩, la2, pk2, ca2⟩
    exact R
set_option maxHeartbeats 2000000 in
theorem e_travel0 (HG : PRG np ns dd gd σ vdoes vgos vfrom vto vkind vtimes vcond vlev vask vcc vvar vleast vfirst vstep) (HQ : RQ ns vfrom vkind vlev pl cl) (hlo : ∀ k j : Nat, lo k = some j → (j : Int) < ns.toInt) (hY : hi.toInt = max Y.toInt (0 : Int32).toInt) {steps : Int64} (hst : steps.toInt ≤ 4096) (en x : Int32) (f : Nat → Int64) :
    (sp_travel0 en np ns hi dd gd f lo pd ud rd x steps σ) = (lp_M_machine_mo_25 np ns vdoes vgos vfrom vto vkind vtimes vcond vlev vask vcc vvar vleast vfirst vstep steps 4098 (sp_M_enter ns 0 f vfrom vkind vtimes vcond vlev vask vcc vvar vleast vfirst vstep pl lf x) (sp_M_enter_ad1 ns 0 f vkind vcond vlev vask vcc vvar vleast vfirst vstep pl x) (sp_M_enter_ad21 ns 0 vkind vtimes vcond vlev pl lf x) (sp_M_enter_ad19 ns 0 vkind vcond vlev pl x) (sp_M_enter_ad20 ns 0 vkind vcond vlev cl x 0) (sp_M_enter_mo_22 ns 0 f vkind vtimes vcond vlev vask vcc vvar vleast vfirst vstep pl lf x) (sp_M_enter_mo_23 ns 0 0 vkind vcond vlev x) (-2) 0 od) ∧
    (sp_travel0_co_4 ln en np ns hi dd gd f lo pd ud rd x steps σ) = (lp_M_machine_mo_25 np ns vdoes vgos vfrom vto vkind vtimes vcond vlev vask vcc vvar vleast vfirst vstep steps 4098 (sp_M_enter ns 0 f vfrom vkind vtimes vcond vlev vask vcc vvar vleast vfirst vstep pl lf x) (sp_M_enter_ad1 ns 0 f vkind vcond vlev vask vcc vvar vleast vfirst vstep pl x) (sp_M_enter_ad21 ns 0 vkind vtimes vcond vlev pl lf x) (sp_M_enter_ad19 ns 0 vkind vcond vlev pl x) (sp_M_enter_ad20 ns 0 vkind vcond vlev cl x 0) (sp_M_enter_mo_22 ns 0 f vkind vtimes vcond vlev vask vcc vvar vleast vfirst vstep pl lf x) (sp_M_enter_mo_23 ns 0 0 vkind vcond vlev x) (-2) 0 od) ∧
    (sp_travel0_co_5 en np ns hi dd gd f lo pd ud rd x steps σ) = (lp_M_machine_mo_24 np ns vdoes vgos vfrom vto vkind vtimes vcond vlev vask vcc vvar vleast vfirst vstep steps 4098 (sp_M_enter ns 0 f vfrom vkind vtimes vcond vlev vask vcc vvar vleast vfirst vstep pl lf x) (sp_M_enter_ad1 ns 0 f vkind vcond vlev vask vcc vvar vleast vfirst vstep pl x) (sp_M_enter_ad21 ns 0 vkind vtimes vcond vlev pl lf x) (sp_M_enter_ad19 ns 0 vkind vcond vlev pl x) (sp_M_enter_ad20 ns 0 vkind vcond vlev cl x 0) (sp_M_enter_mo_22 ns 0 f vkind vtimes vcond vlev vask vcc vvar vleast vfirst vstep pl lf x) (sp_M_enter_mo_23 ns 0 0 vkind vcond vlev x) (-2) 0 od) ∧
    (sp_travel0_va en np ns hi dd gd f lo pd ud rd x steps σ) = (lp_M_machine_ad1 np ns vdoes vgos vfrom vto vkind vtimes vcond vlev vask vcc vvar vleast vfirst vstep steps 4098 (sp_M_enter ns 0 f vfrom vkind vtimes vcond vlev vask vcc vvar vleast vfirst vstep pl lf x) (sp_M_enter_ad1 ns 0 f vkind vcond vlev vask vcc vvar vleast vfirst vstep pl x) (sp_M_enter_ad21 ns 0 vkind vtimes vcond vlev pl lf x) (sp_M_enter_ad19 ns 0 vkind vcond vlev pl x) (sp_M_enter_ad20 ns 0 vkind vcond vlev cl x 0) (sp_M_enter_mo_22 ns 0 f vkind vtimes vcond vlev vask vcc vvar vleast vfirst vstep pl lf x) (sp_M_enter_mo_23 ns 0 0 vkind vcond vlev x) (-2) 0 od) ∧
    (sp_travel0_pi_3 en np ns hi dd gd f lo pd ud rd x steps σ) = (lp_M_machine_mo_22 np ns vdoes vgos vfrom vto vkind vtimes vcond vlev vask vcc vvar vleast vfirst vstep steps 4098 (sp_M_enter ns 0 f vfrom vkind vtimes vcond vlev vask vcc vvar vleast vfirst vstep pl lf x) (sp_M_enter_ad1 ns 0 f vkind vcond vlev vask vcc vvar vleast vfirst vstep pl x) (sp_M_enter_ad21 ns 0 vkind vtimes vcond vlev pl lf x) (sp_M_enter_ad19 ns 0 vkind vcond vlev pl x) (sp_M_enter_ad20 ns 0 vkind vcond vlev cl x 0) (sp_M_enter_mo_22 ns 0 f vkind vtimes vcond vlev vask vcc vvar vleast vfirst vstep pl lf x) (sp_M_enter_mo_23 ns 0 0 vkind vcond vlev x) (-2) 0 od) ∧
    (sp_travel0_pi_4 en np ns hi dd gd f lo pd ud rd x steps σ).toInt = max Y.toInt (lp_M_machine_mo_23 np ns vdoes vgos vfrom vto vkind vtimes vcond vlev vask vcc vvar vleast vfirst vstep steps 4098 (sp_M_enter ns 0 f vfrom vkind vtimes vcond vlev vask vcc vvar vleast vfirst vstep pl lf x) (sp_M_enter_ad1 ns 0 f vkind vcond vlev vask vcc vvar vleast vfirst vstep pl x) (sp_M_enter_ad21 ns 0 vkind vtimes vcond vlev pl lf x) (sp_M_enter_ad19 ns 0 vkind vcond vlev pl x) (sp_M_enter_ad20 ns 0 vkind vcond vlev cl x 0) (sp_M_enter_mo_22 ns 0 f vkind vtimes vcond vlev vask vcc vvar vleast vfirst vstep pl lf x) (sp_M_enter_mo_23 ns 0 0 vkind vcond vlev x) (-2) 0 od).toInt ∧
    PRel np ns σ (sp_travel0_la en np ns hi dd gd f lo pd ud rd x steps σ) (sp_travel0_pe en np ns hi dd gd f lo pd ud rd x steps σ) (sp_travel0_tu en np ns hi dd gd f lo pd ud rd x steps σ) (lp_M_machine_ad19 np ns vdoes vgos vfrom vto vkind vtimes vcond vlev vask vcc vvar vleast vfirst vstep steps 4098 (sp_M_enter ns 0 f vfrom vkind vtimes vcond vlev vask vcc vvar vleast vfirst vstep pl lf x) (sp_M_enter_ad1 ns 0 f vkind vcond vlev vask vcc vvar vleast vfirst vstep pl x) (sp_M_enter_ad21 ns 0 vkind vtimes vcond vlev pl lf x) (sp_M_enter_ad19 ns 0 vkind vcond vlev pl x) (sp_M_enter_ad20 ns 0 vkind vcond vlev cl x 0) (sp_M_enter_mo_22 ns 0 f vkind vtimes vcond vlev vask vcc vvar vleast vfirst vstep pl lf x) (sp_M_enter_mo_23 ns 0 0 vkind vcond vlev x) (-2) 0 od) (lp_M_machine_ad20 np ns vdoes vgos vfrom vto vkind vtimes vcond vlev vask vcc vvar vleast vfirst vstep steps 4098 (sp_M_enter ns 0 f vfrom vkind vtimes vcond vlev vask vcc vvar vleast vfirst vstep pl lf x) (sp_M_enter_ad1 ns 0 f vkind vcond vlev vask vcc vvar vleast vfirst vstep pl x) (sp_M_enter_ad21 ns 0 vkind vtimes vcond vlev pl lf x) (sp_M_enter_ad19 ns 0 vkind vcond vlev pl x) (sp_M_enter_ad20 ns 0 vkind vcond vlev cl x 0) (sp_M_enter_mo_22 ns 0 f vkind vtimes vcond vlev vask vcc vvar vleast vfirst vstep pl lf x) (sp_M_enter_mo_23 ns 0 0 vkind vcond vlev x) (-2) 0 od) (lp_M_machine_ad21 np ns vdoes vgos vfrom vto vkind vtimes vcond vlev vask vcc vvar vleast vfirst vstep steps 4098 (sp_M_enter ns 0 f vfrom vkind vtimes vcond vlev vask vcc vvar vleast vfirst vstep pl lf x) (sp_M_enter_ad1 ns 0 f vkind vcond vlev vask vcc vvar vleast vfirst vstep pl x) (sp_M_enter_ad21 ns 0 vkind vtimes vcond vlev pl lf x) (sp_M_enter_ad19 ns 0 vkind vcond vlev pl x) (sp_M_enter_ad20 ns 0 vkind vcond vlev cl x 0) (sp_M_enter_mo_22 ns 0 f vkind vtimes vcond vlev vask vcc vvar vleast vfirst vstep pl lf x) (sp_M_enter_mo_23 ns 0 0 vkind vcond vlev x) (-2) 0 od) (sp_travel0_pi_3 en np ns hi dd gd f lo pd ud rd x steps σ) ∧
    (∀ a_ j_ : Nat, (sp_travel0_la en np ns hi dd gd f lo pd ud rd x steps σ) a_ = some j_ → (j_ : Int) < ns.toInt) ∧
    (∀ a_ : Nat, PN ns vfrom vkind vlev ((lp_M_machine_ad19 np ns vdoes vgos vfrom vto vkind vtimes vcond vlev vask vcc vvar vleast vfirst vstep steps 4098 (sp_M_enter ns 0 f vfrom vkind vtimes vcond vlev vask vcc vvar vleast vfirst vstep pl lf x) (sp_M_enter_ad1 ns 0 f vkind vcond vlev vask vcc vvar vleast vfirst vstep pl x) (sp_M_enter_ad21 ns 0 vkind vtimes vcond vlev pl lf x) (sp_M_enter_ad19 ns 0 vkind vcond vlev pl x) (sp_M_enter_ad20 ns 0 vkind vcond vlev cl x 0) (sp_M_enter_mo_22 ns 0 f vkind vtimes vcond vlev vask vcc vvar vleast vfirst vstep pl lf x) (sp_M_enter_mo_23 ns 0 0 vkind vcond vlev x) (-2) 0 od) a_)) ∧
    (∀ a_ : Nat, 0 ≤ ((lp_M_machine_ad20 np ns vdoes vgos vfrom vto vkind vtimes vcond vlev vask vcc vvar vleast vfirst vstep steps 4098 (sp_M_enter ns 0 f vfrom vkind vtimes vcond vlev vask vcc vvar vleast vfirst vstep pl lf x) (sp_M_enter_ad1 ns 0 f vkind vcond vlev vask vcc vvar vleast vfirst vstep pl x) (sp_M_enter_ad21 ns 0 vkind vtimes vcond vlev pl lf x) (sp_M_enter_ad19 ns 0 vkind vcond vlev pl x) (sp_M_enter_ad20 ns 0 vkind vcond vlev cl x 0) (sp_M_enter_mo_22 ns 0 f vkind vtimes vcond vlev vask vcc vvar vleast vfirst vstep pl lf x) (sp_M_enter_mo_23 ns 0 0 vkind vcond vlev x) (-2) 0 od) a_).toInt ∧ ((lp_M_machine_ad20 np ns vdoes vgos vfrom vto vkind vtimes vcond vlev vask vcc vvar vleast vfirst vstep steps 4098 (sp_M_enter ns 0 f vfrom vkind vtimes vcond vlev vask vcc vvar vleast vfirst vstep pl lf x) (sp_M_enter_ad1 ns 0 f vkind vcond vlev vask vcc vvar vleast vfirst vstep pl x) (sp_M_enter_ad21 ns 0 vkind vtimes vcond vlev pl lf x) (sp_M_enter_ad19 ns 0 vkind vcond vlev pl x) (sp_M_enter_ad20 ns 0 vkind vcond vlev cl x 0) (sp_M_enter_mo_22 ns 0 f vkind vtimes vcond vlev vask vcc vvar vleast vfirst vstep pl lf x) (sp_M_enter_mo_23 ns 0 0 vkind vcond vlev x) (-2) 0 od) a_).toInt ≤ 60) ∧
    (0 ≤ (lp_M_machine_mo_25 np ns vdoes vgos vfrom vto vkind vtimes vcond vlev vask vcc vvar vleast vfirst vstep steps 4098 (sp_M_enter ns 0 f vfrom vkind vtimes vcond vlev vask vcc vvar vleast vfirst vstep pl lf x) (sp_M_enter_ad1 ns 0 f vkind vcond vlev vask vcc vvar vleast vfirst vstep pl x) (sp_M_enter_ad21 ns 0 vkind vtimes vcond vlev pl lf x) (sp_M_enter_ad19 ns 0 vkind vcond vlev pl x) (sp_M_enter_ad20 ns 0 vkind vcond vlev cl x 0) (sp_M_enter_mo_22 ns 0 f vkind vtimes vcond vlev vask vcc vvar vleast vfirst vstep pl lf x) (sp_M_enter_mo_23 ns 0 0 vkind vcond vlev x) (-2) 0 od).toInt ∧ (lp_M_machine_mo_25 np ns vdoes vgos vfrom vto vkind vtimes vcond vlev vask vcc vvar vleast vfirst vstep steps 4098 (sp_M_enter ns 0 f vfrom vkind vtimes vcond vlev vask vcc vvar vleast vfirst vstep pl lf x) (sp_M_enter_ad1 ns 0 f vkind vcond vlev vask vcc vvar vleast vfirst vstep pl x) (sp_M_enter_ad21 ns 0 vkind vtimes vcond vlev pl lf x) (sp_M_enter_ad19 ns 0 vkind vcond vlev pl x) (sp_M_enter_ad20 ns 0 vkind vcond vlev cl x 0) (sp_M_enter_mo_22 ns 0 f vkind vtimes vcond vlev vask vcc vvar vleast vfirst vstep pl lf x) (sp_M_enter_mo_23 ns 0 0 vkind vcond vlev x) (-2) 0 od).toInt ≤ max (0 : Int32).toInt steps.toInt) := by
  have P0 : PRel np ns σ lo pd ud pl cl lf 0 := ⟨by decide, by decide, fun k hk => by rw [show (0 : Int32).toInt = 0 from rfl] at hk; omega⟩
  obtain ⟨E1, E2, E3, E4, E5⟩ := q_enter HG (h := 0) (hi := hi) (mo := 0) (Y := Y) en x 0 f P0 (Or.inl ⟨rfl, rfl⟩) hY
  have la2 := q_la_ok HG (h := 0) (x := x) hlo
  have pk2 := q_pk_ok HG (h := 0) (x := x) HQ.1
  have ca2 := q_ca_ok (ns := ns) (vkind := vkind) (vcond := vcond) (vlev := vlev) (h := 0) (x := x) (y := 0) ⟨by decide, by decide⟩ HQ.2
  have z0 : 0 ≤ (0 : Int32).toInt := by decide
  have z1 : steps.toInt ≤ (0 : Int32).toInt + (4096 : Nat) := by rw [show (0 : Int32).toInt = 0 from rfl]; omega
  have z2 : (0 : Int32).toInt ≤ 4096 := by decide
  unfold sp_travel0 sp_travel0_co_4 sp_travel0_co_5 sp_travel0_va sp_travel0_pi_3 sp_travel0_pi_4 sp_travel0_la sp_travel0_pe sp_travel0_tu
  rcases E1 with ⟨a1, a2, a3⟩ | ⟨a1, a2, a4, a5⟩
  · simp only [if_pos a1]
    have R := q_loop0 HG (Y := Y) (ln := ln) hst 4096 0 0 _ _ _ 0 _ _ _ rd _ _ _ _ _ _ _ od z0 z1 z2 ⟨⟨Or.inr ⟨rfl, Or.inl ⟨(congrArg Int32.toInt a2).trans rfl, rfl⟩⟩, E2, E3, E4, E5, fun h => absurd rfl h⟩, la2, pk2, ca2⟩
    exact R
  · simp only [if_neg a1]
    have R := q_loop0 HG (Y := Y) (ln := ln) hst 4096 _ 0 _ _ _ _ _ _ _ rd _ _ _ _ _ _ _ od z0 z1 z2 ⟨⟨a4, E2, E3, E4, E5, a5⟩, la2, pk2, ca2⟩
    exact R
theorem e_can (HG : PRG np ns dd gd σ vdoes vgos vfrom vto vkind vtimes vcond vlev vask vcc vvar vleast vfirst vstep) (x : Int32) (steps : Int64) : sp_canBeRun ns x steps σ = sp_M_isRun ns vkind vcond vlev x steps := by
  unfold sp_canBeRun sp_M_isRun
  rcases q_whole HG x with ⟨w1, w2⟩ | ⟨j, w1, w2, -⟩
  · rw [w1, oc_none, if_pos w2]
  · rw [w1, oc_some, if_neg w2]
theorem e_lor {steps : Int64} {x r : Int32} {f : Nat → Int64} {o : Nat → Int32} (hr : (lp_M_machine_mo_25 np ns vdoes vgos vfrom vto vkind vtimes vcond vlev vask vcc vvar vleast vfirst vstep steps 4098 (sp_M_enter ns 0 f vfrom vkind vtimes vcond vlev vask vcc vvar vleast vfirst vstep pl lf x) (sp_M_enter_ad1 ns 0 f vkind vcond vlev vask vcc vvar vleast vfirst vstep pl x) (sp_M_enter_ad21 ns 0 vkind vtimes vcond vlev pl lf x) (sp_M_enter_ad19 ns 0 vkind vcond vlev pl x) (sp_M_enter_ad20 ns 0 vkind vcond vlev cl x 0) (sp_M_enter_mo_22 ns 0 f vkind vtimes vcond vlev vask vcc vvar vleast vfirst vstep pl lf x) (sp_M_enter_mo_23 ns 0 0 vkind vcond vlev x) (-2) 0 od) = r) (ho : (lp_M_machine_ad26 np ns vdoes vgos vfrom vto vkind vtimes vcond vlev vask vcc vvar vleast vfirst vstep steps 4098 (sp_M_enter ns 0 f vfrom vkind vtimes vcond vlev vask vcc vvar vleast vfirst vstep pl lf x) (sp_M_enter_ad1 ns 0 f vkind vcond vlev vask vcc vvar vleast vfirst vstep pl x) (sp_M_enter_ad21 ns 0 vkind vtimes vcond vlev pl lf x) (sp_M_enter_ad19 ns 0 vkind vcond vlev pl x) (sp_M_enter_ad20 ns 0 vkind vcond vlev cl x 0) (sp_M_enter_mo_22 ns 0 f vkind vtimes vcond vlev vask vcc vvar vleast vfirst vstep pl lf x) (sp_M_enter_mo_23 ns 0 0 vkind vcond vlev x) (-2) 0 od) = o) : ∀ (n : Nat) (k : Int32) (lor : Nat → Int32), 0 ≤ k.toInt → r.toInt < k.toInt + n → r.toInt ≤ 4096 → (∀ q : Nat, (q : Int) < k.toInt → lor q = o q) → ∀ q : Nat, (q : Int) < r.toInt → il_M_run_75_lor np ns f vdoes vgos vfrom vto vkind vtimes vcond vlev vask vcc vvar vleast vfirst vstep pl cl lf od x steps n k lor q = o q := by
  intro n
  induction n with
  | zero =>
    intro k lor hk hn h4 h q hq
    exact h q (by omega)
  | succ n ih =>
    intro k lor hk hn h4 h q hq
    rw [il_M_run_75_lor, hr, ho]
    by_cases c : r ≤ k
    · have c' := Int32.le_iff_toInt_le.mp c
      rw [if_pos c]
      exact h q (by omega)
    · have c' := mt Int32.le_iff_toInt_le.mpr c
      have b := clampI (x := k) hk
      have e1 : (k + 1).toInt = k.toInt + 1 := i32_add1 (by omega)
      rw [if_neg c]
      refine ih (k + 1) _ (by omega) (by omega) h4 (fun q2 hq2 => ?_) q hq
      by_cases cq : q2 = k.toNatClampNeg
      · rw [cq, pk_us]
      · rw [pk_un cq]
        exact h q2 (by omega)
theorem e_lpl {steps : Int64} {x r : Int32} {f : Nat → Int64} {o : Nat → Int32} (hr : (lp_M_machine_mo_22 np ns vdoes vgos vfrom vto vkind vtimes vcond vlev vask vcc vvar vleast vfirst vstep steps 4098 (sp_M_enter ns 0 f vfrom vkind vtimes vcond vlev vask vcc vvar vleast vfirst vstep pl lf x) (sp_M_enter_ad1 ns 0 f vkind vcond vlev vask vcc vvar vleast vfirst vstep pl x) (sp_M_enter_ad21 ns 0 vkind vtimes vcond vlev pl lf x) (sp_M_enter_ad19 ns 0 vkind vcond vlev pl x) (sp_M_enter_ad20 ns 0 vkind vcond vlev cl x 0) (sp_M_enter_mo_22 ns 0 f vkind vtimes vcond vlev vask vcc vvar vleast vfirst vstep pl lf x) (sp_M_enter_mo_23 ns 0 0 vkind vcond vlev x) (-2) 0 od) = r) (ho : (lp_M_machine_ad19 np ns vdoes vgos vfrom vto vkind vtimes vcond vlev vask vcc vvar vleast vfirst vstep steps 4098 (sp_M_enter ns 0 f vfrom vkind vtimes vcond vlev vask vcc vvar vleast vfirst vstep pl lf x) (sp_M_enter_ad1 ns 0 f vkind vcond vlev vask vcc vvar vleast vfirst vstep pl x) (sp_M_enter_ad21 ns 0 vkind vtimes vcond vlev pl lf x) (sp_M_enter_ad19 ns 0 vkind vcond vlev pl x) (sp_M_enter_ad20 ns 0 vkind vcond vlev cl x 0) (sp_M_enter_mo_22 ns 0 f vkind vtimes vcond vlev vask vcc vvar vleast vfirst vstep pl lf x) (sp_M_enter_mo_23 ns 0 0 vkind vcond vlev x) (-2) 0 od) = o) (hr0 : r.toInt ≤ 100) (hor : ∀ k : Nat, 0 ≤ (o k).toInt ∧ (o k).toInt ≤ 60) : ∀ (n : Nat) (k : Int32) (lpl : Nat → Int32), 1 ≤ k.toInt → r.toInt < k.toInt + n → (∀ q : Nat, 1 ≤ q → (q : Int) < k.toInt → lpl q = o q) → (∀ q : Nat, 0 ≤ (lpl q).toInt ∧ (lpl q).toInt ≤ 60) → (∀ q : Nat, 1 ≤ q → (q : Int) ≤ r.toInt → il_M_run_107_lpl np ns f vdoes vgos vfrom vto vkind vtimes vcond vlev vask vcc vvar vleast vfirst vstep pl cl lf od x steps n k lpl q = o q) ∧ ∀ q : Nat, 0 ≤ (il_M_run_107_lpl np ns f vdoes vgos vfrom vto vkind vtimes vcond vlev vask vcc vvar vleast vfirst vstep pl cl lf od x steps n k lpl q).toInt ∧ (il_M_run_107_lpl np ns f vdoes vgos vfrom vto vkind vtimes vcond vlev vask vcc vvar vleast vfirst vstep pl cl lf od x steps n k lpl q).toInt ≤ 60 := by
  intro n
  induction n with
  | zero =>
    intro k lpl hk hn h h6
    exact ⟨fun q h1 hq => h q h1 (by omega), h6⟩
  | succ n ih =>
    intro k lpl hk hn h h6
    rw [il_M_run_107_lpl, hr, ho]
    by_cases c : r < k
    · have c' := Int32.lt_iff_toInt_lt.mp c
      rw [if_pos c]
      exact ⟨fun q h1 hq => h q h1 (by omega), h6⟩
    · have c' := mt Int32.lt_iff_toInt_lt.mpr c
      have b := clampI (x := k) (by omega)
      have e1 : (k + 1).toInt = k.toInt + 1 := i32_add1 (by omega)
      rw [if_neg c]
      refine ih (k + 1) _ (by omega) (by omega) (fun q2 h1 hq2 => ?_) (fun q2 => upd_all (P := fun v => 0 ≤ v.toInt ∧ v.toInt ≤ 60) h6 (hor _) q2)
      by_cases cq : q2 = k.toNatClampNeg
      · rw [cq, pk_us]
      · rw [pk_un cq]
        exact h q2 h1 (by omega)
set_option maxHeartbeats 2000000 in
theorem e_run (H : RP np ns dd gd σ vdoes vgos vfrom vto vkind vtimes vcond vlev vask vcc vvar vleast vfirst vstep) (HQ : RQ ns vfrom vkind vlev pl cl) (HR : RR ns ln hh hi hi2 rd lo lo2 vlord vlpile) (en x : Int32) (steps : Int64) (f : Nat → Int64) :
    (sp_PR_run en np ns hi dd gd f lo pd ud rd x steps σ) = (sp_M_run np ns f vdoes vgos vfrom vto vkind vtimes vcond vlev vask vcc vvar vleast vfirst vstep pl cl lf od x steps) ∧
    (sp_PR_run_lt_5 en np ns hi dd gd f lo pd ud rd x steps σ) = (sp_M_run_mo_27 np ns en f vdoes vgos vfrom vto vkind vtimes vcond vlev vask vcc vvar vleast vfirst vstep pl cl lf od x steps) ∧
    (sp_PR_run_pi_3 en np ns hh hi dd gd f lo pd ud rd x steps σ) = (sp_M_run_mo_28 np ns hh f vdoes vgos vfrom vto vkind vtimes vcond vlev vask vcc vvar vleast vfirst vstep pl cl lf od x steps) ∧
    (sp_PR_run_pi_4 en np ns hi dd gd f lo pd ud rd x steps σ) = (sp_M_run_mo_29 np ns hi f vdoes vgos vfrom vto vkind vtimes vcond vlev vask vcc vvar vleast vfirst vstep pl cl lf od x steps) ∧
    (sp_PR_run_lt_4 ln en np ns hi dd gd f lo pd ud rd x steps σ) = (sp_M_run_mo_30 np ns ln f vdoes vgos vfrom vto vkind vtimes vcond vlev vask vcc vvar vleast vfirst vstep pl cl lf od x steps) ∧
    (sp_PR_run_va en np ns hi dd gd f lo pd ud rd x steps σ) = (sp_M_run_ad1 np ns f vdoes vgos vfrom vto vkind vtimes vcond vlev vask vcc vvar vleast vfirst vstep pl cl lf od x steps) ∧
    RQ ns vfrom vkind vlev (sp_M_run_ad19 np ns f vdoes vgos vfrom vto vkind vtimes vcond vlev vask vcc vvar vleast vfirst vstep pl cl lf od x steps) (sp_M_run_ad20 np ns f vdoes vgos vfrom vto vkind vtimes vcond vlev vask vcc vvar vleast vfirst vstep pl cl lf od x steps) ∧
    RR ns (sp_PR_run_lt_4 ln en np ns hi dd gd f lo pd ud rd x steps σ) (sp_PR_run_pi_3 en np ns hh hi dd gd f lo pd ud rd x steps σ) (sp_PR_run_pi_4 en np ns hi dd gd f lo pd ud rd x steps σ) hi2 (sp_PR_run_ra en np ns hi dd gd f lo pd ud rd x steps σ) (sp_PR_run_la en np ns hi dd gd f lo pd ud rd x steps σ) lo2 (sp_M_run_ad31 np ns f vdoes vgos vfrom vto vkind vtimes vcond vlev vask vcc vvar vleast vfirst vstep pl cl lf od vlord x steps) (sp_M_run_ad32 np ns f vdoes vgos vfrom vto vkind vtimes vcond vlev vask vcc vvar vleast vfirst vstep pl cl lf od vlpile x steps) := by
  have HG := H.1
  obtain ⟨r1, ⟨r2, r3, r4⟩, ⟨r5, r5'⟩, r6, r7, r8⟩ := id HR
  have hc := e_can HG x steps
  unfold sp_PR_run sp_PR_run_lt_5 sp_PR_run_pi_3 sp_PR_run_pi_4 sp_PR_run_lt_4 sp_PR_run_va sp_PR_run_ra sp_PR_run_la sp_M_run sp_M_run_mo_27 sp_M_run_mo_28 sp_M_run_mo_29 sp_M_run_mo_30 sp_M_run_ad1 sp_M_run_ad19 sp_M_run_ad20 sp_M_run_ad31 sp_M_run_ad32
  rw [← hc]
  by_cases c : sp_canBeRun ns x steps σ = 0
  · simp only [if_pos c]
    exact ⟨trivial, trivial, trivial, trivial, trivial, trivial, HQ, HR⟩
  · simp only [if_neg c]
    obtain ⟨s1, s2⟩ := canBeRun_ne c
    obtain ⟨T1, T2, T3, T4, T5, T6, T7, T8, T9, T10, T11, T12⟩ := e_travel HG HQ (lo := lo) (pd := pd) (ud := ud) (lf := lf) (od := od) (rd := rd) (ln := ln) (hi := hi) (Y := hi) r6 (by rw [show (0 : Int32).toInt = 0 from rfl]; omega) s2 en x f
    have L5 : 0 ≤ (sp_travel_pi_3 en np ns hi dd gd f lo pd ud rd x steps σ).toInt ∧ (sp_travel_pi_3 en np ns hi dd gd f lo pd ud rd x steps σ).toInt ≤ 100 := ⟨T7.1, T7.2.1⟩
    have T7' := T7.2.2
    have LL := e_lpl (np := np) (r := (lp_M_machine_mo_22 np ns vdoes vgos vfrom vto vkind vtimes vcond vlev vask vcc vvar vleast vfirst vstep steps 4098 (sp_M_enter ns 0 f vfrom vkind vtimes vcond vlev vask vcc vvar vleast vfirst vstep pl lf x) (sp_M_enter_ad1 ns 0 f vkind vcond vlev vask vcc vvar vleast vfirst vstep pl x) (sp_M_enter_ad21 ns 0 vkind vtimes vcond vlev pl lf x) (sp_M_enter_ad19 ns 0 vkind vcond vlev pl x) (sp_M_enter_ad20 ns 0 vkind vcond vlev cl x 0) (sp_M_enter_mo_22 ns 0 f vkind vtimes vcond vlev vask vcc vvar vleast vfirst vstep pl lf x) (sp_M_enter_mo_23 ns 0 0 vkind vcond vlev x) (-2) 0 od)) (o := (lp_M_machine_ad19 np ns vdoes vgos vfrom vto vkind vtimes vcond vlev vask vcc vvar vleast vfirst vstep steps 4098 (sp_M_enter ns 0 f vfrom vkind vtimes vcond vlev vask vcc vvar vleast vfirst vstep pl lf x) (sp_M_enter_ad1 ns 0 f vkind vcond vlev vask vcc vvar vleast vfirst vstep pl x) (sp_M_enter_ad21 ns 0 vkind vtimes vcond vlev pl lf x) (sp_M_enter_ad19 ns 0 vkind vcond vlev pl x) (sp_M_enter_ad20 ns 0 vkind vcond vlev cl x 0) (sp_M_enter_mo_22 ns 0 f vkind vtimes vcond vlev vask vcc vvar vleast vfirst vstep pl lf x) (sp_M_enter_mo_23 ns 0 0 vkind vcond vlev x) (-2) 0 od)) rfl rfl (by rw [← T5]; exact L5.2) (fun k => ⟨(T9 k).1.1, (T9 k).1.2.1⟩) 102 1 vlpile (by decide) (by rw [← T5, show (1 : Int32).toInt = 1 from rfl]; omega) (fun q h1 hq => by rw [show (1 : Int32).toInt = 1 from rfl] at hq; omega) r8
    have LO := e_lor (np := np) (r := (lp_M_machine_mo_25 np ns vdoes vgos vfrom vto vkind vtimes vcond vlev vask vcc vvar vleast vfirst vstep steps 4098 (sp_M_enter ns 0 f vfrom vkind vtimes vcond vlev vask vcc vvar vleast vfirst vstep pl lf x) (sp_M_enter_ad1 ns 0 f vkind vcond vlev vask vcc vvar vleast vfirst vstep pl x) (sp_M_enter_ad21 ns 0 vkind vtimes vcond vlev pl lf x) (sp_M_enter_ad19 ns 0 vkind vcond vlev pl x) (sp_M_enter_ad20 ns 0 vkind vcond vlev cl x 0) (sp_M_enter_mo_22 ns 0 f vkind vtimes vcond vlev vask vcc vvar vleast vfirst vstep pl lf x) (sp_M_enter_mo_23 ns 0 0 vkind vcond vlev x) (-2) 0 od)) (o := (lp_M_machine_ad26 np ns vdoes vgos vfrom vto vkind vtimes vcond vlev vask vcc vvar vleast vfirst vstep steps 4098 (sp_M_enter ns 0 f vfrom vkind vtimes vcond vlev vask vcc vvar vleast vfirst vstep pl lf x) (sp_M_enter_ad1 ns 0 f vkind vcond vlev vask vcc vvar vleast vfirst vstep pl x) (sp_M_enter_ad21 ns 0 vkind vtimes vcond vlev pl lf x) (sp_M_enter_ad19 ns 0 vkind vcond vlev pl x) (sp_M_enter_ad20 ns 0 vkind vcond vlev cl x 0) (sp_M_enter_mo_22 ns 0 f vkind vtimes vcond vlev vask vcc vvar vleast vfirst vstep pl lf x) (sp_M_enter_mo_23 ns 0 0 vkind vcond vlev x) (-2) 0 od)) rfl rfl 4098 0 vlord (by decide) (by rw [show (0 : Int32).toInt = 0 from rfl] at T11 ⊢; omega) (by rw [show (0 : Int32).toInt = 0 from rfl] at T11; omega) (fun q hq => by rw [show (0 : Int32).toInt = 0 from rfl] at hq; omega)
    refine ⟨T1, T3, T5, ?_, T2, T4, ⟨T9, T10⟩, ?_⟩
    · generalize (lp_M_machine_mo_23 np ns vdoes vgos vfrom vto vkind vtimes vcond vlev vask vcc vvar vleast vfirst vstep steps 4098 (sp_M_enter ns 0 f vfrom vkind vtimes vcond vlev vask vcc vvar vleast vfirst vstep pl lf x) (sp_M_enter_ad1 ns 0 f vkind vcond vlev vask vcc vvar vleast vfirst vstep pl x) (sp_M_enter_ad21 ns 0 vkind vtimes vcond vlev pl lf x) (sp_M_enter_ad19 ns 0 vkind vcond vlev pl x) (sp_M_enter_ad20 ns 0 vkind vcond vlev cl x 0) (sp_M_enter_mo_22 ns 0 f vkind vtimes vcond vlev vask vcc vvar vleast vfirst vstep pl lf x) (sp_M_enter_mo_23 ns 0 0 vkind vcond vlev x) (-2) 0 od) = mm at T6
      generalize sp_travel_pi_4 en np ns hi dd gd f lo pd ud rd x steps σ = ph at T6
      apply Int32.toInt_inj.mp
      by_cases d : mm ≤ hi
      · have d' := Int32.le_iff_toInt_le.mp d
        rw [if_pos d]
        omega
      · have d' := mt Int32.le_iff_toInt_le.mpr d
        rw [if_neg d]
        omega
    · have r50 : 0 ≤ (sp_travel_pi_4 en np ns hi dd gd f lo pd ud rd x steps σ).toInt := by omega
      refine ⟨?_, ⟨L5.1, L5.2, fun k hk => ?_⟩, ⟨r50, r5'⟩, T8, r7, LL.2⟩
      · rw [T2]
        exact ⟨T11.1, by rw [show (0 : Int32).toInt = 0 from rfl] at T11; omega, fun k hk => (T12 k hk).trans (LO k hk).symm⟩
      · obtain ⟨j, p1, p2, p3, -⟩ := T7' k hk
        refine ⟨j, p1, p2, ?_⟩
        rw [LL.1 (k + 1) (by omega) (by rw [← T5]; omega)]
        exact p3
theorem e_copy (f : Nat → Int64) : ∀ (n : Nat) (k : Int32) (g : Nat → Int64), 0 ≤ k.toInt → 16 < k.toInt + n → k.toInt ≤ 16 → (∀ q : Nat, (q : Int) < k.toInt → g q = f q) → (∀ q : Nat, q < 16 → lp_Cells_copyFrom_va f n k g q = f q) ∧ ∀ q : Nat, 16 ≤ q → lp_Cells_copyFrom_va f n k g q = g q := by
  intro n
  induction n with
  | zero =>
    intro k g hk hn hk2 h
    omega
  | succ n ih =>
    intro k g hk hn hk2 h
    rw [lp_Cells_copyFrom_va]
    by_cases c : 16 ≤ k
    · have c' := Int32.le_iff_toInt_le.mp c
      rw [show (16 : Int32).toInt = 16 from rfl] at c'
      rw [if_pos c]
      exact ⟨fun q hq => h q (by omega), fun q hq => rfl⟩
    · have c' := mt Int32.le_iff_toInt_le.mpr c
      rw [show (16 : Int32).toInt = 16 from rfl] at c'
      have b := clampI (x := k) hk
      have e1 : (k + 1).toInt = k.toInt + 1 := i32_add1 (by omega)
      rw [if_neg c]
      obtain ⟨i1, i2⟩ := ih (k + 1) (vp_updL g k.toNatClampNeg (f k.toNatClampNeg)) (by omega) (by omega) (by omega) (fun q hq => by
        by_cases cq : q = k.toNatClampNeg
        · rw [cq, pk_uls]
        · rw [pk_uln cq]
          exact h q (by omega))
      exact ⟨i1, fun q hq => (i2 q hq).trans (pk_uln (by omega))⟩
theorem e_kp (f : Nat → Int64) : ∀ (n : Nat) (k : Int32) (g : Nat → Int64), il_M_plain_19_kp f n k g = lp_Cells_copyFrom_va f n k g
  | 0, _, _ => rfl
  | n + 1, k, g => by
    rw [il_M_plain_19_kp, lp_Cells_copyFrom_va, e_kp f n]
theorem e_g3 (f kp : Nat → Int64) : ∀ (n : Nat) (k : Int32) (g : Nat → Int64), il_M_plain_55_g3 f kp n k g = lp_Cells_copyFrom_va (il_M_plain_19_kp f 17 0 kp) n k g
  | 0, _, _ => rfl
  | n + 1, k, g => by
    rw [il_M_plain_55_g3, lp_Cells_copyFrom_va, e_g3 f kp n]
set_option maxHeartbeats 2000000 in
theorem e_plain (H : RP np ns dd gd σ vdoes vgos vfrom vto vkind vtimes vcond vlev vask vcc vvar vleast vfirst vstep) (HQ : RQ ns vfrom vkind vlev pl cl) {rd0 : Nat → Int32} (HR : RR ns ln hh hi hi2 rd0 lo lo2 vlord vlpile) (en2 x : Int32) (steps : Int64) (f f2 kp : Nat → Int64) (hf : ∀ q : Nat, 16 ≤ q → f2 q = f q) :
    (sp_PR_plain en2 np ns hi2 dd gd f f2 lo2 pd ud rd x steps σ) = (sp_M_plain np ns f vdoes vgos vfrom vto vkind vtimes vcond vlev vask vcc vvar vleast vfirst vstep pl cl lf od x steps) ∧
    (∀ q : Nat, q < 16 → (sp_M_plain_ad1 np ns f kp vdoes vgos vfrom vto vkind vtimes vcond vlev vask vcc vvar vleast vfirst vstep pl cl lf od x steps) q = f q) ∧
    RQ ns vfrom vkind vlev (sp_M_plain_ad19 np ns f vdoes vgos vfrom vto vkind vtimes vcond vlev vask vcc vvar vleast vfirst vstep pl cl lf od x steps) (sp_M_plain_ad20 np ns f vdoes vgos vfrom vto vkind vtimes vcond vlev vask vcc vvar vleast vfirst vstep pl cl lf od x steps) ∧
    RR ns ln hh hi (sp_PR_plain_pi2_4 en2 np ns hi2 dd gd f f2 lo2 pd ud rd x steps σ) rd0 lo (sp_PR_plain_la2 en2 np ns hi2 dd gd f f2 lo2 pd ud rd x steps σ) vlord vlpile := by
  have HG := H.1
  obtain ⟨r1, r2, ⟨r5, r5'⟩, r6, r7, r8⟩ := id HR
  have hc := e_can HG x steps
  have cp : lp_Cells_copyFrom_va f 17 0 f2 = f := by
    obtain ⟨i1, i2⟩ := e_copy f 17 0 f2 (by decide) (by decide) (by decide) (fun q hq => by rw [show (0 : Int32).toInt = 0 from rfl] at hq; omega)
    funext q
    by_cases c : q < 16
    · exact i1 q c
    · exact (i2 q (by omega)).trans (hf q (by omega))
  unfold sp_PR_plain sp_PR_plain_pi2_4 sp_PR_plain_la2 sp_M_plain sp_M_plain_ad1 sp_M_plain_ad19 sp_M_plain_ad20
  rw [← hc, cp]
  by_cases c : sp_canBeRun ns x steps σ = 0
  · simp only [if_pos c]
    exact ⟨trivial, fun q hq => trivial, HQ, HR⟩
  · simp only [if_neg c]
    obtain ⟨s1, s2⟩ := canBeRun_ne c
    obtain ⟨T1, T2, T3, T4, T5, T6, T7, T8, T9, T10, T11⟩ := e_travel0 HG HQ (lo := lo2) (pd := pd) (ud := ud) (lf := lf) (od := od) (rd := rd) (ln := ln) (hi := hi2) (Y := hi2) r7 (by rw [show (0 : Int32).toInt = 0 from rfl]; omega) s2 en2 x f
    refine ⟨T1, fun q hq => ?_, ⟨T9, T10⟩, r1, r2, ⟨r5, by omega⟩, r6, T8, r8⟩
    rw [e_g3, (e_copy _ 17 0 _ (by decide) (by decide) (by decide) (fun q hq => by rw [show (0 : Int32).toInt = 0 from rfl] at hq; omega)).1 q hq, e_kp]
    exact (e_copy f 17 0 kp (by decide) (by decide) (by decide) (fun q hq => by rw [show (0 : Int32).toInt = 0 from rfl] at hq; omega)).1 q hq
end EQ13
