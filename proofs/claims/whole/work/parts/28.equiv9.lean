/-- what lies on the reference's pile -/
def PN (ns : Int32) (vfrom vkind vlev : Nat → Int32) (v : Int32) : Prop := PK vfrom vkind vlev v ∧ v.toInt ≤ ns.toInt
/-- what a run's loop keeps: class and reference -/
def IV (np ns Y : Int32) (σ : Nat → Stm) (vfrom vkind vlev : Nat → Int32) (r en : Int32) (g : Nat → Int64) (h hi : Int32) (ud pd : Nat → Int32) (lo : Nat → Option Nat) (p : Int32) (g2 : Nat → Int64) (h2 mo : Int32) (pl cl lf : Nat → Int32) : Prop :=
  SS np ns Y σ r en g h hi ud pd lo p g2 h2 mo pl cl lf ∧ (∀ k j : Nat, lo k = some j → (j : Int) < ns.toInt) ∧ (∀ k : Nat, PN ns vfrom vkind vlev (pl k)) ∧ ∀ k : Nat, 0 ≤ (cl k).toInt ∧ (cl k).toInt ≤ 60
def LE9 (np ns Y : Int32) (dd gd : Nat → Int32) (σ : Nat → Stm) (vdoes vgos vfrom vto vkind vtimes vcond vlev vask vcc vvar : Nat → Int32) (vleast vfirst vstep : Nat → Int64) (steps : Int64) (ln : Int32) (n : Nat) (nx k : Int32) (g : Nat → Int64) (h hi en : Int32) (ud pd : Nat → Int32) (lo : Nat → Option Nat) (rd : Nat → Int32) (n2 : Nat) (pp : Int32) (g2 : Nat → Int64) (lf pl cl : Nat → Int32) (sz mo e2 rn : Int32) (od : Nat → Int32) : Prop :=
  (lp_travel np ns dd gd steps σ n nx k g h hi en ud pd lo rd) = (lp_M_machine_mo_25 np ns vdoes vgos vfrom vto vkind vtimes vcond vlev vask vcc vvar vleast vfirst vstep steps n2 pp g2 lf pl cl sz mo e2 rn od) ∧
  (lp_travel_co_4 ln np ns dd gd steps σ n nx k g h hi en ud pd lo rd) = (lp_M_machine_mo_25 np ns vdoes vgos vfrom vto vkind vtimes vcond vlev vask vcc vvar vleast vfirst vstep steps n2 pp g2 lf pl cl sz mo e2 rn od) ∧
  (lp_travel_co_5 np ns dd gd steps σ n nx k g h hi en ud pd lo rd) = (lp_M_machine_mo_24 np ns vdoes vgos vfrom vto vkind vtimes vcond vlev vask vcc vvar vleast vfirst vstep steps n2 pp g2 lf pl cl sz mo e2 rn od) ∧
  (lp_travel_va np ns dd gd steps σ n nx k g h hi en ud pd lo rd) = (lp_M_machine_ad1 np ns vdoes vgos vfrom vto vkind vtimes vcond vlev vask vcc vvar vleast vfirst vstep steps n2 pp g2 lf pl cl sz mo e2 rn od) ∧
  (lp_travel_pi_3 np ns dd gd steps σ n nx k g h hi en ud pd lo rd) = (lp_M_machine_mo_22 np ns vdoes vgos vfrom vto vkind vtimes vcond vlev vask vcc vvar vleast vfirst vstep steps n2 pp g2 lf pl cl sz mo e2 rn od) ∧
  (lp_travel_pi_4 np ns dd gd steps σ n nx k g h hi en ud pd lo rd).toInt = max Y.toInt (lp_M_machine_mo_23 np ns vdoes vgos vfrom vto vkind vtimes vcond vlev vask vcc vvar vleast vfirst vstep steps n2 pp g2 lf pl cl sz mo e2 rn od).toInt ∧
  PRel np ns σ (lp_travel_la np ns dd gd steps σ n nx k g h hi en ud pd lo rd) (lp_travel_pe np ns dd gd steps σ n nx k g h hi en ud pd lo rd) (lp_travel_tu np ns dd gd steps σ n nx k g h hi en ud pd lo rd) (lp_M_machine_ad19 np ns vdoes vgos vfrom vto vkind vtimes vcond vlev vask vcc vvar vleast vfirst vstep steps n2 pp g2 lf pl cl sz mo e2 rn od) (lp_M_machine_ad20 np ns vdoes vgos vfrom vto vkind vtimes vcond vlev vask vcc vvar vleast vfirst vstep steps n2 pp g2 lf pl cl sz mo e2 rn od) (lp_M_machine_ad21 np ns vdoes vgos vfrom vto vkind vtimes vcond vlev vask vcc vvar vleast vfirst vstep steps n2 pp g2 lf pl cl sz mo e2 rn od) (lp_travel_pi_3 np ns dd gd steps σ n nx k g h hi en ud pd lo rd) ∧
  (∀ a_ j_ : Nat, (lp_travel_la np ns dd gd steps σ n nx k g h hi en ud pd lo rd) a_ = some j_ → (j_ : Int) < ns.toInt) ∧
  (∀ a_ : Nat, PN ns vfrom vkind vlev ((lp_M_machine_ad19 np ns vdoes vgos vfrom vto vkind vtimes vcond vlev vask vcc vvar vleast vfirst vstep steps n2 pp g2 lf pl cl sz mo e2 rn od) a_)) ∧
  (∀ a_ : Nat, 0 ≤ ((lp_M_machine_ad20 np ns vdoes vgos vfrom vto vkind vtimes vcond vlev vask vcc vvar vleast vfirst vstep steps n2 pp g2 lf pl cl sz mo e2 rn od) a_).toInt ∧ ((lp_M_machine_ad20 np ns vdoes vgos vfrom vto vkind vtimes vcond vlev vask vcc vvar vleast vfirst vstep steps n2 pp g2 lf pl cl sz mo e2 rn od) a_).toInt ≤ 60) ∧
  (0 ≤ (lp_M_machine_mo_25 np ns vdoes vgos vfrom vto vkind vtimes vcond vlev vask vcc vvar vleast vfirst vstep steps n2 pp g2 lf pl cl sz mo e2 rn od).toInt ∧ (lp_M_machine_mo_25 np ns vdoes vgos vfrom vto vkind vtimes vcond vlev vask vcc vvar vleast vfirst vstep steps n2 pp g2 lf pl cl sz mo e2 rn od).toInt ≤ max rn.toInt steps.toInt) ∧
  (∀ q : Nat, (q : Int) < (lp_M_machine_mo_25 np ns vdoes vgos vfrom vto vkind vtimes vcond vlev vask vcc vvar vleast vfirst vstep steps n2 pp g2 lf pl cl sz mo e2 rn od).toInt → (lp_travel_ra np ns dd gd steps σ n nx k g h hi en ud pd lo rd) q = (lp_M_machine_ad26 np ns vdoes vgos vfrom vto vkind vtimes vcond vlev vask vcc vvar vleast vfirst vstep steps n2 pp g2 lf pl cl sz mo e2 rn od) q)
def LE90 (np ns Y : Int32) (dd gd : Nat → Int32) (σ : Nat → Stm) (vdoes vgos vfrom vto vkind vtimes vcond vlev vask vcc vvar : Nat → Int32) (vleast vfirst vstep : Nat → Int64) (steps : Int64) (ln : Int32) (n : Nat) (nx k : Int32) (g : Nat → Int64) (h hi en : Int32) (ud pd : Nat → Int32) (lo : Nat → Option Nat) (rd : Nat → Int32) (n2 : Nat) (pp : Int32) (g2 : Nat → Int64) (lf pl cl : Nat → Int32) (sz mo e2 rn : Int32) (od : Nat → Int32) : Prop :=
  (lp_travel0 np ns dd gd steps σ n nx k g h hi en ud pd lo rd) = (lp_M_machine_mo_25 np ns vdoes vgos vfrom vto vkind vtimes vcond vlev vask vcc vvar vleast vfirst vstep steps n2 pp g2 lf pl cl sz mo e2 rn od) ∧
  (lp_travel0_co_4 ln np ns dd gd steps σ n nx k g h hi en ud pd lo rd) = (lp_M_machine_mo_25 np ns vdoes vgos vfrom vto vkind vtimes vcond vlev vask vcc vvar vleast vfirst vstep steps n2 pp g2 lf pl cl sz mo e2 rn od) ∧
  (lp_travel0_co_5 np ns dd gd steps σ n nx k g h hi en ud pd lo rd) = (lp_M_machine_mo_24 np ns vdoes vgos vfrom vto vkind vtimes vcond vlev vask vcc vvar vleast vfirst vstep steps n2 pp g2 lf pl cl sz mo e2 rn od) ∧
  (lp_travel0_va np ns dd gd steps σ n nx k g h hi en ud pd lo rd) = (lp_M_machine_ad1 np ns vdoes vgos vfrom vto vkind vtimes vcond vlev vask vcc vvar vleast vfirst vstep steps n2 pp g2 lf pl cl sz mo e2 rn od) ∧
  (lp_travel0_pi_3 np ns dd gd steps σ n nx k g h hi en ud pd lo rd) = (lp_M_machine_mo_22 np ns vdoes vgos vfrom vto vkind vtimes vcond vlev vask vcc vvar vleast vfirst vstep steps n2 pp g2 lf pl cl sz mo e2 rn od) ∧
  (lp_travel0_pi_4 np ns dd gd steps σ n nx k g h hi en ud pd lo rd).toInt = max Y.toInt (lp_M_machine_mo_23 np ns vdoes vgos vfrom vto vkind vtimes vcond vlev vask vcc vvar vleast vfirst vstep steps n2 pp g2 lf pl cl sz mo e2 rn od).toInt ∧
  PRel np ns σ (lp_travel0_la np ns dd gd steps σ n nx k g h hi en ud pd lo rd) (lp_travel0_pe np ns dd gd steps σ n nx k g h hi en ud pd lo rd) (lp_travel0_tu np ns dd gd steps σ n nx k g h hi en ud pd lo rd) (lp_M_machine_ad19 np ns vdoes vgos vfrom vto vkind vtimes vcond vlev vask vcc vvar vleast vfirst vstep steps n2 pp g2 lf pl cl sz mo e2 rn od) (lp_M_machine_ad20 np ns vdoes vgos vfrom vto vkind vtimes vcond vlev vask vcc vvar vleast vfirst vstep steps n2 pp g2 lf pl cl sz mo e2 rn od) (lp_M_machine_ad21 np ns vdoes vgos vfrom vto vkind vtimes vcond vlev vask vcc vvar vleast vfirst vstep steps n2 pp g2 lf pl cl sz mo e2 rn od) (lp_travel0_pi_3 np ns dd gd steps σ n nx k g h hi en ud pd lo rd) ∧
  (∀ a_ j_ : Nat, (lp_travel0_la np ns dd gd steps σ n nx k g h hi en ud pd lo rd) a_ = some j_ → (j_ : Int) < ns.toInt) ∧
  (∀ a_ : Nat, PN ns vfrom vkind vlev ((lp_M_machine_ad19 np ns vdoes vgos vfrom vto vkind vtimes vcond vlev vask vcc vvar vleast vfirst vstep steps n2 pp g2 lf pl cl sz mo e2 rn od) a_)) ∧
  (∀ a_ : Nat, 0 ≤ ((lp_M_machine_ad20 np ns vdoes vgos vfrom vto vkind vtimes vcond vlev vask vcc vvar vleast vfirst vstep steps n2 pp g2 lf pl cl sz mo e2 rn od) a_).toInt ∧ ((lp_M_machine_ad20 np ns vdoes vgos vfrom vto vkind vtimes vcond vlev vask vcc vvar vleast vfirst vstep steps n2 pp g2 lf pl cl sz mo e2 rn od) a_).toInt ≤ 60) ∧
  (0 ≤ (lp_M_machine_mo_25 np ns vdoes vgos vfrom vto vkind vtimes vcond vlev vask vcc vvar vleast vfirst vstep steps n2 pp g2 lf pl cl sz mo e2 rn od).toInt ∧ (lp_M_machine_mo_25 np ns vdoes vgos vfrom vto vkind vtimes vcond vlev vask vcc vvar vleast vfirst vstep steps n2 pp g2 lf pl cl sz mo e2 rn od).toInt ≤ max rn.toInt steps.toInt)
section EQ9
variable {np ns : Int32} {dd gd : Nat → Int32} {σ : Nat → Stm} {vdoes vgos vfrom vto vkind vtimes vcond vlev vask vcc vvar : Nat → Int32} {vleast vfirst vstep : Nat → Int64} {lo : Nat → Option Nat} {pd ud pl cl lf : Nat → Int32}
theorem q_isPar (hn : np.toInt ≤ 60) {p : Int32} : sp_M_isParagraph np p = 0 ↔ sp_isParagraph np p = 0 := by
  unfold sp_M_isParagraph sp_isParagraph
  by_cases c : p < 1
  · have c' := Int32.lt_iff_toInt_lt.mp c
    rw [show (1 : Int32).toInt = 1 from rfl] at c'
    have c2 : p ≤ 0 := i_le (k := 0) rfl (by omega)
    rw [if_pos c, if_pos c2]
  · have c' := mt Int32.lt_iff_toInt_lt.mpr c
    rw [show (1 : Int32).toInt = 1 from rfl] at c'
    have c2 : ¬ p ≤ 0 := i_nle (k := 0) rfl (by omega)
    rw [if_neg c, if_neg c2]
    by_cases d : np < p
    · rw [if_pos d, if_pos d]
    · have d' := mt Int32.lt_iff_toInt_lt.mpr d
      have d3 : ¬ 60 < p := i_ngt (k := 60) rfl (by omega)
      rw [if_neg d, if_neg d, if_neg d3]
theorem q_la_ok (HG : PRG np ns dd gd σ vdoes vgos vfrom vto vkind vtimes vcond vlev vask vcc vvar vleast vfirst vstep) {h x : Int32} (hlo : ∀ k j : Nat, lo k = some j → (j : Int) < ns.toInt) : ∀ k j : Nat, sp_performing_la ns h lo x σ k = some j → (j : Int) < ns.toInt := by
  intro k j
  unfold sp_performing_la
  rcases q_whole HG x with ⟨w1, -⟩ | ⟨i, w1, -, -, w4, -⟩
  · rw [w1, oc_none]
    exact hlo k j
  · rw [w1, oc_some]
    have key : ∀ k j : Nat, sp_lay_la h lo i k = some j → (j : Int) < ns.toInt := by
      intro k j
      unfold sp_lay_la
      split
      · split
        · by_cases c : k = h.toNatClampNeg
          · subst c
            rw [va_up_self]
            intro e
            cases e
            exact w4
          · rw [va_up_ne _ _ c]
            exact hlo k j
        · exact hlo k j
      · exact hlo k j
    split
    · exact key k j
    · exact hlo k j
theorem q_pk_ok (HG : PRG np ns dd gd σ vdoes vgos vfrom vto vkind vtimes vcond vlev vask vcc vvar vleast vfirst vstep) {h x : Int32} (hp : ∀ k : Nat, PN ns vfrom vkind vlev (pl k)) : ∀ k : Nat, PN ns vfrom vkind vlev (sp_M_enter_ad19 ns h vkind vcond vlev pl x k) := by
  obtain ⟨⟨hn0, hn6, hs0, hs6⟩, hpar, hsta⟩ := id HG
  intro k
  unfold sp_M_enter_ad19
  rcases q_whole HG x with ⟨-, w2⟩ | ⟨j, w1, w2, w3, w4, w5⟩
  · rw [if_pos w2]
    exact hp k
  · rw [if_neg w2]
    split
    · exact hp k
    · refine upd_all (P := fun v => PN ns vfrom vkind vlev v) hp ?_ k
      obtain ⟨hS, f1, f2, -, -⟩ := hsta j w4
      have cx : x.toNatClampNeg = j + 1 := q_clamp w3
      refine ⟨⟨by omega, by omega, fun _ => ?_⟩, by omega⟩
      rw [cx, hS.1, hS.2.2.1, hS.2.2.2.2.2.1]
      exact ⟨f1, w5⟩
theorem q_ca_ok {h x y : Int32} (hy : 0 ≤ y.toInt ∧ y.toInt ≤ 60) (hc : ∀ k : Nat, 0 ≤ (cl k).toInt ∧ (cl k).toInt ≤ 60) : ∀ k : Nat, 0 ≤ (sp_M_enter_ad20 ns h vkind vcond vlev cl x y k).toInt ∧ (sp_M_enter_ad20 ns h vkind vcond vlev cl x y k).toInt ≤ 60 := by
  intro k
  unfold sp_M_enter_ad20
  split
  · exact hc k
  · split
    · exact hc k
    · exact upd_all (P := fun v => 0 ≤ v.toInt ∧ v.toInt ≤ 60) hc hy k
theorem q_pk_doing (HG : PRG np ns dd gd σ vdoes vgos vfrom vto vkind vtimes vcond vlev vask vcc vvar vleast vfirst vstep) {h x : Int32} (hp : ∀ k : Nat, PN ns vfrom vkind vlev (pl k)) : ∀ q : Nat, PN ns vfrom vkind vlev (sp_M_doing_ad19 ns h vdoes vkind vcond vlev pl x q) := by
  rw [sp_M_doing_ad19]
  generalize vdoes x.toNatClampNeg - vdoes x.toNatClampNeg / 8 * 8 = r
  by_cases c1 : r = 1
  · rw [if_pos c1]
    exact hp
  · rw [if_neg c1]
    by_cases c2 : r = 2
    · rw [if_pos c2]
      exact q_pk_ok HG hp
    · rw [if_neg c2]
      exact hp
theorem q_ca_doing {h x : Int32} (hy : 0 ≤ x.toInt ∧ x.toInt ≤ 60) (hc : ∀ k : Nat, 0 ≤ (cl k).toInt ∧ (cl k).toInt ≤ 60) : ∀ q : Nat, 0 ≤ (sp_M_doing_ad20 ns h vdoes vkind vcond vlev cl x q).toInt ∧ (sp_M_doing_ad20 ns h vdoes vkind vcond vlev cl x q).toInt ≤ 60 := by
  rw [sp_M_doing_ad20]
  generalize vdoes x.toNatClampNeg - vdoes x.toNatClampNeg / 8 * 8 = r
  by_cases c1 : r = 1
  · rw [if_pos c1]
    exact hc
  · rw [if_neg c1]
    by_cases c2 : r = 2
    · rw [if_pos c2]
      exact q_ca_ok hy hc
    · rw [if_neg c2]
      exact hc

theorem t0  {steps : Int64} {n : Nat} {k : Int32} {g : Nat → Int64} {h hi en : Int32} {ud pd : Nat → Int32} {lo : Nat → Option Nat} {rd : Nat → Int32} : (lp_travel np ns dd gd steps σ (n + 1) 0 k g h hi en ud pd lo rd) = k := by
  rw [lp_travel, if_pos rfl]
theorem ts  {steps : Int64} {n : Nat} {nx k : Int32} {g : Nat → Int64} {h hi en : Int32} {ud pd : Nat → Int32} {lo : Nat → Option Nat} {rd : Nat → Int32} (z0 : ¬ nx = 0) (cs : 0 ≤ lg_cmp k.toInt64 steps) : (lp_travel np ns dd gd steps σ (n + 1) nx k g h hi en ud pd lo rd) = k := by
  rw [lp_travel, if_neg z0, if_pos cs]
theorem tb_0  {steps : Int64} {n : Nat} {nx k : Int32} {g : Nat → Int64} {h hi en : Int32} {ud pd : Nat → Int32} {lo : Nat → Option Nat} {rd : Nat → Int32} (z0 : ¬ nx = 0) (cs : ¬ 0 ≤ lg_cmp k.toInt64 steps) (c1 : sp_performedBy np dd nx = -1) (c2 : sp_doing np dd g nx = -1) : (lp_travel np ns dd gd steps σ (n + 1) nx k g h hi en ud pd lo rd) = (lp_travel np ns dd gd steps σ n (lp_behindDoing np gd lo pd σ 101 nx 0 (sp_doing_va np dd g nx) h ud) (k + 1) (lp_behindDoing_va np gd lo pd σ 101 nx 0 (sp_doing_va np dd g nx) h ud) (lp_behindDoing_pi_3 np gd lo pd σ 101 nx 0 (sp_doing_va np dd g nx) h ud) hi (lp_behindDoing_co_5 (sp_doing_co_5 en np dd g nx) np gd lo pd σ 101 nx 0 (sp_doing_va np dd g nx) h ud) (lp_behindDoing_tu np gd lo pd σ 101 nx 0 (sp_doing_va np dd g nx) h ud) pd lo (sp_note_ra rd k nx)) := by
  rw [lp_travel, if_neg z0, if_neg cs, if_pos c1, if_pos c2]
theorem tb_1  {steps : Int64} {n : Nat} {nx k : Int32} {g : Nat → Int64} {h hi en : Int32} {ud pd : Nat → Int32} {lo : Nat → Option Nat} {rd : Nat → Int32} (z0 : ¬ nx = 0) (cs : ¬ 0 ≤ lg_cmp k.toInt64 steps) (c1 : sp_performedBy np dd nx = -1) (c2 : ¬ sp_doing np dd g nx = -1) : (lp_travel np ns dd gd steps σ (n + 1) nx k g h hi en ud pd lo rd) = (lp_travel np ns dd gd steps σ n (sp_doing np dd g nx) (k + 1) (sp_doing_va np dd g nx) h hi (sp_doing_co_5 en np dd g nx) ud pd lo (sp_note_ra rd k nx)) := by
  rw [lp_travel, if_neg z0, if_neg cs, if_pos c1, if_neg c2]
theorem tb_2  {steps : Int64} {n : Nat} {nx k : Int32} {g : Nat → Int64} {h hi en : Int32} {ud pd : Nat → Int32} {lo : Nat → Option Nat} {rd : Nat → Int32} (z0 : ¬ nx = 0) (cs : ¬ 0 ≤ lg_cmp k.toInt64 steps) (c1 : ¬ sp_performedBy np dd nx = -1) (c2 : sp_performing ns h g (sp_performedBy np dd nx) σ = -1) : (lp_travel np ns dd gd steps σ (n + 1) nx k g h hi en ud pd lo rd) = (lp_travel np ns dd gd steps σ n (lp_behindDoing np gd (sp_performing_la ns h lo (sp_performedBy np dd nx) σ) (sp_performing_pe ns h pd (sp_performedBy np dd nx) nx σ) σ 101 nx 0 (sp_performing_va ns h g (sp_performedBy np dd nx) σ) (sp_performing_pi_3 ns h g (sp_performedBy np dd nx) σ) (sp_performing_tu ns h ud (sp_performedBy np dd nx) σ)) (k + 1) (lp_behindDoing_va np gd (sp_performing_la ns h lo (sp_performedBy np dd nx) σ) (sp_performing_pe ns h pd (sp_performedBy np dd nx) nx σ) σ 101 nx 0 (sp_performing_va ns h g (sp_performedBy np dd nx) σ) (sp_performing_pi_3 ns h g (sp_performedBy np dd nx) σ) (sp_performing_tu ns h ud (sp_performedBy np dd nx) σ)) (lp_behindDoing_pi_3 np gd (sp_performing_la ns h lo (sp_performedBy np dd nx) σ) (sp_performing_pe ns h pd (sp_performedBy np dd nx) nx σ) σ 101 nx 0 (sp_performing_va ns h g (sp_performedBy np dd nx) σ) (sp_performing_pi_3 ns h g (sp_performedBy np dd nx) σ) (sp_performing_tu ns h ud (sp_performedBy np dd nx) σ)) (sp_performing_pi_4 ns h hi g (sp_performedBy np dd nx) σ) (lp_behindDoing_co_5 (sp_performing_co_5 en ns h (sp_performedBy np dd nx) σ) np gd (sp_performing_la ns h lo (sp_performedBy np dd nx) σ) (sp_performing_pe ns h pd (sp_performedBy np dd nx) nx σ) σ 101 nx 0 (sp_performing_va ns h g (sp_performedBy np dd nx) σ) (sp_performing_pi_3 ns h g (sp_performedBy np dd nx) σ) (sp_performing_tu ns h ud (sp_performedBy np dd nx) σ)) (lp_behindDoing_tu np gd (sp_performing_la ns h lo (sp_performedBy np dd nx) σ) (sp_performing_pe ns h pd (sp_performedBy np dd nx) nx σ) σ 101 nx 0 (sp_performing_va ns h g (sp_performedBy np dd nx) σ) (sp_performing_pi_3 ns h g (sp_performedBy np dd nx) σ) (sp_performing_tu ns h ud (sp_performedBy np dd nx) σ)) (sp_performing_pe ns h pd (sp_performedBy np dd nx) nx σ) (sp_performing_la ns h lo (sp_performedBy np dd nx) σ) (sp_note_ra rd k nx)) := by
  rw [lp_travel, if_neg z0, if_neg cs, if_neg c1, if_pos c2]
theorem tb_3  {steps : Int64} {n : Nat} {nx k : Int32} {g : Nat → Int64} {h hi en : Int32} {ud pd : Nat → Int32} {lo : Nat → Option Nat} {rd : Nat → Int32} (z0 : ¬ nx = 0) (cs : ¬ 0 ≤ lg_cmp k.toInt64 steps) (c1 : ¬ sp_performedBy np dd nx = -1) (c2 : ¬ sp_performing ns h g (sp_performedBy np dd nx) σ = -1) : (lp_travel np ns dd gd steps σ (n + 1) nx k g h hi en ud pd lo rd) = (lp_travel np ns dd gd steps σ n (sp_performing ns h g (sp_performedBy np dd nx) σ) (k + 1) (sp_performing_va ns h g (sp_performedBy np dd nx) σ) (sp_performing_pi_3 ns h g (sp_performedBy np dd nx) σ) (sp_performing_pi_4 ns h hi g (sp_performedBy np dd nx) σ) (sp_performing_co_5 en ns h (sp_performedBy np dd nx) σ) (sp_performing_tu ns h ud (sp_performedBy np dd nx) σ) (sp_performing_pe ns h pd (sp_performedBy np dd nx) nx σ) (sp_performing_la ns h lo (sp_performedBy np dd nx) σ) (sp_note_ra rd k nx)) := by
  rw [lp_travel, if_neg z0, if_neg cs, if_neg c1, if_neg c2]
theorem t0_co_4 {ln : Int32} {steps : Int64} {n : Nat} {k : Int32} {g : Nat → Int64} {h hi en : Int32} {ud pd : Nat → Int32} {lo : Nat → Option Nat} {rd : Nat → Int32} : (lp_travel_co_4 ln np ns dd gd steps σ (n + 1) 0 k g h hi en ud pd lo rd) = k := by
  rw [lp_travel_co_4, if_pos rfl]
theorem ts_co_4 {ln : Int32} {steps : Int64} {n : Nat} {nx k : Int32} {g : Nat → Int64} {h hi en : Int32} {ud pd : Nat → Int32} {lo : Nat → Option Nat} {rd : Nat → Int32} (z0 : ¬ nx = 0) (cs : 0 ≤ lg_cmp k.toInt64 steps) : (lp_travel_co_4 ln np ns dd gd steps σ (n + 1) nx k g h hi en ud pd lo rd) = k := by
  rw [lp_travel_co_4, if_neg z0, if_pos cs]
theorem tb_co_4_0 {ln : Int32} {steps : Int64} {n : Nat} {nx k : Int32} {g : Nat → Int64} {h hi en : Int32} {ud pd : Nat → Int32} {lo : Nat → Option Nat} {rd : Nat → Int32} (z0 : ¬ nx = 0) (cs : ¬ 0 ≤ lg_cmp k.toInt64 steps) (c1 : sp_performedBy np dd nx = -1) (c2 : sp_doing np dd g nx = -1) : (lp_travel_co_4 ln np ns dd gd steps σ (n + 1) nx k g h hi en ud pd lo rd) = (lp_travel_co_4 ln np ns dd gd steps σ n (lp_behindDoing np gd lo pd σ 101 nx 0 (sp_doing_va np dd g nx) h ud) (k + 1) (lp_behindDoing_va np gd lo pd σ 101 nx 0 (sp_doing_va np dd g nx) h ud) (lp_behindDoing_pi_3 np gd lo pd σ 101 nx 0 (sp_doing_va np dd g nx) h ud) hi (lp_behindDoing_co_5 (sp_doing_co_5 en np dd g nx) np gd lo pd σ 101 nx 0 (sp_doing_va np dd g nx) h ud) (lp_behindDoing_tu np gd lo pd σ 101 nx 0 (sp_doing_va np dd g nx) h ud) pd lo (sp_note_ra rd k nx)) := by
  rw [lp_travel_co_4, if_neg z0, if_neg cs, if_pos c1, if_pos c2]
theorem tb_co_4_1 {ln : Int32} {steps : Int64} {n : Nat} {nx k : Int32} {g : Nat → Int64} {h hi en : Int32} {ud pd : Nat → Int32} {lo : Nat → Option Nat} {rd : Nat → Int32} (z0 : ¬ nx = 0) (cs : ¬ 0 ≤ lg_cmp k.toInt64 steps) (c1 : sp_performedBy np dd nx = -1) (c2 : ¬ sp_doing np dd g nx = -1) : (lp_travel_co_4 ln np ns dd gd steps σ (n + 1) nx k g h hi en ud pd lo rd) = (lp_travel_co_4 ln np ns dd gd steps σ n (sp_doing np dd g nx) (k + 1) (sp_doing_va np dd g nx) h hi (sp_doing_co_5 en np dd g nx) ud pd lo (sp_note_ra rd k nx)) := by
  rw [lp_travel_co_4, if_neg z0, if_neg cs, if_pos c1, if_neg c2]
theorem tb_co_4_2 {ln : Int32} {steps : Int64} {n : Nat} {nx k : Int32} {g : Nat → Int64} {h hi en : Int32} {ud pd : Nat → Int32} {lo : Nat → Option Nat} {rd : Nat → Int32} (z0 : ¬ nx = 0) (cs : ¬ 0 ≤ lg_cmp k.toInt64 steps) (c1 : ¬ sp_performedBy np dd nx = -1) (c2 : sp_performing ns h g (sp_performedBy np dd nx) σ = -1) : (lp_travel_co_4 ln np ns dd gd steps σ (n + 1) nx k g h hi en ud pd lo rd) = (lp_travel_co_4 ln np ns dd gd steps σ n (lp_behindDoing np gd (sp_performing_la ns h lo (sp_performedBy np dd nx) σ) (sp_performing_pe ns h pd (sp_performedBy np dd nx) nx σ) σ 101 nx 0 (sp_performing_va ns h g (sp_performedBy np dd nx) σ) (sp_performing_pi_3 ns h g (sp_performedBy np dd nx) σ) (sp_performing_tu ns h ud (sp_performedBy np dd nx) σ)) (k + 1) (lp_behindDoing_va np gd (sp_performing_la ns h lo (sp_performedBy np dd nx) σ) (sp_performing_pe ns h pd (sp_performedBy np dd nx) nx σ) σ 101 nx 0 (sp_performing_va ns h g (sp_performedBy np dd nx) σ) (sp_performing_pi_3 ns h g (sp_performedBy np dd nx) σ) (sp_performing_tu ns h ud (sp_performedBy np dd nx) σ)) (lp_behindDoing_pi_3 np gd (sp_performing_la ns h lo (sp_performedBy np dd nx) σ) (sp_performing_pe ns h pd (sp_performedBy np dd nx) nx σ) σ 101 nx 0 (sp_performing_va ns h g (sp_performedBy np dd nx) σ) (sp_performing_pi_3 ns h g (sp_performedBy np dd nx) σ) (sp_performing_tu ns h ud (sp_performedBy np dd nx) σ)) (sp_performing_pi_4 ns h hi g (sp_performedBy np dd nx) σ) (lp_behindDoing_co_5 (sp_performing_co_5 en ns h (sp_performedBy np dd nx) σ) np gd (sp_performing_la ns h lo (sp_performedBy np dd nx) σ) (sp_performing_pe ns h pd (sp_performedBy np dd nx) nx σ) σ 101 nx 0 (sp_performing_va ns h g (sp_performedBy np dd nx) σ) (sp_performing_pi_3 ns h g (sp_performedBy np dd nx) σ) (sp_performing_tu ns h ud (sp_performedBy np dd nx) σ)) (lp_behindDoing_tu np gd (sp_performing_la ns h lo (sp_performedBy np dd nx) σ) (sp_performing_pe ns h pd (sp_performedBy np dd nx) nx σ) σ 101 nx 0 (sp_performing_va ns h g (sp_performedBy np dd nx) σ) (sp_performing_pi_3 ns h g (sp_performedBy np dd nx) σ) (sp_performing_tu ns h ud (sp_performedBy np dd nx) σ)) (sp_performing_pe ns h pd (sp_performedBy np dd nx) nx σ) (sp_performing_la ns h lo (sp_performedBy np dd nx) σ) (sp_note_ra rd k nx)) := by
  rw [lp_travel_co_4, if_neg z0, if_neg cs, if_neg c1, if_pos c2]
theorem tb_co_4_3 {ln : Int32} {steps : Int64} {n : Nat} {nx k : Int32} {g : Nat → Int64} {h hi en : Int32} {ud pd : Nat → Int32} {lo : Nat → Option Nat} {rd : Nat → Int32} (z0 : ¬ nx = 0) (cs : ¬ 0 ≤ lg_cmp k.toInt64 steps) (c1 : ¬ sp_performedBy np dd nx = -1) (c2 : ¬ sp_performing ns h g (sp_performedBy np dd nx) σ = -1) : (lp_travel_co_4 ln np ns dd gd steps σ (n + 1) nx k g h hi en ud pd lo rd) = (lp_travel_co_4 ln np ns dd gd steps σ n (sp_performing ns h g (sp_performedBy np dd nx) σ) (k + 1) (sp_performing_va ns h g (sp_performedBy np dd nx) σ) (sp_performing_pi_3 ns h g (sp_performedBy np dd nx) σ) (sp_performing_pi_4 ns h hi g (sp_performedBy np dd nx) σ) (sp_performing_co_5 en ns h (sp_performedBy np dd nx) σ) (sp_performing_tu ns h ud (sp_performedBy np dd nx) σ) (sp_performing_pe ns h pd (sp_performedBy np dd nx) nx σ) (sp_performing_la ns h lo (sp_performedBy np dd nx) σ) (sp_note_ra rd k nx)) := by
  rw [lp_travel_co_4, if_neg z0, if_neg cs, if_neg c1, if_neg c2]
theorem t0_co_5  {steps : Int64} {n : Nat} {k : Int32} {g : Nat → Int64} {h hi en : Int32} {ud pd : Nat → Int32} {lo : Nat → Option Nat} {rd : Nat → Int32} : (lp_travel_co_5 np ns dd gd steps σ (n + 1) 0 k g h hi en ud pd lo rd) = en := by
  rw [lp_travel_co_5, if_pos rfl]
theorem ts_co_5  {steps : Int64} {n : Nat} {nx k : Int32} {g : Nat → Int64} {h hi en : Int32} {ud pd : Nat → Int32} {lo : Nat → Option Nat} {rd : Nat → Int32} (z0 : ¬ nx = 0) (cs : 0 ≤ lg_cmp k.toInt64 steps) : (lp_travel_co_5 np ns dd gd steps σ (n + 1) nx k g h hi en ud pd lo rd) = 1 := by
  rw [lp_travel_co_5, if_neg z0, if_pos cs]
theorem tb_co_5_0  {steps : Int64} {n : Nat} {nx k : Int32} {g : Nat → Int64} {h hi en : Int32} {ud pd : Nat → Int32} {lo : Nat → Option Nat} {rd : Nat → Int32} (z0 : ¬ nx = 0) (cs : ¬ 0 ≤ lg_cmp k.toInt64 steps) (c1 : sp_performedBy np dd nx = -1) (c2 : sp_doing np dd g nx = -1) : (lp_travel_co_5 np ns dd gd steps σ (n + 1) nx k g h hi en ud pd lo rd) = (lp_travel_co_5 np ns dd gd steps σ n (lp_behindDoing np gd lo pd σ 101 nx 0 (sp_doing_va np dd g nx) h ud) (k + 1) (lp_behindDoing_va np gd lo pd σ 101 nx 0 (sp_doing_va np dd g nx) h ud) (lp_behindDoing_pi_3 np gd lo pd σ 101 nx 0 (sp_doing_va np dd g nx) h ud) hi (lp_behindDoing_co_5 (sp_doing_co_5 en np dd g nx) np gd lo pd σ 101 nx 0 (sp_doing_va np dd g nx) h ud) (lp_behindDoing_tu np gd lo pd σ 101 nx 0 (sp_doing_va np dd g nx) h ud) pd lo (sp_note_ra rd k nx)) := by
  rw [lp_travel_co_5, if_neg z0, if_neg cs, if_pos c1, if_pos c2]
theorem tb_co_5_1  {steps : Int64} {n : Nat} {nx k : Int32} {g : Nat → Int64} {h hi en : Int32} {ud pd : Nat → Int32} {lo : Nat → Option Nat} {rd : Nat → Int32} (z0 : ¬ nx = 0) (cs : ¬ 0 ≤ lg_cmp k.toInt64 steps) (c1 : sp_performedBy np dd nx = -1) (c2 : ¬ sp_doing np dd g nx = -1) : (lp_travel_co_5 np ns dd gd steps σ (n + 1) nx k g h hi en ud pd lo rd) = (lp_travel_co_5 np ns dd gd steps σ n (sp_doing np dd g nx) (k + 1) (sp_doing_va np dd g nx) h hi (sp_doing_co_5 en np dd g nx) ud pd lo (sp_note_ra rd k nx)) := by
  rw [lp_travel_co_5, if_neg z0, if_neg cs, if_pos c1, if_neg c2]
theorem tb_co_5_2  {steps : Int64} {n : Nat} {nx k : Int32} {g : Nat → Int64} {h hi en : Int32} {ud pd : Nat → Int32} {lo : Nat → Option Nat} {rd : Nat → Int32} (z0 : ¬ nx = 0) (cs : ¬ 0 ≤ lg_cmp k.toInt64 steps) (c1 : ¬ sp_performedBy np dd nx = -1) (c2 : sp_performing ns h g (sp_performedBy np dd nx) σ = -1) : (lp_travel_co_5 np ns dd gd steps σ (n + 1) nx k g h hi en ud pd lo rd) = (lp_travel_co_5 np ns dd gd steps σ n (lp_behindDoing np gd (sp_performing_la ns h lo (sp_performedBy np dd nx) σ) (sp_performing_pe ns h pd (sp_performedBy np dd nx) nx σ) σ 101 nx 0 (sp_performing_va ns h g (sp_performedBy np dd nx) σ) (sp_performing_pi_3 ns h g (sp_performedBy np dd nx) σ) (sp_performing_tu ns h ud (sp_performedBy np dd nx) σ)) (k + 1) (lp_behindDoing_va np gd (sp_performing_la ns h lo (sp_performedBy np dd nx) σ) (sp_performing_pe ns h pd (sp_performedBy np dd nx) nx σ) σ 101 nx 0 (sp_performing_va ns h g (sp_performedBy np dd nx) σ) (sp_performing_pi_3 ns h g (sp_performedBy np dd nx) σ) (sp_performing_tu ns h ud (sp_performedBy np dd nx) σ)) (lp_behindDoing_pi_3 np gd (sp_performing_la ns h lo (sp_performedBy np dd nx) σ) (sp_performing_pe ns h pd (sp_performedBy np dd nx) nx σ) σ 101 nx 0 (sp_performing_va ns h g (sp_performedBy np dd nx) σ) (sp_performing_pi_3 ns h g (sp_performedBy np dd nx) σ) (sp_performing_tu ns h ud (sp_performedBy np dd nx) σ)) (sp_performing_pi_4 ns h hi g (sp_performedBy np dd nx) σ) (lp_behindDoing_co_5 (sp_performing_co_5 en ns h (sp_performedBy np dd nx) σ) np gd (sp_performing_la ns h lo (sp_performedBy np dd nx) σ) (sp_performing_pe ns h pd (sp_performedBy np dd nx) nx σ) σ 101 nx 0 (sp_performing_va ns h g (sp_performedBy np dd nx) σ) (sp_performing_pi_3 ns h g (sp_performedBy np dd nx) σ) (sp_performing_tu ns h ud (sp_performedBy np dd nx) σ)) (lp_behindDoing_tu np gd (sp_performing_la ns h lo (sp_performedBy np dd nx) σ) (sp_performing_pe ns h pd (sp_performedBy np dd nx) nx σ) σ 101 nx 0 (sp_performing_va ns h g (sp_performedBy np dd nx) σ) (sp_performing_pi_3 ns h g (sp_performedBy np dd nx) σ) (sp_performing_tu ns h ud (sp_performedBy np dd nx) σ)) (sp_performing_pe ns h pd (sp_performedBy np dd nx) nx σ) (sp_performing_la ns h lo (sp_performedBy np dd nx) σ) (sp_note_ra rd k nx)) := by
  rw [lp_travel_co_5, if_neg z0, if_neg cs, if_neg c1, if_pos c2]
theorem tb_co_5_3  {steps : Int64} {n : Nat} {nx k : Int32} {g : Nat → Int64} {h hi en : Int32} {ud pd : Nat → Int32} {lo : Nat → Option Nat} {rd : Nat → Int32} (z0 : ¬ nx = 0) (cs : ¬ 0 ≤ lg_cmp k.toInt64 steps) (c1 : ¬ sp_performedBy np dd nx = -1) (c2 : ¬ sp_performing ns h g (sp_performedBy np dd nx) σ = -1) : (lp_travel_co_5 np ns dd gd steps σ (n + 1) nx k g h hi en ud pd lo rd) = (lp_travel_co_5 np ns dd gd steps σ n (sp_performing ns h g (sp_performedBy np dd nx) σ) (k + 1) (sp_performing_va ns h g (sp_performedBy np dd nx) σ) (sp_performing_pi_3 ns h g (sp_performedBy np dd nx) σ) (sp_performing_pi_4 ns h hi g (sp_performedBy np dd nx) σ) (sp_performing_co_5 en ns h (sp_performedBy np dd nx) σ) (sp_performing_tu ns h ud (sp_performedBy np dd nx) σ) (sp_performing_pe ns h pd (sp_performedBy np dd nx) nx σ) (sp_performing_la ns h lo (sp_performedBy np dd nx) σ) (sp_note_ra rd k nx)) := by
  rw [lp_travel_co_5, if_neg z0, if_neg cs, if_neg c1, if_neg c2]
theorem t0_va  {steps : Int64} {n : Nat} {k : Int32} {g : Nat → Int64} {h hi en : Int32} {ud pd : Nat → Int32} {lo : Nat → Option Nat} {rd : Nat → Int32} : (lp_travel_va np ns dd gd steps σ (n + 1) 0 k g h hi en ud pd lo rd) = g := by
  rw [lp_travel_va, if_pos rfl]
theorem ts_va  {steps : Int64} {n : Nat} {nx k : Int32} {g : Nat → Int64} {h hi en : Int32} {ud pd : Nat → Int32} {lo : Nat → Option Nat} {rd : Nat → Int32} (z0 : ¬ nx = 0) (cs : 0 ≤ lg_cmp k.toInt64 steps) : (lp_travel_va np ns dd gd steps σ (n + 1) nx k g h hi en ud pd lo rd) = g := by
  rw [lp_travel_va, if_neg z0, if_pos cs]
theorem tb_va_0  {steps : Int64} {n : Nat} {nx k : Int32} {g : Nat → Int64} {h hi en : Int32} {ud pd : Nat → Int32} {lo : Nat → Option Nat} {rd : Nat → Int32} (z0 : ¬ nx = 0) (cs : ¬ 0 ≤ lg_cmp k.toInt64 steps) (c1 : sp_performedBy np dd nx = -1) (c2 : sp_doing np dd g nx = -1) : (lp_travel_va np ns dd gd steps σ (n + 1) nx k g h hi en ud pd lo rd) = (lp_travel_va np ns dd gd steps σ n (lp_behindDoing np gd lo pd σ 101 nx 0 (sp_doing_va np dd g nx) h ud) (k + 1) (lp_behindDoing_va np gd lo pd σ 101 nx 0 (sp_doing_va np dd g nx) h ud) (lp_behindDoing_pi_3 np gd lo pd σ 101 nx 0 (sp_doing_va np dd g nx) h ud) hi (lp_behindDoing_co_5 (sp_doing_co_5 en np dd g nx) np gd lo pd σ 101 nx 0 (sp_doing_va np dd g nx) h ud) (lp_behindDoing_tu np gd lo pd σ 101 nx 0 (sp_doing_va np dd g nx) h ud) pd lo (sp_note_ra rd k nx)) := by
  rw [lp_travel_va, if_neg z0, if_neg cs, if_pos c1, if_pos c2]
theorem tb_va_1  {steps : Int64} {n : Nat} {nx k : Int32} {g : Nat → Int64} {h hi en : Int32} {ud pd : Nat → Int32} {lo : Nat → Option Nat} {rd : Nat → Int32} (z0 : ¬ nx = 0) (cs : ¬ 0 ≤ lg_cmp k.toInt64 steps) (c1 : sp_performedBy np dd nx = -1) (c2 : ¬ sp_doing np dd g nx = -1) : (lp_travel_va np ns dd gd steps σ (n + 1) nx k g h hi en ud pd lo rd) = (lp_travel_va np ns dd gd steps σ n (sp_doing np dd g nx) (k + 1) (sp_doing_va np dd g nx) h hi (sp_doing_co_5 en np dd g nx) ud pd lo (sp_note_ra rd k nx)) := by
  rw [lp_travel_va, if_neg z0, if_neg cs, if_pos c1, if_neg c2]
theorem tb_va_2  {steps : Int64} {n : Nat} {nx k : Int32} {g : Nat → Int64} {h hi en : Int32} {ud pd : Nat → Int32} {lo : Nat → Option Nat} {rd : Nat → Int32} (z0 : ¬ nx = 0) (cs : ¬ 0 ≤ lg_cmp k.toInt64 steps) (c1 : ¬ sp_performedBy np dd nx = -1) (c2 : sp_performing ns h g (sp_performedBy np dd nx) σ = -1) : (lp_travel_va np ns dd gd steps σ (n + 1) nx k g h hi en ud pd lo rd) = (lp_travel_va np ns dd gd steps σ n (lp_behindDoing np gd (sp_performing_la ns h lo (sp_performedBy np dd nx) σ) (sp_performing_pe ns h pd (sp_performedBy np dd nx) nx σ) σ 101 nx 0 (sp_performing_va ns h g (sp_performedBy np dd nx) σ) (sp_performing_pi_3 ns h g (sp_performedBy np dd nx) σ) (sp_performing_tu ns h ud (sp_performedBy np dd nx) σ)) (k + 1) (lp_behindDoing_va np gd (sp_performing_la ns h lo (sp_performedBy np dd nx) σ) (sp_performing_pe ns h pd (sp_performedBy np dd nx) nx σ) σ 101 nx 0 (sp_performing_va ns h g (sp_performedBy np dd nx) σ) (sp_performing_pi_3 ns h g (sp_performedBy np dd nx) σ) (sp_performing_tu ns h ud (sp_performedBy np dd nx) σ)) (lp_behindDoing_pi_3 np gd (sp_performing_la ns h lo (sp_performedBy np dd nx) σ) (sp_performing_pe ns h pd (sp_performedBy np dd nx) nx σ) σ 101 nx 0 (sp_performing_va ns h g (sp_performedBy np dd nx) σ) (sp_performing_pi_3 ns h g (sp_performedBy np dd nx) σ) (sp_performing_tu ns h ud (sp_performedBy np dd nx) σ)) (sp_performing_pi_4 ns h hi g (sp_performedBy np dd nx) σ) (lp_behindDoing_co_5 (sp_performing_co_5 en ns h (sp_performedBy np dd nx) σ) np gd (sp_performing_la ns h lo (sp_performedBy np dd nx) σ) (sp_performing_pe ns h pd (sp_performedBy np dd nx) nx σ) σ 101 nx 0 (sp_performing_va ns h g (sp_performedBy np dd nx) σ) (sp_performing_pi_3 ns h g (sp_performedBy np dd nx) σ) (sp_performing_tu ns h ud (sp_performedBy np dd nx) σ)) (lp_behindDoing_tu np gd (sp_performing_la ns h lo (sp_performedBy np dd nx) σ) (sp_performing_pe ns h pd (sp_performedBy np dd nx) nx σ) σ 101 nx 0 (sp_performing_va ns h g (sp_performedBy np dd nx) σ) (sp_performing_pi_3 ns h g (sp_performedBy np dd nx) σ) (sp_performing_tu ns h ud (sp_performedBy np dd nx) σ)) (sp_performing_pe ns h pd (sp_performedBy np dd nx) nx σ) (sp_performing_la ns h lo (sp_performedBy np dd nx) σ) (sp_note_ra rd k nx)) := by
  rw [lp_travel_va, if_neg z0, if_neg cs, if_neg c1, if_pos c2]
theorem tb_va_3  {steps : Int64} {n : Nat} {nx k : Int32} {g : Nat → Int64} {h hi en : Int32} {ud pd : Nat → Int32} {lo : Nat → Option Nat} {rd : Nat → Int32} (z0 : ¬ nx = 0) (cs : ¬ 0 ≤ lg_cmp k.toInt64 steps) (c1 : ¬ sp_performedBy np dd nx = -1) (c2 : ¬ sp_performing ns h g (sp_performedBy np dd nx) σ = -1) : (lp_travel_va np ns dd gd steps σ (n + 1) nx k g h hi en ud pd lo rd) = (lp_travel_va np ns dd gd steps σ n (sp_performing ns h g (sp_performedBy np dd nx) σ) (k + 1) (sp_performing_va ns h g (sp_performedBy np dd nx) σ) (sp_performing_pi_3 ns h g (sp_performedBy np dd nx) σ) (sp_performing_pi_4 ns h hi g (sp_performedBy np dd nx) σ) (sp_performing_co_5 en ns h (sp_performedBy np dd nx) σ) (sp_performing_tu ns h ud (sp_performedBy np dd nx) σ) (sp_performing_pe ns h pd (sp_performedBy np dd nx) nx σ) (sp_performing_la ns h lo (sp_performedBy np dd nx) σ) (sp_note_ra rd k nx)) := by
  rw [lp_travel_va, if_neg z0, if_neg cs, if_neg c1, if_neg c2]
theorem t0_pi_3  {steps : Int64} {n : Nat} {k : Int32} {g : Nat → Int64} {h hi en : Int32} {ud pd : Nat → Int32} {lo : Nat → Option Nat} {rd : Nat → Int32} : (lp_travel_pi_3 np ns dd gd steps σ (n + 1) 0 k g h hi en ud pd lo rd) = h := by
  rw [lp_travel_pi_3, if_pos rfl]
theorem ts_pi_3  {steps : Int64} {n : Nat} {nx k : Int32} {g : Nat → Int64} {h hi en : Int32} {ud pd : Nat → Int32} {lo : Nat → Option Nat} {rd : Nat → Int32} (z0 : ¬ nx = 0) (cs : 0 ≤ lg_cmp k.toInt64 steps) : (lp_travel_pi_3 np ns dd gd steps σ (n + 1) nx k g h hi en ud pd lo rd) = h := by
  rw [lp_travel_pi_3, if_neg z0, if_pos cs]
theorem tb_pi_3_0  {steps : Int64} {n : Nat} {nx k : Int32} {g : Nat → Int64} {h hi en : Int32} {ud pd : Nat → Int32} {lo : Nat → Option Nat} {rd : Nat → Int32} (z0 : ¬ nx = 0) (cs : ¬ 0 ≤ lg_cmp k.toInt64 steps) (c1 : sp_performedBy np dd nx = -1) (c2 : sp_doing np dd g nx = -1) : (lp_travel_pi_3 np ns dd gd steps σ (n + 1) nx k g h hi en ud pd lo rd) = (lp_travel_pi_3 np ns dd gd steps σ n (lp_behindDoing np gd lo pd σ 101 nx 0 (sp_doing_va np dd g nx) h ud) (k + 1) (lp_behindDoing_va np gd lo pd σ 101 nx 0 (sp_doing_va np dd g nx) h ud) (lp_behindDoing_pi_3 np gd lo pd σ 101 nx 0 (sp_doing_va np dd g nx) h ud) hi (lp_behindDoing_co_5 (sp_doing_co_5 en np dd g nx) np gd lo pd σ 101 nx 0 (sp_doing_va np dd g nx) h ud) (lp_behindDoing_tu np gd lo pd σ 101 nx 0 (sp_doing_va np dd g nx) h ud) pd lo (sp_note_ra rd k nx)) := by
  rw [lp_travel_pi_3, if_neg z0, if_neg cs, if_pos c1, if_pos c2]
theorem tb_pi_3_1  {steps : Int64} {n : Nat} {nx k : Int32} {g : Nat → Int64} {h hi en : Int32} {ud pd : Nat → Int32} {lo : Nat → Option Nat} {rd : Nat → Int32} (z0 : ¬ nx = 0) (cs : ¬ 0 ≤ lg_cmp k.toInt64 steps) (c1 : sp_performedBy np dd nx = -1) (c2 : ¬ sp_doing np dd g nx = -1) : (lp_travel_pi_3 np ns dd gd steps σ (n + 1) nx k g h hi en ud pd lo rd) = (lp_travel_pi_3 np ns dd gd steps σ n (sp_doing np dd g nx) (k + 1) (sp_doing_va np dd g nx) h hi (sp_doing_co_5 en np dd g nx) ud pd lo (sp_note_ra rd k nx)) := by
  rw [lp_travel_pi_3, if_neg z0, if_neg cs, if_pos c1, if_neg c2]
theorem tb_pi_3_2  {steps : Int64} {n : Nat} {nx k : Int32} {g : Nat → Int64} {h hi en : Int32} {ud pd : Nat → Int32} {lo : Nat → Option Nat} {rd : Nat → Int32} (z0 : ¬ nx = 0) (cs : ¬ 0 ≤ lg_cmp k.toInt64 steps) (c1 : ¬ sp_performedBy np dd nx = -1) (c2 : sp_performing ns h g (sp_performedBy np dd nx) σ = -1) : (lp_travel_pi_3 np ns dd gd steps σ (n + 1) nx k g h hi en ud pd lo rd) = (lp_travel_pi_3 np ns dd gd steps σ n (lp_behindDoing np gd (sp_performing_la ns h lo (sp_performedBy np dd nx) σ) (sp_performing_pe ns h pd (sp_performedBy np dd nx) nx σ) σ 101 nx 0 (sp_performing_va ns h g (sp_performedBy np dd nx) σ) (sp_performing_pi_3 ns h g (sp_performedBy np dd nx) σ) (sp_performing_tu ns h ud (sp_performedBy np dd nx) σ)) (k + 1) (lp_behindDoing_va np gd (sp_performing_la ns h lo (sp_performedBy np dd nx) σ) (sp_performing_pe ns h pd (sp_performedBy np dd nx) nx σ) σ 101 nx 0 (sp_performing_va ns h g (sp_performedBy np dd nx) σ) (sp_performing_pi_3 ns h g (sp_performedBy np dd nx) σ) (sp_performing_tu ns h ud (sp_performedBy np dd nx) σ)) (lp_behindDoing_pi_3 np gd (sp_performing_la ns h lo (sp_performedBy np dd nx) σ) (sp_performing_pe ns h pd (sp_performedBy np dd nx) nx σ) σ 101 nx 0 (sp_performing_va ns h g (sp_performedBy np dd nx) σ) (sp_performing_pi_3 ns h g (sp_performedBy np dd nx) σ) (sp_performing_tu ns h ud (sp_performedBy np dd nx) σ)) (sp_performing_pi_4 ns h hi g (sp_performedBy np dd nx) σ) (lp_behindDoing_co_5 (sp_performing_co_5 en ns h (sp_performedBy np dd nx) σ) np gd (sp_performing_la ns h lo (sp_performedBy np dd nx) σ) (sp_performing_pe ns h pd (sp_performedBy np dd nx) nx σ) σ 101 nx 0 (sp_performing_va ns h g (sp_performedBy np dd nx) σ) (sp_performing_pi_3 ns h g (sp_performedBy np dd nx) σ) (sp_performing_tu ns h ud (sp_performedBy np dd nx) σ)) (lp_behindDoing_tu np gd (sp_performing_la ns h lo (sp_performedBy np dd nx) σ) (sp_performing_pe ns h pd (sp_performedBy np dd nx) nx σ) σ 101 nx 0 (sp_performing_va ns h g (sp_performedBy np dd nx) σ) (sp_performing_pi_3 ns h g (sp_performedBy np dd nx) σ) (sp_performing_tu ns h ud (sp_performedBy np dd nx) σ)) (sp_performing_pe ns h pd (sp_performedBy np dd nx) nx σ) (sp_performing_la ns h lo (sp_performedBy np dd nx) σ) (sp_note_ra rd k nx)) := by
  rw [lp_travel_pi_3, if_neg z0, if_neg cs, if_neg c1, if_pos c2]
theorem tb_pi_3_3  {steps : Int64} {n : Nat} {nx k : Int32} {g : Nat → Int64} {h hi en : Int32} {ud pd : Nat → Int32} {lo : Nat → Option Nat} {rd : Nat → Int32} (z0 : ¬ nx = 0) (cs : ¬ 0 ≤ lg_cmp k.toInt64 steps) (c1 : ¬ sp_performedBy np dd nx = -1) (c2 : ¬ sp_performing ns h g (sp_performedBy np dd nx) σ = -1) : (lp_travel_pi_3 np ns dd gd steps σ (n + 1) nx k g h hi en ud pd lo rd) = (lp_travel_pi_3 np ns dd gd steps σ n (sp_performing ns h g (sp_performedBy np dd nx) σ) (k + 1) (sp_performing_va ns h g (sp_performedBy np dd nx) σ) (sp_performing_pi_3 ns h g (sp_performedBy np dd nx) σ) (sp_performing_pi_4 ns h hi g (sp_performedBy np dd nx) σ) (sp_performing_co_5 en ns h (sp_performedBy np dd nx) σ) (sp_performing_tu ns h ud (sp_performedBy np dd nx) σ) (sp_performing_pe ns h pd (sp_performedBy np dd nx) nx σ) (sp_performing_la ns h lo (sp_performedBy np dd nx) σ) (sp_note_ra rd k nx)) := by
  rw [lp_travel_pi_3, if_neg z0, if_neg cs, if_neg c1, if_neg c2]
theorem t0_pi_4  {steps : Int64} {n : Nat} {k : Int32} {g : Nat → Int64} {h hi en : Int32} {ud pd : Nat → Int32} {lo : Nat → Option Nat} {rd : Nat → Int32} : (lp_travel_pi_4 np ns dd gd steps σ (n + 1) 0 k g h hi en ud pd lo rd) = hi := by
  rw [lp_travel_pi_4, if_pos rfl]
theorem ts_pi_4  {steps : Int64} {n : Nat} {nx k : Int32} {g : Nat → Int64} {h hi en : Int32} {ud pd : Nat → Int32} {lo : Nat → Option Nat} {rd : Nat → Int32} (z0 : ¬ nx = 0) (cs : 0 ≤ lg_cmp k.toInt64 steps) : (lp_travel_pi_4 np ns dd gd steps σ (n + 1) nx k g h hi en ud pd lo rd) = hi := by
  rw [lp_travel_pi_4, if_neg z0, if_pos cs]
theorem tb_pi_4_0  {steps : Int64} {n : Nat} {nx k : Int32} {g : Nat → Int64} {h hi en : Int32} {ud pd : Nat → Int32} {lo : Nat → Option Nat} {rd : Nat → Int32} (z0 : ¬ nx = 0) (cs : ¬ 0 ≤ lg_cmp k.toInt64 steps) (c1 : sp_performedBy np dd nx = -1) (c2 : sp_doing np dd g nx = -1) : (lp_travel_pi_4 np ns dd gd steps σ (n + 1) nx k g h hi en ud pd lo rd) = (lp_travel_pi_4 np ns dd gd steps σ n (lp_behindDoing np gd lo pd σ 101 nx 0 (sp_doing_va np dd g nx) h ud) (k + 1) (lp_behindDoing_va np gd lo pd σ 101 nx 0 (sp_doing_va np dd g nx) h ud) (lp_behindDoing_pi_3 np gd lo pd σ 101 nx 0 (sp_doing_va np dd g nx) h ud) hi (lp_behindDoing_co_5 (sp_doing_co_5 en np dd g nx) np gd lo pd σ 101 nx 0 (sp_doing_va np dd g nx) h ud) (lp_behindDoing_tu np gd lo pd σ 101 nx 0 (sp_doing_va np dd g nx) h ud) pd lo (sp_note_ra rd k nx)) := by
  rw [lp_travel_pi_4, if_neg z0, if_neg cs, if_pos c1, if_pos c2]
theorem tb_pi_4_1  {steps : Int64} {n : Nat} {nx k : Int32} {g : Nat → Int64} {h hi en : Int32} {ud pd : Nat → Int32} {lo : Nat → Option Nat} {rd : Nat → Int32} (z0 : ¬ nx = 0) (cs : ¬ 0 ≤ lg_cmp k.toInt64 steps) (c1 : sp_performedBy np dd nx = -1) (c2 : ¬ sp_doing np dd g nx = -1) : (lp_travel_pi_4 np ns dd gd steps σ (n + 1) nx k g h hi en ud pd lo rd) = (lp_travel_pi_4 np ns dd gd steps σ n (sp_doing np dd g nx) (k + 1) (sp_doing_va np dd g nx) h hi (sp_doing_co_5 en np dd g nx) ud pd lo (sp_note_ra rd k nx)) := by
  rw [lp_travel_pi_4, if_neg z0, if_neg cs, if_pos c1, if_neg c2]
theorem tb_pi_4_2  {steps : Int64} {n : Nat} {nx k : Int32} {g : Nat → Int64} {h hi en : Int32} {ud pd : Nat → Int32} {lo : Nat → Option Nat} {rd : Nat → Int32} (z0 : ¬ nx = 0) (cs : ¬ 0 ≤ lg_cmp k.toInt64 steps) (c1 : ¬ sp_performedBy np dd nx = -1) (c2 : sp_performing ns h g (sp_performedBy np dd nx) σ = -1) : (lp_travel_pi_4 np ns dd gd steps σ (n + 1) nx k g h hi en ud pd lo rd) = (lp_travel_pi_4 np ns dd gd steps σ n (lp_behindDoing np gd (sp_performing_la ns h lo (sp_performedBy np dd nx) σ) (sp_performing_pe ns h pd (sp_performedBy np dd nx) nx σ) σ 101 nx 0 (sp_performing_va ns h g (sp_performedBy np dd nx) σ) (sp_performing_pi_3 ns h g (sp_performedBy np dd nx) σ) (sp_performing_tu ns h ud (sp_performedBy np dd nx) σ)) (k + 1) (lp_behindDoing_va np gd (sp_performing_la ns h lo (sp_performedBy np dd nx) σ) (sp_performing_pe ns h pd (sp_performedBy np dd nx) nx σ) σ 101 nx 0 (sp_performing_va ns h g (sp_performedBy np dd nx) σ) (sp_performing_pi_3 ns h g (sp_performedBy np dd nx) σ) (sp_performing_tu ns h ud (sp_performedBy np dd nx) σ)) (lp_behindDoing_pi_3 np gd (sp_performing_la ns h lo (sp_performedBy np dd nx) σ) (sp_performing_pe ns h pd (sp_performedBy np dd nx) nx σ) σ 101 nx 0 (sp_performing_va ns h g (sp_performedBy np dd nx) σ) (sp_performing_pi_3 ns h g (sp_performedBy np dd nx) σ) (sp_performing_tu ns h ud (sp_performedBy np dd nx) σ)) (sp_performing_pi_4 ns h hi g (sp_performedBy np dd nx) σ) (lp_behindDoing_co_5 (sp_performing_co_5 en ns h (sp_performedBy np dd nx) σ) np gd (sp_performing_la ns h lo (sp_performedBy np dd nx) σ) (sp_performing_pe ns h pd (sp_performedBy np dd nx) nx σ) σ 101 nx 0 (sp_performing_va ns h g (sp_performedBy np dd nx) σ) (sp_performing_pi_3 ns h g (sp_performedBy np dd nx) σ) (sp_performing_tu ns h ud (sp_performedBy np dd nx) σ)) (lp_behindDoing_tu np gd (sp_performing_la ns h lo (sp_performedBy np dd nx) σ) (sp_performing_pe ns h pd (sp_performedBy np dd nx) nx σ) σ 101 nx 0 (sp_performing_va ns h g (sp_performedBy np dd nx) σ) (sp_performing_pi_3 ns h g (sp_performedBy np dd nx) σ) (sp_performing_tu ns h ud (sp_performedBy np dd nx) σ)) (sp_performing_pe ns h pd (sp_performedBy np dd nx) nx σ) (sp_performing_la ns h lo (sp_performedBy np dd nx) σ) (sp_note_ra rd k nx)) := by
  rw [lp_travel_pi_4, if_neg z0, if_neg cs, if_neg c1, if_pos c2]
theorem tb_pi_4_3  {steps : Int64} {n : Nat} {nx k : Int32} {g : Nat → Int64} {h hi en : Int32} {ud pd : Nat → Int32} {lo : Nat → Option Nat} {rd : Nat → Int32} (z0 : ¬ nx = 0) (cs : ¬ 0 ≤ lg_cmp k.toInt64 steps) (c1 : ¬ sp_performedBy np dd nx = -1) (c2 : ¬ sp_performing ns h g (sp_performedBy np dd nx) σ = -1) : (lp_travel_pi_4 np ns dd gd steps σ (n + 1) nx k g h hi en ud pd lo rd) = (lp_travel_pi_4 np ns dd gd steps σ n (sp_performing ns h g (sp_performedBy np dd nx) σ) (k + 1) (sp_performing_va ns h g (sp_performedBy np dd nx) σ) (sp_performing_pi_3 ns h g (sp_performedBy np dd nx) σ) (sp_performing_pi_4 ns h hi g (sp_performedBy np dd nx) σ) (sp_performing_co_5 en ns h (sp_performedBy np dd nx) σ) (sp_performing_tu ns h ud (sp_performedBy np dd nx) σ) (sp_performing_pe ns h pd (sp_performedBy np dd nx) nx σ) (sp_performing_la ns h lo (sp_performedBy np dd nx) σ) (sp_note_ra rd k nx)) := by
  rw [lp_travel_pi_4, if_neg z0, if_neg cs, if_neg c1, if_neg c2]
theorem t0_la  {steps : Int64} {n : Nat} {k : Int32} {g : Nat → Int64} {h hi en : Int32} {ud pd : Nat → Int32} {lo : Nat → Option Nat} {rd : Nat → Int32} : (lp_travel_la np ns dd gd steps σ (n + 1) 0 k g h hi en ud pd lo rd) = lo := by
  rw [lp_travel_la, if_pos rfl]
theorem ts_la  {steps : Int64} {n : Nat} {nx k : Int32} {g : Nat → Int64} {h hi en : Int32} {ud pd : Nat → Int32} {lo : Nat → Option Nat} {rd : Nat → Int32} (z0 : ¬ nx = 0) (cs : 0 ≤ lg_cmp k.toInt64 steps) : (lp_travel_la np ns dd gd steps σ (n + 1) nx k g h hi en ud pd lo rd) = lo := by
  rw [lp_travel_la, if_neg z0, if_pos cs]
theorem tb_la_0  {steps : Int64} {n : Nat} {nx k : Int32} {g : Nat → Int64} {h hi en : Int32} {ud pd : Nat → Int32} {lo : Nat → Option Nat} {rd : Nat → Int32} (z0 : ¬ nx = 0) (cs : ¬ 0 ≤ lg_cmp k.toInt64 steps) (c1 : sp_performedBy np dd nx = -1) (c2 : sp_doing np dd g nx = -1) : (lp_travel_la np ns dd gd steps σ (n + 1) nx k g h hi en ud pd lo rd) = (lp_travel_la np ns dd gd steps σ n (lp_behindDoing np gd lo pd σ 101 nx 0 (sp_doing_va np dd g nx) h ud) (k + 1) (lp_behindDoing_va np gd lo pd σ 101 nx 0 (sp_doing_va np dd g nx) h ud) (lp_behindDoing_pi_3 np gd lo pd σ 101 nx 0 (sp_doing_va np dd g nx) h ud) hi (lp_behindDoing_co_5 (sp_doing_co_5 en np dd g nx) np gd lo pd σ 101 nx 0 (sp_doing_va np dd g nx) h ud) (lp_behindDoing_tu np gd lo pd σ 101 nx 0 (sp_doing_va np dd g nx) h ud) pd lo (sp_note_ra rd k nx)) := by
  rw [lp_travel_la, if_neg z0, if_neg cs, if_pos c1, if_pos c2]
theorem tb_la_1  {steps : Int64} {n : Nat} {nx k : Int32} {g : Nat → Int64} {h hi en : Int32} {ud pd : Nat → Int32} {lo : Nat → Option Nat} {rd : Nat → Int32} (z0 : ¬ nx = 0) (cs : ¬ 0 ≤ lg_cmp k.toInt64 steps) (c1 : sp_performedBy np dd nx = -1) (c2 : ¬ sp_doing np dd g nx = -1) : (lp_travel_la np ns dd gd steps σ (n + 1) nx k g h hi en ud pd lo rd) = (lp_travel_la np ns dd gd steps σ n (sp_doing np dd g nx) (k + 1) (sp_doing_va np dd g nx) h hi (sp_doing_co_5 en np dd g nx) ud pd lo (sp_note_ra rd k nx)) := by
  rw [lp_travel_la, if_neg z0, if_neg cs, if_pos c1, if_neg c2]
theorem tb_la_2  {steps : Int64} {n : Nat} {nx k : Int32} {g : Nat → Int64} {h hi en : Int32} {ud pd : Nat → Int32} {lo : Nat → Option Nat} {rd : Nat → Int32} (z0 : ¬ nx = 0) (cs : ¬ 0 ≤ lg_cmp k.toInt64 steps) (c1 : ¬ sp_performedBy np dd nx = -1) (c2 : sp_performing ns h g (sp_performedBy np dd nx) σ = -1) : (lp_travel_la np ns dd gd steps σ (n + 1) nx k g h hi en ud pd lo rd) = (lp_travel_la np ns dd gd steps σ n (lp_behindDoing np gd (sp_performing_la ns h lo (sp_performedBy np dd nx) σ) (sp_performing_pe ns h pd (sp_performedBy np dd nx) nx σ) σ 101 nx 0 (sp_performing_va ns h g (sp_performedBy np dd nx) σ) (sp_performing_pi_3 ns h g (sp_performedBy np dd nx) σ) (sp_performing_tu ns h ud (sp_performedBy np dd nx) σ)) (k + 1) (lp_behindDoing_va np gd (sp_performing_la ns h lo (sp_performedBy np dd nx) σ) (sp_performing_pe ns h pd (sp_performedBy np dd nx) nx σ) σ 101 nx 0 (sp_performing_va ns h g (sp_performedBy np dd nx) σ) (sp_performing_pi_3 ns h g (sp_performedBy np dd nx) σ) (sp_performing_tu ns h ud (sp_performedBy np dd nx) σ)) (lp_behindDoing_pi_3 np gd (sp_performing_la ns h lo (sp_performedBy np dd nx) σ) (sp_performing_pe ns h pd (sp_performedBy np dd nx) nx σ) σ 101 nx 0 (sp_performing_va ns h g (sp_performedBy np dd nx) σ) (sp_performing_pi_3 ns h g (sp_performedBy np dd nx) σ) (sp_performing_tu ns h ud (sp_performedBy np dd nx) σ)) (sp_performing_pi_4 ns h hi g (sp_performedBy np dd nx) σ) (lp_behindDoing_co_5 (sp_performing_co_5 en ns h (sp_performedBy np dd nx) σ) np gd (sp_performing_la ns h lo (sp_performedBy np dd nx) σ) (sp_performing_pe ns h pd (sp_performedBy np dd nx) nx σ) σ 101 nx 0 (sp_performing_va ns h g (sp_performedBy np dd nx) σ) (sp_performing_pi_3 ns h g (sp_performedBy np dd nx) σ) (sp_performing_tu ns h ud (sp_performedBy np dd nx) σ)) (lp_behindDoing_tu np gd (sp_performing_la ns h lo (sp_performedBy np dd nx) σ) (sp_performing_pe ns h pd (sp_performedBy np dd nx) nx σ) σ 101 nx 0 (sp_performing_va ns h g (sp_performedBy np dd nx) σ) (sp_performing_pi_3 ns h g (sp_performedBy np dd nx) σ) (sp_performing_tu ns h ud (sp_performedBy np dd nx) σ)) (sp_performing_pe ns h pd (sp_performedBy np dd nx) nx σ) (sp_performing_la ns h lo (sp_performedBy np dd nx) σ) (sp_note_ra rd k nx)) := by
  rw [lp_travel_la, if_neg z0, if_neg cs, if_neg c1, if_pos c2]
theorem tb_la_3  {steps : Int64} {n : Nat} {nx k : Int32} {g : Nat → Int64} {h hi en : Int32} {ud pd : Nat → Int32} {lo : Nat → Option Nat} {rd : Nat → Int32} (z0 : ¬ nx = 0) (cs : ¬ 0 ≤ lg_cmp k.toInt64 steps) (c1 : ¬ sp_performedBy np dd nx = -1) (c2 : ¬ sp_performing ns h g (sp_performedBy np dd nx) σ = -1) : (lp_travel_la np ns dd gd steps σ (n + 1) nx k g h hi en ud pd lo rd) = (lp_travel_la np ns dd gd steps σ n (sp_performing ns h g (sp_performedBy np dd nx) σ) (k + 1) (sp_performing_va ns h g (sp_performedBy np dd nx) σ) (sp_performing_pi_3 ns h g (sp_performedBy np dd nx) σ) (sp_performing_pi_4 ns h hi g (sp_performedBy np dd nx) σ) (sp_performing_co_5 en ns h (sp_performedBy np dd nx) σ) (sp_performing_tu ns h ud (sp_performedBy np dd nx) σ) (sp_performing_pe ns h pd (sp_performedBy np dd nx) nx σ) (sp_performing_la ns h lo (sp_performedBy np dd nx) σ) (sp_note_ra rd k nx)) := by
  rw [lp_travel_la, if_neg z0, if_neg cs, if_neg c1, if_neg c2]
theorem t0_pe  {steps : Int64} {n : Nat} {k : Int32} {g : Nat → Int64} {h hi en : Int32} {ud pd : Nat → Int32} {lo : Nat → Option Nat} {rd : Nat → Int32} : (lp_travel_pe np ns dd gd steps σ (n + 1) 0 k g h hi en ud pd lo rd) = pd := by
  rw [lp_travel_pe, if_pos rfl]
theorem ts_pe  {steps : Int64} {n : Nat} {nx k : Int32} {g : Nat → Int64} {h hi en : Int32} {ud pd : Nat → Int32} {lo : Nat → Option Nat} {rd : Nat → Int32} (z0 : ¬ nx = 0) (cs : 0 ≤ lg_cmp k.toInt64 steps) : (lp_travel_pe np ns dd gd steps σ (n + 1) nx k g h hi en ud pd lo rd) = pd := by
  rw [lp_travel_pe, if_neg z0, if_pos cs]
theorem tb_pe_0  {steps : Int64} {n : Nat} {nx k : Int32} {g : Nat → Int64} {h hi en : Int32} {ud pd : Nat → Int32} {lo : Nat → Option Nat} {rd : Nat → Int32} (z0 : ¬ nx = 0) (cs : ¬ 0 ≤ lg_cmp k.toInt64 steps) (c1 : sp_performedBy np dd nx = -1) (c2 : sp_doing np dd g nx = -1) : (lp_travel_pe np ns dd gd steps σ (n + 1) nx k g h hi en ud pd lo rd) = (lp_travel_pe np ns dd gd steps σ n (lp_behindDoing np gd lo pd σ 101 nx 0 (sp_doing_va np dd g nx) h ud) (k + 1) (lp_behindDoing_va np gd lo pd σ 101 nx 0 (sp_doing_va np dd g nx) h ud) (lp_behindDoing_pi_3 np gd lo pd σ 101 nx 0 (sp_doing_va np dd g nx) h ud) hi (lp_behindDoing_co_5 (sp_doing_co_5 en np dd g nx) np gd lo pd σ 101 nx 0 (sp_doing_va np dd g nx) h ud) (lp_behindDoing_tu np gd lo pd σ 101 nx 0 (sp_doing_va np dd g nx) h ud) pd lo (sp_note_ra rd k nx)) := by
  rw [lp_travel_pe, if_neg z0, if_neg cs, if_pos c1, if_pos c2]
theorem tb_pe_1  {steps : Int64} {n : Nat} {nx k : Int32} {g : Nat → Int64} {h hi en : Int32} {ud pd : Nat → Int32} {lo : Nat → Option Nat} {rd : Nat → Int32} (z0 : ¬ nx = 0) (cs : ¬ 0 ≤ lg_cmp k.toInt64 steps) (c1 : sp_performedBy np dd nx = -1) (c2 : ¬ sp_doing np dd g nx = -1) : (lp_travel_pe np ns dd gd steps σ (n + 1) nx k g h hi en ud pd lo rd) = (lp_travel_pe np ns dd gd steps σ n (sp_doing np dd g nx) (k + 1) (sp_doing_va np dd g nx) h hi (sp_doing_co_5 en np dd g nx) ud pd lo (sp_note_ra rd k nx)) := by
  rw [lp_travel_pe, if_neg z0, if_neg cs, if_pos c1, if_neg c2]
theorem tb_pe_2  {steps : Int64} {n : Nat} {nx k : Int32} {g : Nat → Int64} {h hi en : Int32} {ud pd : Nat → Int32} {lo : Nat → Option Nat} {rd : Nat → Int32} (z0 : ¬ nx = 0) (cs : ¬ 0 ≤ lg_cmp k.toInt64 steps) (c1 : ¬ sp_performedBy np dd nx = -1) (c2 : sp_performing ns h g (sp_performedBy np dd nx) σ = -1) : (lp_travel_pe np ns dd gd steps σ (n + 1) nx k g h hi en ud pd lo rd) = (lp_travel_pe np ns dd gd steps σ n (lp_behindDoing np gd (sp_performing_la ns h lo (sp_performedBy np dd nx) σ) (sp_performing_pe ns h pd (sp_performedBy np dd nx) nx σ) σ 101 nx 0 (sp_performing_va ns h g (sp_performedBy np dd nx) σ) (sp_performing_pi_3 ns h g (sp_performedBy np dd nx) σ) (sp_performing_tu ns h ud (sp_performedBy np dd nx) σ)) (k + 1) (lp_behindDoing_va np gd (sp_performing_la ns h lo (sp_performedBy np dd nx) σ) (sp_performing_pe ns h pd (sp_performedBy np dd nx) nx σ) σ 101 nx 0 (sp_performing_va ns h g (sp_performedBy np dd nx) σ) (sp_performing_pi_3 ns h g (sp_performedBy np dd nx) σ) (sp_performing_tu ns h ud (sp_performedBy np dd nx) σ)) (lp_behindDoing_pi_3 np gd (sp_performing_la ns h lo (sp_performedBy np dd nx) σ) (sp_performing_pe ns h pd (sp_performedBy np dd nx) nx σ) σ 101 nx 0 (sp_performing_va ns h g (sp_performedBy np dd nx) σ) (sp_performing_pi_3 ns h g (sp_performedBy np dd nx) σ) (sp_performing_tu ns h ud (sp_performedBy np dd nx) σ)) (sp_performing_pi_4 ns h hi g (sp_performedBy np dd nx) σ) (lp_behindDoing_co_5 (sp_performing_co_5 en ns h (sp_performedBy np dd nx) σ) np gd (sp_performing_la ns h lo (sp_performedBy np dd nx) σ) (sp_performing_pe ns h pd (sp_performedBy np dd nx) nx σ) σ 101 nx 0 (sp_performing_va ns h g (sp_performedBy np dd nx) σ) (sp_performing_pi_3 ns h g (sp_performedBy np dd nx) σ) (sp_performing_tu ns h ud (sp_performedBy np dd nx) σ)) (lp_behindDoing_tu np gd (sp_performing_la ns h lo (sp_performedBy np dd nx) σ) (sp_performing_pe ns h pd (sp_performedBy np dd nx) nx σ) σ 101 nx 0 (sp_performing_va ns h g (sp_performedBy np dd nx) σ) (sp_performing_pi_3 ns h g (sp_performedBy np dd nx) σ) (sp_performing_tu ns h ud (sp_performedBy np dd nx) σ)) (sp_performing_pe ns h pd (sp_performedBy np dd nx) nx σ) (sp_performing_la ns h lo (sp_performedBy np dd nx) σ) (sp_note_ra rd k nx)) := by
  rw [lp_travel_pe, if_neg z0, if_neg cs, if_neg c1, if_pos c2]
theorem tb_pe_3  {steps : Int64} {n : Nat} {nx k : Int32} {g : Nat → Int64} {h hi en : Int32} {ud pd : Nat → Int32} {lo : Nat → Option Nat} {rd : Nat → Int32} (z0 : ¬ nx = 0) (cs : ¬ 0 ≤ lg_cmp k.toInt64 steps) (c1 : ¬ sp_performedBy np dd nx = -1) (c2 : ¬ sp_performing ns h g (sp_performedBy np dd nx) σ = -1) : (lp_travel_pe np ns dd gd steps σ (n + 1) nx k g h hi en ud pd lo rd) = (lp_travel_pe np ns dd gd steps σ n (sp_performing ns h g (sp_performedBy np dd nx) σ) (k + 1) (sp_performing_va ns h g (sp_performedBy np dd nx) σ) (sp_performing_pi_3 ns h g (sp_performedBy np dd nx) σ) (sp_performing_pi_4 ns h hi g (sp_performedBy np dd nx) σ) (sp_performing_co_5 en ns h (sp_performedBy np dd nx) σ) (sp_performing_tu ns h ud (sp_performedBy np dd nx) σ) (sp_performing_pe ns h pd (sp_performedBy np dd nx) nx σ) (sp_performing_la ns h lo (sp_performedBy np dd nx) σ) (sp_note_ra rd k nx)) := by
  rw [lp_travel_pe, if_neg z0, if_neg cs, if_neg c1, if_neg c2]
theorem t0_tu  {steps : Int64} {n : Nat} {k : Int32} {g : Nat → Int64} {h hi en : Int32} {ud pd : Nat → Int32} {lo : Nat → Option Nat} {rd : Nat → Int32} : (lp_travel_tu np ns dd gd steps σ (n + 1) 0 k g h hi en ud pd lo rd) = ud := by
  rw [lp_travel_tu, if_pos rfl]
theorem ts_tu  {steps : Int64} {n : Nat} {nx k : Int32} {g : Nat → Int64} {h hi en : Int32} {ud pd : Nat → Int32} {lo : Nat → Option Nat} {rd : Nat → Int32} (z0 : ¬ nx = 0) (cs : 0 ≤ lg_cmp k.toInt64 steps) : (lp_travel_tu np ns dd gd steps σ (n + 1) nx k g h hi en ud pd lo rd) = ud := by
  rw [lp_travel_tu, if_neg z0, if_pos cs]
theorem tb_tu_0  {steps : Int64} {n : Nat} {nx k : Int32} {g : Nat → Int64} {h hi en : Int32} {ud pd : Nat → Int32} {lo : Nat → Option Nat} {rd : Nat → Int32} (z0 : ¬ nx = 0) (cs : ¬ 0 ≤ lg_cmp k.toInt64 steps) (c1 : sp_performedBy np dd nx = -1) (c2 : sp_doing np dd g nx = -1) : (lp_travel_tu np ns dd gd steps σ (n + 1) nx k g h hi en ud pd lo rd) = (lp_travel_tu np ns dd gd steps σ n (lp_behindDoing np gd lo pd σ 101 nx 0 (sp_doing_va np dd g nx) h ud) (k + 1) (lp_behindDoing_va np gd lo pd σ 101 nx 0 (sp_doing_va np dd g nx) h ud) (lp_behindDoing_pi_3 np gd lo pd σ 101 nx 0 (sp_doing_va np dd g nx) h ud) hi (lp_behindDoing_co_5 (sp_doing_co_5 en np dd g nx) np gd lo pd σ 101 nx 0 (sp_doing_va np dd g nx) h ud) (lp_behindDoing_tu np gd lo pd σ 101 nx 0 (sp_doing_va np dd g nx) h ud) pd lo (sp_note_ra rd k nx)) := by
  rw [lp_travel_tu, if_neg z0, if_neg cs, if_pos c1, if_pos c2]
theorem tb_tu_1  {steps : Int64} {n : Nat} {nx k : Int32} {g : Nat → Int64} {h hi en : Int32} {ud pd : Nat → Int32} {lo : Nat → Option Nat} {rd : Nat → Int32} (z0 : ¬ nx = 0) (cs : ¬ 0 ≤ lg_cmp k.toInt64 steps) (c1 : sp_performedBy np dd nx = -1) (c2 : ¬ sp_doing np dd g nx = -1) : (lp_travel_tu np ns dd gd steps σ (n + 1) nx k g h hi en ud pd lo rd) = (lp_travel_tu np ns dd gd steps σ n (sp_doing np dd g nx) (k + 1) (sp_doing_va np dd g nx) h hi (sp_doing_co_5 en np dd g nx) ud pd lo (sp_note_ra rd k nx)) := by
  rw [lp_travel_tu, if_neg z0, if_neg cs, if_pos c1, if_neg c2]
theorem tb_tu_2  {steps : Int64} {n : Nat} {nx k : Int32} {g : Nat → Int64} {h hi en : Int32} {ud pd : Nat → Int32} {lo : Nat → Option Nat} {rd : Nat → Int32} (z0 : ¬ nx = 0) (cs : ¬ 0 ≤ lg_cmp k.toInt64 steps) (c1 : ¬ sp_performedBy np dd nx = -1) (c2 : sp_performing ns h g (sp_performedBy np dd nx) σ = -1) : (lp_travel_tu np ns dd gd steps σ (n + 1) nx k g h hi en ud pd lo rd) = (lp_travel_tu np ns dd gd steps σ n (lp_behindDoing np gd (sp_performing_la ns h lo (sp_performedBy np dd nx) σ) (sp_performing_pe ns h pd (sp_performedBy np dd nx) nx σ) σ 101 nx 0 (sp_performing_va ns h g (sp_performedBy np dd nx) σ) (sp_performing_pi_3 ns h g (sp_performedBy np dd nx) σ) (sp_performing_tu ns h ud (sp_performedBy np dd nx) σ)) (k + 1) (lp_behindDoing_va np gd (sp_performing_la ns h lo (sp_performedBy np dd nx) σ) (sp_performing_pe ns h pd (sp_performedBy np dd nx) nx σ) σ 101 nx 0 (sp_performing_va ns h g (sp_performedBy np dd nx) σ) (sp_performing_pi_3 ns h g (sp_performedBy np dd nx) σ) (sp_performing_tu ns h ud (sp_performedBy np dd nx) σ)) (lp_behindDoing_pi_3 np gd (sp_performing_la ns h lo (sp_performedBy np dd nx) σ) (sp_performing_pe ns h pd (sp_performedBy np dd nx) nx σ) σ 101 nx 0 (sp_performing_va ns h g (sp_performedBy np dd nx) σ) (sp_performing_pi_3 ns h g (sp_performedBy np dd nx) σ) (sp_performing_tu ns h ud (sp_performedBy np dd nx) σ)) (sp_performing_pi_4 ns h hi g (sp_performedBy np dd nx) σ) (lp_behindDoing_co_5 (sp_performing_co_5 en ns h (sp_performedBy np dd nx) σ) np gd (sp_performing_la ns h lo (sp_performedBy np dd nx) σ) (sp_performing_pe ns h pd (sp_performedBy np dd nx) nx σ) σ 101 nx 0 (sp_performing_va ns h g (sp_performedBy np dd nx) σ) (sp_performing_pi_3 ns h g (sp_performedBy np dd nx) σ) (sp_performing_tu ns h ud (sp_performedBy np dd nx) σ)) (lp_behindDoing_tu np gd (sp_performing_la ns h lo (sp_performedBy np dd nx) σ) (sp_performing_pe ns h pd (sp_performedBy np dd nx) nx σ) σ 101 nx 0 (sp_performing_va ns h g (sp_performedBy np dd nx) σ) (sp_performing_pi_3 ns h g (sp_performedBy np dd nx) σ) (sp_performing_tu ns h ud (sp_performedBy np dd nx) σ)) (sp_performing_pe ns h pd (sp_performedBy np dd nx) nx σ) (sp_performing_la ns h lo (sp_performedBy np dd nx) σ) (sp_note_ra rd k nx)) := by
  rw [lp_travel_tu, if_neg z0, if_neg cs, if_neg c1, if_pos c2]
theorem tb_tu_3  {steps : Int64} {n : Nat} {nx k : Int32} {g : Nat → Int64} {h hi en : Int32} {ud pd : Nat → Int32} {lo : Nat → Option Nat} {rd : Nat → Int32} (z0 : ¬ nx = 0) (cs : ¬ 0 ≤ lg_cmp k.toInt64 steps) (c1 : ¬ sp_performedBy np dd nx = -1) (c2 : ¬ sp_performing ns h g (sp_performedBy np dd nx) σ = -1) : (lp_travel_tu np ns dd gd steps σ (n + 1) nx k g h hi en ud pd lo rd) = (lp_travel_tu np ns dd gd steps σ n (sp_performing ns h g (sp_performedBy np dd nx) σ) (k + 1) (sp_performing_va ns h g (sp_performedBy np dd nx) σ) (sp_performing_pi_3 ns h g (sp_performedBy np dd nx) σ) (sp_performing_pi_4 ns h hi g (sp_performedBy np dd nx) σ) (sp_performing_co_5 en ns h (sp_performedBy np dd nx) σ) (sp_performing_tu ns h ud (sp_performedBy np dd nx) σ) (sp_performing_pe ns h pd (sp_performedBy np dd nx) nx σ) (sp_performing_la ns h lo (sp_performedBy np dd nx) σ) (sp_note_ra rd k nx)) := by
  rw [lp_travel_tu, if_neg z0, if_neg cs, if_neg c1, if_neg c2]
theorem t0_ra  {steps : Int64} {n : Nat} {k : Int32} {g : Nat → Int64} {h hi en : Int32} {ud pd : Nat → Int32} {lo : Nat → Option Nat} {rd : Nat → Int32} : (lp_travel_ra np ns dd gd steps σ (n + 1) 0 k g h hi en ud pd lo rd) = rd := by
  rw [lp_travel_ra, if_pos rfl]
theorem ts_ra  {steps : Int64} {n : Nat} {nx k : Int32} {g : Nat → Int64} {h hi en : Int32} {ud pd : Nat → Int32} {lo : Nat → Option Nat} {rd : Nat → Int32} (z0 : ¬ nx = 0) (cs : 0 ≤ lg_cmp k.toInt64 steps) : (lp_travel_ra np ns dd gd steps σ (n + 1) nx k g h hi en ud pd lo rd) = rd := by
  rw [lp_travel_ra, if_neg z0, if_pos cs]
theorem tb_ra_0  {steps : Int64} {n : Nat} {nx k : Int32} {g : Nat → Int64} {h hi en : Int32} {ud pd : Nat → Int32} {lo : Nat → Option Nat} {rd : Nat → Int32} (z0 : ¬ nx = 0) (cs : ¬ 0 ≤ lg_cmp k.toInt64 steps) (c1 : sp_performedBy np dd nx = -1) (c2 : sp_doing np dd g nx = -1) : (lp_travel_ra np ns dd gd steps σ (n + 1) nx k g h hi en ud pd lo rd) = (lp_travel_ra np ns dd gd steps σ n (lp_behindDoing np gd lo pd σ 101 nx 0 (sp_doing_va np dd g nx) h ud) (k + 1) (lp_behindDoing_va np gd lo pd σ 101 nx 0 (sp_doing_va np dd g nx) h ud) (lp_behindDoing_pi_3 np gd lo pd σ 101 nx 0 (sp_doing_va np dd g nx) h ud) hi (lp_behindDoing_co_5 (sp_doing_co_5 en np dd g nx) np gd lo pd σ 101 nx 0 (sp_doing_va np dd g nx) h ud) (lp_behindDoing_tu np gd lo pd σ 101 nx 0 (sp_doing_va np dd g nx) h ud) pd lo (sp_note_ra rd k nx)) := by
  rw [lp_travel_ra, if_neg z0, if_neg cs, if_pos c1, if_pos c2]
theorem tb_ra_1  {steps : Int64} {n : Nat} {nx k : Int32} {g : Nat → Int64} {h hi en : Int32} {ud pd : Nat → Int32} {lo : Nat → Option Nat} {rd : Nat → Int32} (z0 : ¬ nx = 0) (cs : ¬ 0 ≤ lg_cmp k.toInt64 steps) (c1 : sp_performedBy np dd nx = -1) (c2 : ¬ sp_doing np dd g nx = -1) : (lp_travel_ra np ns dd gd steps σ (n + 1) nx k g h hi en ud pd lo rd) = (lp_travel_ra np ns dd gd steps σ n (sp_doing np dd g nx) (k + 1) (sp_doing_va np dd g nx) h hi (sp_doing_co_5 en np dd g nx) ud pd lo (sp_note_ra rd k nx)) := by
  rw [lp_travel_ra, if_neg z0, if_neg cs, if_pos c1, if_neg c2]
theorem tb_ra_2  {steps : Int64} {n : Nat} {nx k : Int32} {g : Nat → Int64} {h hi en : Int32} {ud pd : Nat → Int32} {lo : Nat → Option Nat} {rd : Nat → Int32} (z0 : ¬ nx = 0) (cs : ¬ 0 ≤ lg_cmp k.toInt64 steps) (c1 : ¬ sp_performedBy np dd nx = -1) (c2 : sp_performing ns h g (sp_performedBy np dd nx) σ = -1) : (lp_travel_ra np ns dd gd steps σ (n + 1) nx k g h hi en ud pd lo rd) = (lp_travel_ra np ns dd gd steps σ n (lp_behindDoing np gd (sp_performing_la ns h lo (sp_performedBy np dd nx) σ) (sp_performing_pe ns h pd (sp_performedBy np dd nx) nx σ) σ 101 nx 0 (sp_performing_va ns h g (sp_performedBy np dd nx) σ) (sp_performing_pi_3 ns h g (sp_performedBy np dd nx) σ) (sp_performing_tu ns h ud (sp_performedBy np dd nx) σ)) (k + 1) (lp_behindDoing_va np gd (sp_performing_la ns h lo (sp_performedBy np dd nx) σ) (sp_performing_pe ns h pd (sp_performedBy np dd nx) nx σ) σ 101 nx 0 (sp_performing_va ns h g (sp_performedBy np dd nx) σ) (sp_performing_pi_3 ns h g (sp_performedBy np dd nx) σ) (sp_performing_tu ns h ud (sp_performedBy np dd nx) σ)) (lp_behindDoing_pi_3 np gd (sp_performing_la ns h lo (sp_performedBy np dd nx) σ) (sp_performing_pe ns h pd (sp_performedBy np dd nx) nx σ) σ 101 nx 0 (sp_performing_va ns h g (sp_performedBy np dd nx) σ) (sp_performing_pi_3 ns h g (sp_performedBy np dd nx) σ) (sp_performing_tu ns h ud (sp_performedBy np dd nx) σ)) (sp_performing_pi_4 ns h hi g (sp_performedBy np dd nx) σ) (lp_behindDoing_co_5 (sp_performing_co_5 en ns h (sp_performedBy np dd nx) σ) np gd (sp_performing_la ns h lo (sp_performedBy np dd nx) σ) (sp_performing_pe ns h pd (sp_performedBy np dd nx) nx σ) σ 101 nx 0 (sp_performing_va ns h g (sp_performedBy np dd nx) σ) (sp_performing_pi_3 ns h g (sp_performedBy np dd nx) σ) (sp_performing_tu ns h ud (sp_performedBy np dd nx) σ)) (lp_behindDoing_tu np gd (sp_performing_la ns h lo (sp_performedBy np dd nx) σ) (sp_performing_pe ns h pd (sp_performedBy np dd nx) nx σ) σ 101 nx 0 (sp_performing_va ns h g (sp_performedBy np dd nx) σ) (sp_performing_pi_3 ns h g (sp_performedBy np dd nx) σ) (sp_performing_tu ns h ud (sp_performedBy np dd nx) σ)) (sp_performing_pe ns h pd (sp_performedBy np dd nx) nx σ) (sp_performing_la ns h lo (sp_performedBy np dd nx) σ) (sp_note_ra rd k nx)) := by
  rw [lp_travel_ra, if_neg z0, if_neg cs, if_neg c1, if_pos c2]
theorem tb_ra_3  {steps : Int64} {n : Nat} {nx k : Int32} {g : Nat → Int64} {h hi en : Int32} {ud pd : Nat → Int32} {lo : Nat → Option Nat} {rd : Nat → Int32} (z0 : ¬ nx = 0) (cs : ¬ 0 ≤ lg_cmp k.toInt64 steps) (c1 : ¬ sp_performedBy np dd nx = -1) (c2 : ¬ sp_performing ns h g (sp_performedBy np dd nx) σ = -1) : (lp_travel_ra np ns dd gd steps σ (n + 1) nx k g h hi en ud pd lo rd) = (lp_travel_ra np ns dd gd steps σ n (sp_performing ns h g (sp_performedBy np dd nx) σ) (k + 1) (sp_performing_va ns h g (sp_performedBy np dd nx) σ) (sp_performing_pi_3 ns h g (sp_performedBy np dd nx) σ) (sp_performing_pi_4 ns h hi g (sp_performedBy np dd nx) σ) (sp_performing_co_5 en ns h (sp_performedBy np dd nx) σ) (sp_performing_tu ns h ud (sp_performedBy np dd nx) σ) (sp_performing_pe ns h pd (sp_performedBy np dd nx) nx σ) (sp_performing_la ns h lo (sp_performedBy np dd nx) σ) (sp_note_ra rd k nx)) := by
  rw [lp_travel_ra, if_neg z0, if_neg cs, if_neg c1, if_neg c2]
theorem t00  {steps : Int64} {n : Nat} {k : Int32} {g : Nat → Int64} {h hi en : Int32} {ud pd : Nat → Int32} {lo : Nat → Option Nat} {rd : Nat → Int32} : (lp_travel0 np ns dd gd steps σ (n + 1) 0 k g h hi en ud pd lo rd) = k := by
  rw [lp_travel0, if_pos rfl]
theorem ts0  {steps : Int64} {n : Nat} {nx k : Int32} {g : Nat → Int64} {h hi en : Int32} {ud pd : Nat → Int32} {lo : Nat → Option Nat} {rd : Nat → Int32} (z0 : ¬ nx = 0) (cs : 0 ≤ lg_cmp k.toInt64 steps) : (lp_travel0 np ns dd gd steps σ (n + 1) nx k g h hi en ud pd lo rd) = k := by
  rw [lp_travel0, if_neg z0, if_pos cs]
theorem tb0_0  {steps : Int64} {n : Nat} {nx k : Int32} {g : Nat → Int64} {h hi en : Int32} {ud pd : Nat → Int32} {lo : Nat → Option Nat} {rd : Nat → Int32} (z0 : ¬ nx = 0) (cs : ¬ 0 ≤ lg_cmp k.toInt64 steps) (c1 : sp_performedBy np dd nx = -1) (c2 : sp_doing np dd g nx = -1) : (lp_travel0 np ns dd gd steps σ (n + 1) nx k g h hi en ud pd lo rd) = (lp_travel0 np ns dd gd steps σ n (lp_behindDoing np gd lo pd σ 101 nx 0 (sp_doing_va np dd g nx) h ud) (k + 1) (lp_behindDoing_va np gd lo pd σ 101 nx 0 (sp_doing_va np dd g nx) h ud) (lp_behindDoing_pi_3 np gd lo pd σ 101 nx 0 (sp_doing_va np dd g nx) h ud) hi (lp_behindDoing_co_5 (sp_doing_co_5 en np dd g nx) np gd lo pd σ 101 nx 0 (sp_doing_va np dd g nx) h ud) (lp_behindDoing_tu np gd lo pd σ 101 nx 0 (sp_doing_va np dd g nx) h ud) pd lo (sp_note0_ra rd k nx)) := by
  rw [lp_travel0, if_neg z0, if_neg cs, if_pos c1, if_pos c2]
theorem tb0_1  {steps : Int64} {n : Nat} {nx k : Int32} {g : Nat → Int64} {h hi en : Int32} {ud pd : Nat → Int32} {lo : Nat → Option Nat} {rd : Nat → Int32} (z0 : ¬ nx = 0) (cs : ¬ 0 ≤ lg_cmp k.toInt64 steps) (c1 : sp_performedBy np dd nx = -1) (c2 : ¬ sp_doing np dd g nx = -1) : (lp_travel0 np ns dd gd steps σ (n + 1) nx k g h hi en ud pd lo rd) = (lp_travel0 np ns dd gd steps σ n (sp_doing np dd g nx) (k + 1) (sp_doing_va np dd g nx) h hi (sp_doing_co_5 en np dd g nx) ud pd lo (sp_note0_ra rd k nx)) := by
  rw [lp_travel0, if_neg z0, if_neg cs, if_pos c1, if_neg c2]
theorem tb0_2  {steps : Int64} {n : Nat} {nx k : Int32} {g : Nat → Int64} {h hi en : Int32} {ud pd : Nat → Int32} {lo : Nat → Option Nat} {rd : Nat → Int32} (z0 : ¬ nx = 0) (cs : ¬ 0 ≤ lg_cmp k.toInt64 steps) (c1 : ¬ sp_performedBy np dd nx = -1) (c2 : sp_performing ns h g (sp_performedBy np dd nx) σ = -1) : (lp_travel0 np ns dd gd steps σ (n + 1) nx k g h hi en ud pd lo rd) = (lp_travel0 np ns dd gd steps σ n (lp_behindDoing np gd (sp_performing_la ns h lo (sp_performedBy np dd nx) σ) (sp_performing_pe ns h pd (sp_performedBy np dd nx) nx σ) σ 101 nx 0 (sp_performing_va ns h g (sp_performedBy np dd nx) σ) (sp_performing_pi_3 ns h g (sp_performedBy np dd nx) σ) (sp_performing_tu ns h ud (sp_performedBy np dd nx) σ)) (k + 1) (lp_behindDoing_va np gd (sp_performing_la ns h lo (sp_performedBy np dd nx) σ) (sp_performing_pe ns h pd (sp_performedBy np dd nx) nx σ) σ 101 nx 0 (sp_performing_va ns h g (sp_performedBy np dd nx) σ) (sp_performing_pi_3 ns h g (sp_performedBy np dd nx) σ) (sp_performing_tu ns h ud (sp_performedBy np dd nx) σ)) (lp_behindDoing_pi_3 np gd (sp_performing_la ns h lo (sp_performedBy np dd nx) σ) (sp_performing_pe ns h pd (sp_performedBy np dd nx) nx σ) σ 101 nx 0 (sp_performing_va ns h g (sp_performedBy np dd nx) σ) (sp_performing_pi_3 ns h g (sp_performedBy np dd nx) σ) (sp_performing_tu ns h ud (sp_performedBy np dd nx) σ)) (sp_performing_pi_4 ns h hi g (sp_performedBy np dd nx) σ) (lp_behindDoing_co_5 (sp_performing_co_5 en ns h (sp_performedBy np dd nx) σ) np gd (sp_performing_la ns h lo (sp_performedBy np dd nx) σ) (sp_performing_pe ns h pd (sp_performedBy np dd nx) nx σ) σ 101 nx 0 (sp_performing_va ns h g (sp_performedBy np dd nx) σ) (sp_performing_pi_3 ns h g (sp_performedBy np dd nx) σ) (sp_performing_tu ns h ud (sp_performedBy np dd nx) σ)) (lp_behindDoing_tu np gd (sp_performing_la ns h lo (sp_performedBy np dd nx) σ) (sp_performing_pe ns h pd (sp_performedBy np dd nx) nx σ) σ 101 nx 0 (sp_performing_va ns h g (sp_performedBy np dd nx) σ) (sp_performing_pi_3 ns h g (sp_performedBy np dd nx) σ) (sp_performing_tu ns h ud (sp_performedBy np dd nx) σ)) (sp_performing_pe ns h pd (sp_performedBy np dd nx) nx σ) (sp_performing_la ns h lo (sp_performedBy np dd nx) σ) (sp_note0_ra rd k nx)) := by
  rw [lp_travel0, if_neg z0, if_neg cs, if_neg c1, if_pos c2]
theorem tb0_3  {steps : Int64} {n : Nat} {nx k : Int32} {g : Nat → Int64} {h hi en : Int32} {ud pd : Nat → Int32} {lo : Nat → Option Nat} {rd : Nat → Int32} (z0 : ¬ nx = 0) (cs : ¬ 0 ≤ lg_cmp k.toInt64 steps) (c1 : ¬ sp_performedBy np dd nx = -1) (c2 : ¬ sp_performing ns h g (sp_performedBy np dd nx) σ = -1) : (lp_travel0 np ns dd gd steps σ (n + 1) nx k g h hi en ud pd lo rd) = (lp_travel0 np ns dd gd steps σ n (sp_performing ns h g (sp_performedBy np dd nx) σ) (k + 1) (sp_performing_va ns h g (sp_performedBy np dd nx) σ) (sp_performing_pi_3 ns h g (sp_performedBy np dd nx) σ) (sp_performing_pi_4 ns h hi g (sp_performedBy np dd nx) σ) (sp_performing_co_5 en ns h (sp_performedBy np dd nx) σ) (sp_performing_tu ns h ud (sp_performedBy np dd nx) σ) (sp_performing_pe ns h pd (sp_performedBy np dd nx) nx σ) (sp_performing_la ns h lo (sp_performedBy np dd nx) σ) (sp_note0_ra rd k nx)) := by
  rw [lp_travel0, if_neg z0, if_neg cs, if_neg c1, if_neg c2]
theorem t00_co_4 {ln : Int32} {steps : Int64} {n : Nat} {k : Int32} {g : Nat → Int64} {h hi en : Int32} {ud pd : Nat → Int32} {lo : Nat → Option Nat} {rd : Nat → Int32} : (lp_travel0_co_4 ln np ns dd gd steps σ (n + 1) 0 k g h hi en ud pd lo rd) = k := by
  rw [lp_travel0_co_4, if_pos rfl]
theorem ts0_co_4 {ln : Int32} {steps : Int64} {n : Nat} {nx k : Int32} {g : Nat → Int64} {h hi en : Int32} {ud pd : Nat → Int32} {lo : Nat → Option Nat} {rd : Nat → Int32} (z0 : ¬ nx = 0) (cs : 0 ≤ lg_cmp k.toInt64 steps) : (lp_travel0_co_4 ln np ns dd gd steps σ (n + 1) nx k g h hi en ud pd lo rd) = k := by
  rw [lp_travel0_co_4, if_neg z0, if_pos cs]
theorem tb0_co_4_0 {ln : Int32} {steps : Int64} {n : Nat} {nx k : Int32} {g : Nat → Int64} {h hi en : Int32} {ud pd : Nat → Int32} {lo : Nat → Option Nat} {rd : Nat → Int32} (z0 : ¬ nx = 0) (cs : ¬ 0 ≤ lg_cmp k.toInt64 steps) (c1 : sp_performedBy np dd nx = -1) (c2 : sp_doing np dd g nx = -1) : (lp_travel0_co_4 ln np ns dd gd steps σ (n + 1) nx k g h hi en ud pd lo rd) = (lp_travel0_co_4 ln np ns dd gd steps σ n (lp_behindDoing np gd lo pd σ 101 nx 0 (sp_doing_va np dd g nx) h ud) (k + 1) (lp_behindDoing_va np gd lo pd σ 101 nx 0 (sp_doing_va np dd g nx) h ud) (lp_behindDoing_pi_3 np gd lo pd σ 101 nx 0 (sp_doing_va np dd g nx) h ud) hi (lp_behindDoing_co_5 (sp_doing_co_5 en np dd g nx) np gd lo pd σ 101 nx 0 (sp_doing_va np dd g nx) h ud) (lp_behindDoing_tu np gd lo pd σ 101 nx 0 (sp_doing_va np dd g nx) h ud) pd lo (sp_note0_ra rd k nx)) := by
  rw [lp_travel0_co_4, if_neg z0, if_neg cs, if_pos c1, if_pos c2]
theorem tb0_co_4_1 {ln : Int32} {steps : Int64} {n : Nat} {nx k : Int32} {g : Nat → Int64} {h hi en : Int32} {ud pd : Nat → Int32} {lo : Nat → Option Nat} {rd : Nat → Int32} (z0 : ¬ nx = 0) (cs : ¬ 0 ≤ lg_cmp k.toInt64 steps) (c1 : sp_performedBy np dd nx = -1) (c2 : ¬ sp_doing np dd g nx = -1) : (lp_travel0_co_4 ln np ns dd gd steps σ (n + 1) nx k g h hi en ud pd lo rd) = (lp_travel0_co_4 ln np ns dd gd steps σ n (sp_doing np dd g nx) (k + 1) (sp_doing_va np dd g nx) h hi (sp_doing_co_5 en np dd g nx) ud pd lo (sp_note0_ra rd k nx)) := by
  rw [lp_travel0_co_4, if_neg z0, if_neg cs, if_pos c1, if_neg c2]
theorem tb0_co_4_2 {ln : Int32} {steps : Int64} {n : Nat} {nx k : Int32} {g : Nat → Int64} {h hi en : Int32} {ud pd : Nat → Int32} {lo : Nat → Option Nat} {rd : Nat → Int32} (z0 : ¬ nx = 0) (cs : ¬ 0 ≤ lg_cmp k.toInt64 steps) (c1 : ¬ sp_performedBy np dd nx = -1) (c2 : sp_performing ns h g (sp_performedBy np dd nx) σ = -1) : (lp_travel0_co_4 ln np ns dd gd steps σ (n + 1) nx k g h hi en ud pd lo rd) = (lp_travel0_co_4 ln np ns dd gd steps σ n (lp_behindDoing np gd (sp_performing_la ns h lo (sp_performedBy np dd nx) σ) (sp_performing_pe ns h pd (sp_performedBy np dd nx) nx σ) σ 101 nx 0 (sp_performing_va ns h g (sp_performedBy np dd nx) σ) (sp_performing_pi_3 ns h g (sp_performedBy np dd nx) σ) (sp_performing_tu ns h ud (sp_performedBy np dd nx) σ)) (k + 1) (lp_behindDoing_va np gd (sp_performing_la ns h lo (sp_performedBy np dd nx) σ) (sp_performing_pe ns h pd (sp_performedBy np dd nx) nx σ) σ 101 nx 0 (sp_performing_va ns h g (sp_performedBy np dd nx) σ) (sp_performing_pi_3 ns h g (sp_performedBy np dd nx) σ) (sp_performing_tu ns h ud (sp_performedBy np dd nx) σ)) (lp_behindDoing_pi_3 np gd (sp_performing_la ns h lo (sp_performedBy np dd nx) σ) (sp_performing_pe ns h pd (sp_performedBy np dd nx) nx σ) σ 101 nx 0 (sp_performing_va ns h g (sp_performedBy np dd nx) σ) (sp_performing_pi_3 ns h g (sp_performedBy np dd nx) σ) (sp_performing_tu ns h ud (sp_performedBy np dd nx) σ)) (sp_performing_pi_4 ns h hi g (sp_performedBy np dd nx) σ) (lp_behindDoing_co_5 (sp_performing_co_5 en ns h (sp_performedBy np dd nx) σ) np gd (sp_performing_la ns h lo (sp_performedBy np dd nx) σ) (sp_performing_pe ns h pd (sp_performedBy np dd nx) nx σ) σ 101 nx 0 (sp_performing_va ns h g (sp_performedBy np dd nx) σ) (sp_performing_pi_3 ns h g (sp_performedBy np dd nx) σ) (sp_performing_tu ns h ud (sp_performedBy np dd nx) σ)) (lp_behindDoing_tu np gd (sp_performing_la ns h lo (sp_performedBy np dd nx) σ) (sp_performing_pe ns h pd (sp_performedBy np dd nx) nx σ) σ 101 nx 0 (sp_performing_va ns h g (sp_performedBy np dd nx) σ) (sp_performing_pi_3 ns h g (sp_performedBy np dd nx) σ) (sp_performing_tu ns h ud (sp_performedBy np dd nx) σ)) (sp_performing_pe ns h pd (sp_performedBy np dd nx) nx σ) (sp_performing_la ns h lo (sp_performedBy np dd nx) σ) (sp_note0_ra rd k nx)) := by
  rw [lp_travel0_co_4, if_neg z0, if_neg cs, if_neg c1, if_pos c2]
theorem tb0_co_4_3 {ln : Int32} {steps : Int64} {n : Nat} {nx k : Int32} {g : Nat → Int64} {h hi en : Int32} {ud pd : Nat → Int32} {lo : Nat → Option Nat} {rd : Nat → Int32} (z0 : ¬ nx = 0) (cs : ¬ 0 ≤ lg_cmp k.toInt64 steps) (c1 : ¬ sp_performedBy np dd nx = -1) (c2 : ¬ sp_performing ns h g (sp_performedBy np dd nx) σ = -1) : (lp_travel0_co_4 ln np ns dd gd steps σ (n + 1) nx k g h hi en ud pd lo rd) = (lp_travel0_co_4 ln np ns dd gd steps σ n (sp_performing ns h g (sp_performedBy np dd nx) σ) (k + 1) (sp_performing_va ns h g (sp_performedBy np dd nx) σ) (sp_performing_pi_3 ns h g (sp_performedBy np dd nx) σ) (sp_performing_pi_4 ns h hi g (sp_performedBy np dd nx) σ) (sp_performing_co_5 en ns h (sp_performedBy np dd nx) σ) (sp_performing_tu ns h ud (sp_performedBy np dd nx) σ) (sp_performing_pe ns h pd (sp_performedBy np dd nx) nx σ) (sp_performing_la ns h lo (sp_performedBy np dd nx) σ) (sp_note0_ra rd k nx)) := by
  rw [lp_travel0_co_4, if_neg z0, if_neg cs, if_neg c1, if_neg c2]
theorem t00_co_5  {steps : Int64} {n : Nat} {k : Int32} {g : Nat → Int64} {h hi en : Int32} {ud pd : Nat → Int32} {lo : Nat → Option Nat} {rd : Nat → Int32} : (lp_travel0_co_5 np ns dd gd steps σ (n + 1) 0 k g h hi en ud pd lo rd) = en := by
  rw [lp_travel0_co_5, if_pos rfl]
theorem ts0_co_5  {steps : Int64} {n : Nat} {nx k : Int32} {g : Nat → Int64} {h hi en : Int32} {ud pd : Nat → Int32} {lo : Nat → Option Nat} {rd : Nat → Int32} (z0 : ¬ nx = 0) (cs : 0 ≤ lg_cmp k.toInt64 steps) : (lp_travel0_co_5 np ns dd gd steps σ (n + 1) nx k g h hi en ud pd lo rd) = 1 := by
  rw [lp_travel0_co_5, if_neg z0, if_pos cs]
theorem tb0_co_5_0  {steps : Int64} {n : Nat} {nx k : Int32} {g : Nat → Int64} {h hi en : Int32} {ud pd : Nat → Int32} {lo : Nat → Option Nat} {rd : Nat → Int32} (z0 : ¬ nx = 0) (cs : ¬ 0 ≤ lg_cmp k.toInt64 steps) (c1 : sp_performedBy np dd nx = -1) (c2 : sp_doing np dd g nx = -1) : (lp_travel0_co_5 np ns dd gd steps σ (n + 1) nx k g h hi en ud pd lo rd) = (lp_travel0_co_5 np ns dd gd steps σ n (lp_behindDoing np gd lo pd σ 101 nx 0 (sp_doing_va np dd g nx) h ud) (k + 1) (lp_behindDoing_va np gd lo pd σ 101 nx 0 (sp_doing_va np dd g nx) h ud) (lp_behindDoing_pi_3 np gd lo pd σ 101 nx 0 (sp_doing_va np dd g nx) h ud) hi (lp_behindDoing_co_5 (sp_doing_co_5 en np dd g nx) np gd lo pd σ 101 nx 0 (sp_doing_va np dd g nx) h ud) (lp_behindDoing_tu np gd lo pd σ 101 nx 0 (sp_doing_va np dd g nx) h ud) pd lo (sp_note0_ra rd k nx)) := by
  rw [lp_travel0_co_5, if_neg z0, if_neg cs, if_pos c1, if_pos c2]
theorem tb0_co_5_1  {steps : Int64} {n : Nat} {nx k : Int32} {g : Nat → Int64} {h hi en : Int32} {ud pd : Nat → Int32} {lo : Nat → Option Nat} {rd : Nat → Int32} (z0 : ¬ nx = 0) (cs : ¬ 0 ≤ lg_cmp k.toInt64 steps) (c1 : sp_performedBy np dd nx = -1) (c2 : ¬ sp_doing np dd g nx = -1) : (lp_travel0_co_5 np ns dd gd steps σ (n + 1) nx k g h hi en ud pd lo rd) = (lp_travel0_co_5 np ns dd gd steps σ n (sp_doing np dd g nx) (k + 1) (sp_doing_va np dd g nx) h hi (sp_doing_co_5 en np dd g nx) ud pd lo (sp_note0_ra rd k nx)) := by
  rw [lp_travel0_co_5, if_neg z0, if_neg cs, if_pos c1, if_neg c2]
theorem tb0_co_5_2  {steps : Int64} {n : Nat} {nx k : Int32} {g : Nat → Int64} {h hi en : Int32} {ud pd : Nat → Int32} {lo : Nat → Option Nat} {rd : Nat → Int32} (z0 : ¬ nx = 0) (cs : ¬ 0 ≤ lg_cmp k.toInt64 steps) (c1 : ¬ sp_performedBy np dd nx = -1) (c2 : sp_performing ns h g (sp_performedBy np dd nx) σ = -1) : (lp_travel0_co_5 np ns dd gd steps σ (n + 1) nx k g h hi en ud pd lo rd) = (lp_travel0_co_5 np ns dd gd steps σ n (lp_behindDoing np gd (sp_performing_la ns h lo (sp_performedBy np dd nx) σ) (sp_performing_pe ns h pd (sp_performedBy np dd nx) nx σ) σ 101 nx 0 (sp_performing_va ns h g (sp_performedBy np dd nx) σ) (sp_performing_pi_3 ns h g (sp_performedBy np dd nx) σ) (sp_performing_tu ns h ud (sp_performedBy np dd nx) σ)) (k + 1) (lp_behindDoing_va np gd (sp_performing_la ns h lo (sp_performedBy np dd nx) σ) (sp_performing_pe ns h pd (sp_performedBy np dd nx) nx σ) σ 101 nx 0 (sp_performing_va ns h g (sp_performedBy np dd nx) σ) (sp_performing_pi_3 ns h g (sp_performedBy np dd nx) σ) (sp_performing_tu ns h ud (sp_performedBy np dd nx) σ)) (lp_behindDoing_pi_3 np gd (sp_performing_la ns h lo (sp_performedBy np dd nx) σ) (sp_performing_pe ns h pd (sp_performedBy np dd nx) nx σ) σ 101 nx 0 (sp_performing_va ns h g (sp_performedBy np dd nx) σ) (sp_performing_pi_3 ns h g (sp_performedBy np dd nx) σ) (sp_performing_tu ns h ud (sp_performedBy np dd nx) σ)) (sp_performing_pi_4 ns h hi g (sp_performedBy np dd nx) σ) (lp_behindDoing_co_5 (sp_performing_co_5 en ns h (sp_performedBy np dd nx) σ) np gd (sp_performing_la ns h lo (sp_performedBy np dd nx) σ) (sp_performing_pe ns h pd (sp_performedBy np dd nx) nx σ) σ 101 nx 0 (sp_performing_va ns h g (sp_performedBy np dd nx) σ) (sp_performing_pi_3 ns h g (sp_performedBy np dd nx) σ) (sp_performing_tu ns h ud (sp_performedBy np dd nx) σ)) (lp_behindDoing_tu np gd (sp_performing_la ns h lo (sp_performedBy np dd nx) σ) (sp_performing_pe ns h pd (sp_performedBy np dd nx) nx σ) σ 101 nx 0 (sp_performing_va ns h g (sp_performedBy np dd nx) σ) (sp_performing_pi_3 ns h g (sp_performedBy np dd nx) σ) (sp_performing_tu ns h ud (sp_performedBy np dd nx) σ)) (sp_performing_pe ns h pd (sp_performedBy np dd nx) nx σ) (sp_performing_la ns h lo (sp_performedBy np dd nx) σ) (sp_note0_ra rd k nx)) := by
  rw [lp_travel0_co_5, if_neg z0, if_neg cs, if_neg c1, if_pos c2]
theorem tb0_co_5_3  {steps : Int64} {n : Nat} {nx k : Int32} {g : Nat → Int64} {h hi en : Int32} {ud pd : Nat → Int32} {lo : Nat → Option Nat} {rd : Nat → Int32} (z0 : ¬ nx = 0) (cs : ¬ 0 ≤ lg_cmp k.toInt64 steps) (c1 : ¬ sp_performedBy np dd nx = -1) (c2 : ¬ sp_performing ns h g (sp_performedBy np dd nx) σ = -1) : (lp_travel0_co_5 np ns dd gd steps σ (n + 1) nx k g h hi en ud pd lo rd) = (lp_travel0_co_5 np ns dd gd steps σ n (sp_performing ns h g (sp_performedBy np dd nx) σ) (k + 1) (sp_performing_va ns h g (sp_performedBy np dd nx) σ) (sp_performing_pi_3 ns h g (sp_performedBy np dd nx) σ) (sp_performing_pi_4 ns h hi g (sp_performedBy np dd nx) σ) (sp_performing_co_5 en ns h (sp_performedBy np dd nx) σ) (sp_performing_tu ns h ud (sp_performedBy np dd nx) σ) (sp_performing_pe ns h pd (sp_performedBy np dd nx) nx σ) (sp_performing_la ns h lo (sp_performedBy np dd nx) σ) (sp_note0_ra rd k nx)) := by
  rw [lp_travel0_co_5, if_neg z0, if_neg cs, if_neg c1, if_neg c2]
theorem t00_va  {steps : Int64} {n : Nat} {k : Int32} {g : Nat → Int64} {h hi en : Int32} {ud pd : Nat → Int32} {lo : Nat → Option Nat} {rd : Nat → Int32} : (lp_travel0_va np ns dd gd steps σ (n + 1) 0 k g h hi en ud pd lo rd) = g := by
  rw [lp_travel0_va, if_pos rfl]
theorem ts0_va  {steps : Int64} {n : Nat} {nx k : Int32} {g : Nat → Int64} {h hi en : Int32} {ud pd : Nat → Int32} {lo : Nat → Option Nat} {rd : Nat → Int32} (z0 : ¬ nx = 0) (cs : 0 ≤ lg_cmp k.toInt64 steps) : (lp_travel0_va np ns dd gd steps σ (n + 1) nx k g h hi en ud pd lo rd) = g := by
  rw [lp_travel0_va, if_neg z0, if_pos cs]
theorem tb0_va_0  {steps : Int64} {n : Nat} {nx k : Int32} {g : Nat → Int64} {h hi en : Int32} {ud pd : Nat → Int32} {lo : Nat → Option Nat} {rd : Nat → Int32} (z0 : ¬ nx = 0) (cs : ¬ 0 ≤ lg_cmp k.toInt64 steps) (c1 : sp_performedBy np dd nx = -1) (c2 : sp_doing np dd g nx = -1) : (lp_travel0_va np ns dd gd steps σ (n + 1) nx k g h hi en ud pd lo rd) = (lp_travel0_va np ns dd gd steps σ n (lp_behindDoing np gd lo pd σ 101 nx 0 (sp_doing_va np dd g nx) h ud) (k + 1) (lp_behindDoing_va np gd lo pd σ 101 nx 0 (sp_doing_va np dd g nx) h ud) (lp_behindDoing_pi_3 np gd lo pd σ 101 nx 0 (sp_doing_va np dd g nx) h ud) hi (lp_behindDoing_co_5 (sp_doing_co_5 en np dd g nx) np gd lo pd σ 101 nx 0 (sp_doing_va np dd g nx) h ud) (lp_behindDoing_tu np gd lo pd σ 101 nx 0 (sp_doing_va np dd g nx) h ud) pd lo (sp_note0_ra rd k nx)) := by
  rw [lp_travel0_va, if_neg z0, if_neg cs, if_pos c1, if_pos c2]
theorem tb0_va_1  {steps : Int64} {n : Nat} {nx k : Int32} {g : Nat → Int64} {h hi en : Int32} {ud pd : Nat → Int32} {lo : Nat → Option Nat} {rd : Nat → Int32} (z0 : ¬ nx = 0) (cs : ¬ 0 ≤ lg_cmp k.toInt64 steps) (c1 : sp_performedBy np dd nx = -1) (c2 : ¬ sp_doing np dd g nx = -1) : (lp_travel0_va np ns dd gd steps σ (n + 1) nx k g h hi en ud pd lo rd) = (lp_travel0_va np ns dd gd steps σ n (sp_doing np dd g nx) (k + 1) (sp_doing_va np dd g nx) h hi (sp_doing_co_5 en np dd g nx) ud pd lo (sp_note0_ra rd k nx)) := by
  rw [lp_travel0_va, if_neg z0, if_neg cs, if_pos c1, if_neg c2]
theorem tb0_va_2  {steps : Int64} {n : Nat} {nx k : Int32} {g : Nat → Int64} {h hi en : Int32} {ud pd : Nat → Int32} {lo : Nat → Option Nat} {rd : Nat → Int32} (z0 : ¬ nx = 0) (cs : ¬ 0 ≤ lg_cmp k.toInt64 steps) (c1 : ¬ sp_performedBy np dd nx = -1) (c2 : sp_performing ns h g (sp_performedBy np dd nx) σ = -1) : (lp_travel0_va np ns dd gd steps σ (n + 1) nx k g h hi en ud pd lo rd) = (lp_travel0_va np ns dd gd steps σ n (lp_behindDoing np gd (sp_performing_la ns h lo (sp_performedBy np dd nx) σ) (sp_performing_pe ns h pd (sp_performedBy np dd nx) nx σ) σ 101 nx 0 (sp_performing_va ns h g (sp_performedBy np dd nx) σ) (sp_performing_pi_3 ns h g (sp_performedBy np dd nx) σ) (sp_performing_tu ns h ud (sp_performedBy np dd nx) σ)) (k + 1) (lp_behindDoing_va np gd (sp_performing_la ns h lo (sp_performedBy np dd nx) σ) (sp_performing_pe ns h pd (sp_performedBy np dd nx) nx σ) σ 101 nx 0 (sp_performing_va ns h g (sp_performedBy np dd nx) σ) (sp_performing_pi_3 ns h g (sp_performedBy np dd nx) σ) (sp_performing_tu ns h ud (sp_performedBy np dd nx) σ)) (lp_behindDoing_pi_3 np gd (sp_performing_la ns h lo (sp_performedBy np dd nx) σ) (sp_performing_pe ns h pd (sp_performedBy np dd nx) nx σ) σ 101 nx 0 (sp_performing_va ns h g (sp_performedBy np dd nx) σ) (sp_performing_pi_3 ns h g (sp_performedBy np dd nx) σ) (sp_performing_tu ns h ud (sp_performedBy np dd nx) σ)) (sp_performing_pi_4 ns h hi g (sp_performedBy np dd nx) σ) (lp_behindDoing_co_5 (sp_performing_co_5 en ns h (sp_performedBy np dd nx) σ) np gd (sp_performing_la ns h lo (sp_performedBy np dd nx) σ) (sp_performing_pe ns h pd (sp_performedBy np dd nx) nx σ) σ 101 nx 0 (sp_performing_va ns h g (sp_performedBy np dd nx) σ) (sp_performing_pi_3 ns h g (sp_performedBy np dd nx) σ) (sp_performing_tu ns h ud (sp_performedBy np dd nx) σ)) (lp_behindDoing_tu np gd (sp_performing_la ns h lo (sp_performedBy np dd nx) σ) (sp_performing_pe ns h pd (sp_performedBy np dd nx) nx σ) σ 101 nx 0 (sp_performing_va ns h g (sp_performedBy np dd nx) σ) (sp_performing_pi_3 ns h g (sp_performedBy np dd nx) σ) (sp_performing_tu ns h ud (sp_performedBy np dd nx) σ)) (sp_performing_pe ns h pd (sp_performedBy np dd nx) nx σ) (sp_performing_la ns h lo (sp_performedBy np dd nx) σ) (sp_note0_ra rd k nx)) := by
  rw [lp_travel0_va, if_neg z0, if_neg cs, if_neg c1, if_pos c2]
theorem tb0_va_3  {steps : Int64} {n : Nat} {nx k : Int32} {g : Nat → Int64} {h hi en : Int32} {ud pd : Nat → Int32} {lo : Nat → Option Nat} {rd : Nat → Int32} (z0 : ¬ nx = 0) (cs : ¬ 0 ≤ lg_cmp k.toInt64 steps) (c1 : ¬ sp_performedBy np dd nx = -1) (c2 : ¬ sp_performing ns h g (sp_performedBy np dd nx) σ = -1) : (lp_travel0_va np ns dd gd steps σ (n + 1) nx k g h hi en ud pd lo rd) = (lp_travel0_va np ns dd gd steps σ n (sp_performing ns h g (sp_performedBy np dd nx) σ) (k + 1) (sp_performing_va ns h g (sp_performedBy np dd nx) σ) (sp_performing_pi_3 ns h g (sp_performedBy np dd nx) σ) (sp_performing_pi_4 ns h hi g (sp_performedBy np dd nx) σ) (sp_performing_co_5 en ns h (sp_performedBy np dd nx) σ) (sp_performing_tu ns h ud (sp_performedBy np dd nx) σ) (sp_performing_pe ns h pd (sp_performedBy np dd nx) nx σ) (sp_performing_la ns h lo (sp_performedBy np dd nx) σ) (sp_note0_ra rd k nx)) := by
  rw [lp_travel0_va, if_neg z0, if_neg cs, if_neg c1, if_neg c2]
theorem t00_pi_3  {steps : Int64} {n : Nat} {k : Int32} {g : Nat → Int64} {h hi en : Int32} {ud pd : Nat → Int32} {lo : Nat → Option Nat} {rd : Nat → Int32} : (lp_travel0_pi_3 np ns dd gd steps σ (n + 1) 0 k g h hi en ud pd lo rd) = h := by
  rw [lp_travel0_pi_3, if_pos rfl]
theorem ts0_pi_3  {steps : Int64} {n : Nat} {nx k : Int32} {g : Nat → Int64} {h hi en : Int32} {ud pd : Nat → Int32} {lo : Nat → Option Nat} {rd : Nat → Int32} (z0 : ¬ nx = 0) (cs : 0 ≤ lg_cmp k.toInt64 steps) : (lp_travel0_pi_3 np ns dd gd steps σ (n + 1) nx k g h hi en ud pd lo rd) = h := by
  rw [lp_travel0_pi_3, if_neg z0, if_pos cs]
theorem tb0_pi_3_0  {steps : Int64} {n : Nat} {nx k : Int32} {g : Nat → Int64} {h hi en : Int32} {ud pd : Nat → Int32} {lo : Nat → Option Nat} {rd : Nat → Int32} (z0 : ¬ nx = 0) (cs : ¬ 0 ≤ lg_cmp k.toInt64 steps) (c1 : sp_performedBy np dd nx = -1) (c2 : sp_doing np dd g nx = -1) : (lp_travel0_pi_3 np ns dd gd steps σ (n + 1) nx k g h hi en ud pd lo rd) = (lp_travel0_pi_3 np ns dd gd steps σ n (lp_behindDoing np gd lo pd σ 101 nx 0 (sp_doing_va np dd g nx) h ud) (k + 1) (lp_behindDoing_va np gd lo pd σ 101 nx 0 (sp_doing_va np dd g nx) h ud) (lp_behindDoing_pi_3 np gd lo pd σ 101 nx 0 (sp_doing_va np dd g nx) h ud) hi (lp_behindDoing_co_5 (sp_doing_co_5 en np dd g nx) np gd lo pd σ 101 nx 0 (sp_doing_va np dd g nx) h ud) (lp_behindDoing_tu np gd lo pd σ 101 nx 0 (sp_doing_va np dd g nx) h ud) pd lo (sp_note0_ra rd k nx)) := by
  rw [lp_travel0_pi_3, if_neg z0, if_neg cs, if_pos c1, if_pos c2]
theorem tb0_pi_3_1  {steps : Int64} {n : Nat} {nx k : Int32} {g : Nat → Int64} {h hi en : Int32} {ud pd : Nat → Int32} {lo : Nat → Option Nat} {rd : Nat → Int32} (z0 : ¬ nx = 0) (cs : ¬ 0 ≤ lg_cmp k.toInt64 steps) (c1 : sp_performedBy np dd nx = -1) (c2 : ¬ sp_doing np dd g nx = -1) : (lp_travel0_pi_3 np ns dd gd steps σ (n + 1) nx k g h hi en ud pd lo rd) = (lp_travel0_pi_3 np ns dd gd steps σ n (sp_doing np dd g nx) (k + 1) (sp_doing_va np dd g nx) h hi (sp_doing_co_5 en np dd g nx) ud pd lo (sp_note0_ra rd k nx)) := by
  rw [lp_travel0_pi_3, if_neg z0, if_neg cs, if_pos c1, if_neg c2]
theorem tb0_pi_3_2  {steps : Int64} {n : Nat} {nx k : Int32} {g : Nat → Int64} {h hi en : Int32} {ud pd : Nat → Int32} {lo : Nat → Option Nat} {rd : Nat → Int32} (z0 : ¬ nx = 0) (cs : ¬ 0 ≤ lg_cmp k.toInt64 steps) (c1 : ¬ sp_performedBy np dd nx = -1) (c2 : sp_performing ns h g (sp_performedBy np dd nx) σ = -1) : (lp_travel0_pi_3 np ns dd gd steps σ (n + 1) nx k g h hi en ud pd lo rd) = (lp_travel0_pi_3 np ns dd gd steps σ n (lp_behindDoing np gd (sp_performing_la ns h lo (sp_performedBy np dd nx) σ) (sp_performing_pe ns h pd (sp_performedBy np dd nx) nx σ) σ 101 nx 0 (sp_performing_va ns h g (sp_performedBy np dd nx) σ) (sp_performing_pi_3 ns h g (sp_performedBy np dd nx) σ) (sp_performing_tu ns h ud (sp_performedBy np dd nx) σ)) (k + 1) (lp_behindDoing_va np gd (sp_performing_la ns h lo (sp_performedBy np dd nx) σ) (sp_performing_pe ns h pd (sp_performedBy np dd nx) nx σ) σ 101 nx 0 (sp_performing_va ns h g (sp_performedBy np dd nx) σ) (sp_performing_pi_3 ns h g (sp_performedBy np dd nx) σ) (sp_performing_tu ns h ud (sp_performedBy np dd nx) σ)) (lp_behindDoing_pi_3 np gd (sp_performing_la ns h lo (sp_performedBy np dd nx) σ) (sp_performing_pe ns h pd (sp_performedBy np dd nx) nx σ) σ 101 nx 0 (sp_performing_va ns h g (sp_performedBy np dd nx) σ) (sp_performing_pi_3 ns h g (sp_performedBy np dd nx) σ) (sp_performing_tu ns h ud (sp_performedBy np dd nx) σ)) (sp_performing_pi_4 ns h hi g (sp_performedBy np dd nx) σ) (lp_behindDoing_co_5 (sp_performing_co_5 en ns h (sp_performedBy np dd nx) σ) np gd (sp_performing_la ns h lo (sp_performedBy np dd nx) σ) (sp_performing_pe ns h pd (sp_performedBy np dd nx) nx σ) σ 101 nx 0 (sp_performing_va ns h g (sp_performedBy np dd nx) σ) (sp_performing_pi_3 ns h g (sp_performedBy np dd nx) σ) (sp_performing_tu ns h ud (sp_performedBy np dd nx) σ)) (lp_behindDoing_tu np gd (sp_performing_la ns h lo (sp_performedBy np dd nx) σ) (sp_performing_pe ns h pd (sp_performedBy np dd nx) nx σ) σ 101 nx 0 (sp_performing_va ns h g (sp_performedBy np dd nx) σ) (sp_performing_pi_3 ns h g (sp_performedBy np dd nx) σ) (sp_performing_tu ns h ud (sp_performedBy np dd nx) σ)) (sp_performing_pe ns h pd (sp_performedBy np dd nx) nx σ) (sp_performing_la ns h lo (sp_performedBy np dd nx) σ) (sp_note0_ra rd k nx)) := by
  rw [lp_travel0_pi_3, if_neg z0, if_neg cs, if_neg c1, if_pos c2]
theorem tb0_pi_3_3  {steps : Int64} {n : Nat} {nx k : Int32} {g : Nat → Int64} {h hi en : Int32} {ud pd : Nat → Int32} {lo : Nat → Option Nat} {rd : Nat → Int32} (z0 : ¬ nx = 0) (cs : ¬ 0 ≤ lg_cmp k.toInt64 steps) (c1 : ¬ sp_performedBy np dd nx = -1) (c2 : ¬ sp_performing ns h g (sp_performedBy np dd nx) σ = -1) : (lp_travel0_pi_3 np ns dd gd steps σ (n + 1) nx k g h hi en ud pd lo rd) = (lp_travel0_pi_3 np ns dd gd steps σ n (sp_performing ns h g (sp_performedBy np dd nx) σ) (k + 1) (sp_performing_va ns h g (sp_performedBy np dd nx) σ) (sp_performing_pi_3 ns h g (sp_performedBy np dd nx) σ) (sp_performing_pi_4 ns h hi g (sp_performedBy np dd nx) σ) (sp_performing_co_5 en ns h (sp_performedBy np dd nx) σ) (sp_performing_tu ns h ud (sp_performedBy np dd nx) σ) (sp_performing_pe ns h pd (sp_performedBy np dd nx) nx σ) (sp_performing_la ns h lo (sp_performedBy np dd nx) σ) (sp_note0_ra rd k nx)) := by
  rw [lp_travel0_pi_3, if_neg z0, if_neg cs, if_neg c1, if_neg c2]
theorem t00_pi_4  {steps : Int64} {n : Nat} {k : Int32} {g : Nat → Int64} {h hi en : Int32} {ud pd : Nat → Int32} {lo : Nat → Option Nat} {rd : Nat → Int32} : (lp_travel0_pi_4 np ns dd gd steps σ (n + 1) 0 k g h hi en ud pd lo rd) = hi := by
  rw [lp_travel0_pi_4, if_pos rfl]
theorem ts0_pi_4  {steps : Int64} {n : Nat} {nx k : Int32} {g : Nat → Int64} {h hi en : Int32} {ud pd : Nat → Int32} {lo : Nat → Option Nat} {rd : Nat → Int32} (z0 : ¬ nx = 0) (cs : 0 ≤ lg_cmp k.toInt64 steps) : (lp_travel0_pi_4 np ns dd gd steps σ (n + 1) nx k g h hi en ud pd lo rd) = hi := by
  rw [lp_travel0_pi_4, if_neg z0, if_pos cs]
theorem tb0_pi_4_0  {steps : Int64} {n : Nat} {nx k : Int32} {g : Nat → Int64} {h hi en : Int32} {ud pd : Nat → Int32} {lo : Nat → Option Nat} {rd : Nat → Int32} (z0 : ¬ nx = 0) (cs : ¬ 0 ≤ lg_cmp k.toInt64 steps) (c1 : sp_performedBy np dd nx = -1) (c2 : sp_doing np dd g nx = -1) : (lp_travel0_pi_4 np ns dd gd steps σ (n + 1) nx k g h hi en ud pd lo rd) = (lp_travel0_pi_4 np ns dd gd steps σ n (lp_behindDoing np gd lo pd σ 101 nx 0 (sp_doing_va np dd g nx) h ud) (k + 1) (lp_behindDoing_va np gd lo pd σ 101 nx 0 (sp_doing_va np dd g nx) h ud) (lp_behindDoing_pi_3 np gd lo pd σ 101 nx 0 (sp_doing_va np dd g nx) h ud) hi (lp_behindDoing_co_5 (sp_doing_co_5 en np dd g nx) np gd lo pd σ 101 nx 0 (sp_doing_va np dd g nx) h ud) (lp_behindDoing_tu np gd lo pd σ 101 nx 0 (sp_doing_va np dd g nx) h ud) pd lo (sp_note0_ra rd k nx)) := by
  rw [lp_travel0_pi_4, if_neg z0, if_neg cs, if_pos c1, if_pos c2]
theorem tb0_pi_4_1  {steps : Int64} {n : Nat} {nx k : Int32} {g : Nat → Int64} {h hi en : Int32} {ud pd : Nat → Int32} {lo : Nat → Option Nat} {rd : Nat → Int32} (z0 : ¬ nx = 0) (cs : ¬ 0 ≤ lg_cmp k.toInt64 steps) (c1 : sp_performedBy np dd nx = -1) (c2 : ¬ sp_doing np dd g nx = -1) : (lp_travel0_pi_4 np ns dd gd steps σ (n + 1) nx k g h hi en ud pd lo rd) = (lp_travel0_pi_4 np ns dd gd steps σ n (sp_doing np dd g nx) (k + 1) (sp_doing_va np dd g nx) h hi (sp_doing_co_5 en np dd g nx) ud pd lo (sp_note0_ra rd k nx)) := by
  rw [lp_travel0_pi_4, if_neg z0, if_neg cs, if_pos c1, if_neg c2]
theorem tb0_pi_4_2  {steps : Int64} {n : Nat} {nx k : Int32} {g : Nat → Int64} {h hi en : Int32} {ud pd : Nat → Int32} {lo : Nat → Option Nat} {rd : Nat → Int32} (z0 : ¬ nx = 0) (cs : ¬ 0 ≤ lg_cmp k.toInt64 steps) (c1 : ¬ sp_performedBy np dd nx = -1) (c2 : sp_performing ns h g (sp_performedBy np dd nx) σ = -1) : (lp_travel0_pi_4 np ns dd gd steps σ (n + 1) nx k g h hi en ud pd lo rd) = (lp_travel0_pi_4 np ns dd gd steps σ n (lp_behindDoing np gd (sp_performing_la ns h lo (sp_performedBy np dd nx) σ) (sp_performing_pe ns h pd (sp_performedBy np dd nx) nx σ) σ 101 nx 0 (sp_performing_va ns h g (sp_performedBy np dd nx) σ) (sp_performing_pi_3 ns h g (sp_performedBy np dd nx) σ) (sp_performing_tu ns h ud (sp_performedBy np dd nx) σ)) (k + 1) (lp_behindDoing_va np gd (sp_performing_la ns h lo (sp_performedBy np dd nx) σ) (sp_performing_pe ns h pd (sp_performedBy np dd nx) nx σ) σ 101 nx 0 (sp_performing_va ns h g (sp_performedBy np dd nx) σ) (sp_performing_pi_3 ns h g (sp_performedBy np dd nx) σ) (sp_performing_tu ns h ud (sp_performedBy np dd nx) σ)) (lp_behindDoing_pi_3 np gd (sp_performing_la ns h lo (sp_performedBy np dd nx) σ) (sp_performing_pe ns h pd (sp_performedBy np dd nx) nx σ) σ 101 nx 0 (sp_performing_va ns h g (sp_performedBy np dd nx) σ) (sp_performing_pi_3 ns h g (sp_performedBy np dd nx) σ) (sp_performing_tu ns h ud (sp_performedBy np dd nx) σ)) (sp_performing_pi_4 ns h hi g (sp_performedBy np dd nx) σ) (lp_behindDoing_co_5 (sp_performing_co_5 en ns h (sp_performedBy np dd nx) σ) np gd (sp_performing_la ns h lo (sp_performedBy np dd nx) σ) (sp_performing_pe ns h pd (sp_performedBy np dd nx) nx σ) σ 101 nx 0 (sp_performing_va ns h g (sp_performedBy np dd nx) σ) (sp_performing_pi_3 ns h g (sp_performedBy np dd nx) σ) (sp_performing_tu ns h ud (sp_performedBy np dd nx) σ)) (lp_behindDoing_tu np gd (sp_performing_la ns h lo (sp_performedBy np dd nx) σ) (sp_performing_pe ns h pd (sp_performedBy np dd nx) nx σ) σ 101 nx 0 (sp_performing_va ns h g (sp_performedBy np dd nx) σ) (sp_performing_pi_3 ns h g (sp_performedBy np dd nx) σ) (sp_performing_tu ns h ud (sp_performedBy np dd nx) σ)) (sp_performing_pe ns h pd (sp_performedBy np dd nx) nx σ) (sp_performing_la ns h lo (sp_performedBy np dd nx) σ) (sp_note0_ra rd k nx)) := by
  rw [lp_travel0_pi_4, if_neg z0, if_neg cs, if_neg c1, if_pos c2]
theorem tb0_pi_4_3  {steps : Int64} {n : Nat} {nx k : Int32} {g : Nat → Int64} {h hi en : Int32} {ud pd : Nat → Int32} {lo : Nat → Option Nat} {rd : Nat → Int32} (z0 : ¬ nx = 0) (cs : ¬ 0 ≤ lg_cmp k.toInt64 steps) (c1 : ¬ sp_performedBy np dd nx = -1) (c2 : ¬ sp_performing ns h g (sp_performedBy np dd nx) σ = -1) : (lp_travel0_pi_4 np ns dd gd steps σ (n + 1) nx k g h hi en ud pd lo rd) = (lp_travel0_pi_4 np ns dd gd steps σ n (sp_performing ns h g (sp_performedBy np dd nx) σ) (k + 1) (sp_performing_va ns h g (sp_performedBy np dd nx) σ) (sp_performing_pi_3 ns h g (sp_performedBy np dd nx) σ) (sp_performing_pi_4 ns h hi g (sp_performedBy np dd nx) σ) (sp_performing_co_5 en ns h (sp_performedBy np dd nx) σ) (sp_performing_tu ns h ud (sp_performedBy np dd nx) σ) (sp_performing_pe ns h pd (sp_performedBy np dd nx) nx σ) (sp_performing_la ns h lo (sp_performedBy np dd nx) σ) (sp_note0_ra rd k nx)) := by
  rw [lp_travel0_pi_4, if_neg z0, if_neg cs, if_neg c1, if_neg c2]
theorem t00_la  {steps : Int64} {n : Nat} {k : Int32} {g : Nat → Int64} {h hi en : Int32} {ud pd : Nat → Int32} {lo : Nat → Option Nat} {rd : Nat → Int32} : (lp_travel0_la np ns dd gd steps σ (n + 1) 0 k g h hi en ud pd lo rd) = lo := by
  rw [lp_travel0_la, if_pos rfl]
theorem ts0_la  {steps : Int64} {n : Nat} {nx k : Int32} {g : Nat → Int64} {h hi en : Int32} {ud pd : Nat → Int32} {lo : Nat → Option Nat} {rd : Nat → Int32} (z0 : ¬ nx = 0) (cs : 0 ≤ lg_cmp k.toInt64 steps) : (lp_travel0_la np ns dd gd steps σ (n + 1) nx k g h hi en ud pd lo rd) = lo := by
  rw [lp_travel0_la, if_neg z0, if_pos cs]
theorem tb0_la_0  {steps : Int64} {n : Nat} {nx k : Int32} {g : Nat → Int64} {h hi en : Int32} {ud pd : Nat → Int32} {lo : Nat → Option Nat} {rd : Nat → Int32} (z0 : ¬ nx = 0) (cs : ¬ 0 ≤ lg_cmp k.toInt64 steps) (c1 : sp_performedBy np dd nx = -1) (c2 : sp_doing np dd g nx = -1) : (lp_travel0_la np ns dd gd steps σ (n + 1) nx k g h hi en ud pd lo rd) = (lp_travel0_la np ns dd gd steps σ n (lp_behindDoing np gd lo pd σ 101 nx 0 (sp_doing_va np dd g nx) h ud) (k + 1) (lp_behindDoing_va np gd lo pd σ 101 nx 0 (sp_doing_va np dd g nx) h ud) (lp_behindDoing_pi_3 np gd lo pd σ 101 nx 0 (sp_doing_va np dd g nx) h ud) hi (lp_behindDoing_co_5 (sp_doing_co_5 en np dd g nx) np gd lo pd σ 101 nx 0 (sp_doing_va np dd g nx) h ud) (lp_behindDoing_tu np gd lo pd σ 101 nx 0 (sp_doing_va np dd g nx) h ud) pd lo (sp_note0_ra rd k nx)) := by
  rw [lp_travel0_la, if_neg z0, if_neg cs, if_pos c1, if_pos c2]
theorem tb0_la_1  {steps : Int64} {n : Nat} {nx k : Int32} {g : Nat → Int64} {h hi en : Int32} {ud pd : Nat → Int32} {lo : Nat → Option Nat} {rd : Nat → Int32} (z0 : ¬ nx = 0) (cs : ¬ 0 ≤ lg_cmp k.toInt64 steps) (c1 : sp_performedBy np dd nx = -1) (c2 : ¬ sp_doing np dd g nx = -1) : (lp_travel0_la np ns dd gd steps σ (n + 1) nx k g h hi en ud pd lo rd) = (lp_travel0_la np ns dd gd steps σ n (sp_doing np dd g nx) (k + 1) (sp_doing_va np dd g nx) h hi (sp_doing_co_5 en np dd g nx) ud pd lo (sp_note0_ra rd k nx)) := by
  rw [lp_travel0_la, if_neg z0, if_neg cs, if_pos c1, if_neg c2]
theorem tb0_la_2  {steps : Int64} {n : Nat} {nx k : Int32} {g : Nat → Int64} {h hi en : Int32} {ud pd : Nat → Int32} {lo : Nat → Option Nat} {rd : Nat → Int32} (z0 : ¬ nx = 0) (cs : ¬ 0 ≤ lg_cmp k.toInt64 steps) (c1 : ¬ sp_performedBy np dd nx = -1) (c2 : sp_performing ns h g (sp_performedBy np dd nx) σ = -1) : (lp_travel0_la np ns dd gd steps σ (n + 1) nx k g h hi en ud pd lo rd) = (lp_travel0_la np ns dd gd steps σ n (lp_behindDoing np gd (sp_performing_la ns h lo (sp_performedBy np dd nx) σ) (sp_performing_pe ns h pd (sp_performedBy np dd nx) nx σ) σ 101 nx 0 (sp_performing_va ns h g (sp_performedBy np dd nx) σ) (sp_performing_pi_3 ns h g (sp_performedBy np dd nx) σ) (sp_performing_tu ns h ud (sp_performedBy np dd nx) σ)) (k + 1) (lp_behindDoing_va np gd (sp_performing_la ns h lo (sp_performedBy np dd nx) σ) (sp_performing_pe ns h pd (sp_performedBy np dd nx) nx σ) σ 101 nx 0 (sp_performing_va ns h g (sp_performedBy np dd nx) σ) (sp_performing_pi_3 ns h g (sp_performedBy np dd nx) σ) (sp_performing_tu ns h ud (sp_performedBy np dd nx) σ)) (lp_behindDoing_pi_3 np gd (sp_performing_la ns h lo (sp_performedBy np dd nx) σ) (sp_performing_pe ns h pd (sp_performedBy np dd nx) nx σ) σ 101 nx 0 (sp_performing_va ns h g (sp_performedBy np dd nx) σ) (sp_performing_pi_3 ns h g (sp_performedBy np dd nx) σ) (sp_performing_tu ns h ud (sp_performedBy np dd nx) σ)) (sp_performing_pi_4 ns h hi g (sp_performedBy np dd nx) σ) (lp_behindDoing_co_5 (sp_performing_co_5 en ns h (sp_performedBy np dd nx) σ) np gd (sp_performing_la ns h lo (sp_performedBy np dd nx) σ) (sp_performing_pe ns h pd (sp_performedBy np dd nx) nx σ) σ 101 nx 0 (sp_performing_va ns h g (sp_performedBy np dd nx) σ) (sp_performing_pi_3 ns h g (sp_performedBy np dd nx) σ) (sp_performing_tu ns h ud (sp_performedBy np dd nx) σ)) (lp_behindDoing_tu np gd (sp_performing_la ns h lo (sp_performedBy np dd nx) σ) (sp_performing_pe ns h pd (sp_performedBy np dd nx) nx σ) σ 101 nx 0 (sp_performing_va ns h g (sp_performedBy np dd nx) σ) (sp_performing_pi_3 ns h g (sp_performedBy np dd nx) σ) (sp_performing_tu ns h ud (sp_performedBy np dd nx) σ)) (sp_performing_pe ns h pd (sp_performedBy np dd nx) nx σ) (sp_performing_la ns h lo (sp_performedBy np dd nx) σ) (sp_note0_ra rd k nx)) := by
  rw [lp_travel0_la, if_neg z0, if_neg cs, if_neg c1, if_pos c2]
theorem tb0_la_3  {steps : Int64} {n : Nat} {nx k : Int32} {g : Nat → Int64} {h hi en : Int32} {ud pd : Nat → Int32} {lo : Nat → Option Nat} {rd : Nat → Int32} (z0 : ¬ nx = 0) (cs : ¬ 0 ≤ lg_cmp k.toInt64 steps) (c1 : ¬ sp_performedBy np dd nx = -1) (c2 : ¬ sp_performing ns h g (sp_performedBy np dd nx) σ = -1) : (lp_travel0_la np ns dd gd steps σ (n + 1) nx k g h hi en ud pd lo rd) = (lp_travel0_la np ns dd gd steps σ n (sp_performing ns h g (sp_performedBy np dd nx) σ) (k + 1) (sp_performing_va ns h g (sp_performedBy np dd nx) σ) (sp_performing_pi_3 ns h g (sp_performedBy np dd nx) σ) (sp_performing_pi_4 ns h hi g (sp_performedBy np dd nx) σ) (sp_performing_co_5 en ns h (sp_performedBy np dd nx) σ) (sp_performing_tu ns h ud (sp_performedBy np dd nx) σ) (sp_performing_pe ns h pd (sp_performedBy np dd nx) nx σ) (sp_performing_la ns h lo (sp_performedBy np dd nx) σ) (sp_note0_ra rd k nx)) := by
  rw [lp_travel0_la, if_neg z0, if_neg cs, if_neg c1, if_neg c2]
theorem t00_pe  {steps : Int64} {n : Nat} {k : Int32} {g : Nat → Int64} {h hi en : Int32} {ud pd : Nat → Int32} {lo : Nat → Option Nat} {rd : Nat → Int32} : (lp_travel0_pe np ns dd gd steps σ (n + 1) 0 k g h hi en ud pd lo rd) = pd := by
  rw [lp_travel0_pe, if_pos rfl]
theorem ts0_pe  {steps : Int64} {n : Nat} {nx k : Int32} {g : Nat → Int64} {h hi en : Int32} {ud pd : Nat → Int32} {lo : Nat → Option Nat} {rd : Nat → Int32} (z0 : ¬ nx = 0) (cs : 0 ≤ lg_cmp k.toInt64 steps) : (lp_travel0_pe np ns dd gd steps σ (n + 1) nx k g h hi en ud pd lo rd) = pd := by
  rw [lp_travel0_pe, if_neg z0, if_pos cs]
theorem tb0_pe_0  {steps : Int64} {n : Nat} {nx k : Int32} {g : Nat → Int64} {h hi en : Int32} {ud pd : Nat → Int32} {lo : Nat → Option Nat} {rd : Nat → Int32} (z0 : ¬ nx = 0) (cs : ¬ 0 ≤ lg_cmp k.toInt64 steps) (c1 : sp_performedBy np dd nx = -1) (c2 : sp_doing np dd g nx = -1) : (lp_travel0_pe np ns dd gd steps σ (n + 1) nx k g h hi en ud pd lo rd) = (lp_travel0_pe np ns dd gd steps σ n (lp_behindDoing np gd lo pd σ 101 nx 0 (sp_doing_va np dd g nx) h ud) (k + 1) (lp_behindDoing_va np gd lo pd σ 101 nx 0 (sp_doing_va np dd g nx) h ud) (lp_behindDoing_pi_3 np gd lo pd σ 101 nx 0 (sp_doing_va np dd g nx) h ud) hi (lp_behindDoing_co_5 (sp_doing_co_5 en np dd g nx) np gd lo pd σ 101 nx 0 (sp_doing_va np dd g nx) h ud) (lp_behindDoing_tu np gd lo pd σ 101 nx 0 (sp_doing_va np dd g nx) h ud) pd lo (sp_note0_ra rd k nx)) := by
  rw [lp_travel0_pe, if_neg z0, if_neg cs, if_pos c1, if_pos c2]
theorem tb0_pe_1  {steps : Int64} {n : Nat} {nx k : Int32} {g : Nat → Int64} {h hi en : Int32} {ud pd : Nat → Int32} {lo : Nat → Option Nat} {rd : Nat → Int32} (z0 : ¬ nx = 0) (cs : ¬ 0 ≤ lg_cmp k.toInt64 steps) (c1 : sp_performedBy np dd nx = -1) (c2 : ¬ sp_doing np dd g nx = -1) : (lp_travel0_pe np ns dd gd steps σ (n + 1) nx k g h hi en ud pd lo rd) = (lp_travel0_pe np ns dd gd steps σ n (sp_doing np dd g nx) (k + 1) (sp_doing_va np dd g nx) h hi (sp_doing_co_5 en np dd g nx) ud pd lo (sp_note0_ra rd k nx)) := by
  rw [lp_travel0_pe, if_neg z0, if_neg cs, if_pos c1, if_neg c2]
theorem tb0_pe_2  {steps : Int64} {n : Nat} {nx k : Int32} {g : Nat → Int64} {h hi en : Int32} {ud pd : Nat → Int32} {lo : Nat → Option Nat} {rd : Nat → Int32} (z0 : ¬ nx = 0) (cs : ¬ 0 ≤ lg_cmp k.toInt64 steps) (c1 : ¬ sp_performedBy np dd nx = -1) (c2 : sp_performing ns h g (sp_performedBy np dd nx) σ = -1) : (lp_travel0_pe np ns dd gd steps σ (n + 1) nx k g h hi en ud pd lo rd) = (lp_travel0_pe np ns dd gd steps σ n (lp_behindDoing np gd (sp_performing_la ns h lo (sp_performedBy np dd nx) σ) (sp_performing_pe ns h pd (sp_performedBy np dd nx) nx σ) σ 101 nx 0 (sp_performing_va ns h g (sp_performedBy np dd nx) σ) (sp_performing_pi_3 ns h g (sp_performedBy np dd nx) σ) (sp_performing_tu ns h ud (sp_performedBy np dd nx) σ)) (k + 1) (lp_behindDoing_va np gd (sp_performing_la ns h lo (sp_performedBy np dd nx) σ) (sp_performing_pe ns h pd (sp_performedBy np dd nx) nx σ) σ 101 nx 0 (sp_performing_va ns h g (sp_performedBy np dd nx) σ) (sp_performing_pi_3 ns h g (sp_performedBy np dd nx) σ) (sp_performing_tu ns h ud (sp_performedBy np dd nx) σ)) (lp_behindDoing_pi_3 np gd (sp_performing_la ns h lo (sp_performedBy np dd nx) σ) (sp_performing_pe ns h pd (sp_performedBy np dd nx) nx σ) σ 101 nx 0 (sp_performing_va ns h g (sp_performedBy np dd nx) σ) (sp_performing_pi_3 ns h g (sp_performedBy np dd nx) σ) (sp_performing_tu ns h ud (sp_performedBy np dd nx) σ)) (sp_performing_pi_4 ns h hi g (sp_performedBy np dd nx) σ) (lp_behindDoing_co_5 (sp_performing_co_5 en ns h (sp_performedBy np dd nx) σ) np gd (sp_performing_la ns h lo (sp_performedBy np dd nx) σ) (sp_performing_pe ns h pd (sp_performedBy np dd nx) nx σ) σ 101 nx 0 (sp_performing_va ns h g (sp_performedBy np dd nx) σ) (sp_performing_pi_3 ns h g (sp_performedBy np dd nx) σ) (sp_performing_tu ns h ud (sp_performedBy np dd nx) σ)) (lp_behindDoing_tu np gd (sp_performing_la ns h lo (sp_performedBy np dd nx) σ) (sp_performing_pe ns h pd (sp_performedBy np dd nx) nx σ) σ 101 nx 0 (sp_performing_va ns h g (sp_performedBy np dd nx) σ) (sp_performing_pi_3 ns h g (sp_performedBy np dd nx) σ) (sp_performing_tu ns h ud (sp_performedBy np dd nx) σ)) (sp_performing_pe ns h pd (sp_performedBy np dd nx) nx σ) (sp_performing_la ns h lo (sp_performedBy np dd nx) σ) (sp_note0_ra rd k nx)) := by
  rw [lp_travel0_pe, if_neg z0, if_neg cs, if_neg c1, if_pos c2]
theorem tb0_pe_3  {steps : Int64} {n : Nat} {nx k : Int32} {g : Nat → Int64} {h hi en : Int32} {ud pd : Nat → Int32} {lo : Nat → Option Nat} {rd : Nat → Int32} (z0 : ¬ nx = 0) (cs : ¬ 0 ≤ lg_cmp k.toInt64 steps) (c1 : ¬ sp_performedBy np dd nx = -1) (c2 : ¬ sp_performing ns h g (sp_performedBy np dd nx) σ = -1) : (lp_travel0_pe np ns dd gd steps σ (n + 1) nx k g h hi en ud pd lo rd) = (lp_travel0_pe np ns dd gd steps σ n (sp_performing ns h g (sp_performedBy np dd nx) σ) (k + 1) (sp_performing_va ns h g (sp_performedBy np dd nx) σ) (sp_performing_pi_3 ns h g (sp_performedBy np dd nx) σ) (sp_performing_pi_4 ns h hi g (sp_performedBy np dd nx) σ) (sp_performing_co_5 en ns h (sp_performedBy np dd nx) σ) (sp_performing_tu ns h ud (sp_performedBy np dd nx) σ) (sp_performing_pe ns h pd (sp_performedBy np dd nx) nx σ) (sp_performing_la ns h lo (sp_performedBy np dd nx) σ) (sp_note0_ra rd k nx)) := by
  rw [lp_travel0_pe, if_neg z0, if_neg cs, if_neg c1, if_neg c2]
theorem t00_tu  {steps : Int64} {n : Nat} {k : Int32} {g : Nat → Int64} {h hi en : Int32} {ud pd : Nat → Int32} {lo : Nat → Option Nat} {rd : Nat → Int32} : (lp_travel0_tu np ns dd gd steps σ (n + 1) 0 k g h hi en ud pd lo rd) = ud := by
  rw [lp_travel0_tu, if_pos rfl]
theorem ts0_tu  {steps : Int64} {n : Nat} {nx k : Int32} {g : Nat → Int64} {h hi en : Int32} {ud pd : Nat → Int32} {lo : Nat → Option Nat} {rd : Nat → Int32} (z0 : ¬ nx = 0) (cs : 0 ≤ lg_cmp k.toInt64 steps) : (lp_travel0_tu np ns dd gd steps σ (n + 1) nx k g h hi en ud pd lo rd) = ud := by
  rw [lp_travel0_tu, if_neg z0, if_pos cs]
theorem tb0_tu_0  {steps : Int64} {n : Nat} {nx k : Int32} {g : Nat → Int64} {h hi en : Int32} {ud pd : Nat → Int32} {lo : Nat → Option Nat} {rd : Nat → Int32} (z0 : ¬ nx = 0) (cs : ¬ 0 ≤ lg_cmp k.toInt64 steps) (c1 : sp_performedBy np dd nx = -1) (c2 : sp_doing np dd g nx = -1) : (lp_travel0_tu np ns dd gd steps σ (n + 1) nx k g h hi en ud pd lo rd) = (lp_travel0_tu np ns dd gd steps σ n (lp_behindDoing np gd lo pd σ 101 nx 0 (sp_doing_va np dd g nx) h ud) (k + 1) (lp_behindDoing_va np gd lo pd σ 101 nx 0 (sp_doing_va np dd g nx) h ud) (lp_behindDoing_pi_3 np gd lo pd σ 101 nx 0 (sp_doing_va np dd g nx) h ud) hi (lp_behindDoing_co_5 (sp_doing_co_5 en np dd g nx) np gd lo pd σ 101 nx 0 (sp_doing_va np dd g nx) h ud) (lp_behindDoing_tu np gd lo pd σ 101 nx 0 (sp_doing_va np dd g nx) h ud) pd lo (sp_note0_ra rd k nx)) := by
  rw [lp_travel0_tu, if_neg z0, if_neg cs, if_pos c1, if_pos c2]
theorem tb0_tu_1  {steps : Int64} {n : Nat} {nx k : Int32} {g : Nat → Int64} {h hi en : Int32} {ud pd : Nat → Int32} {lo : Nat → Option Nat} {rd : Nat → Int32} (z0 : ¬ nx = 0) (cs : ¬ 0 ≤ lg_cmp k.toInt64 steps) (c1 : sp_performedBy np dd nx = -1) (c2 : ¬ sp_doing np dd g nx = -1) : (lp_travel0_tu np ns dd gd steps σ (n + 1) nx k g h hi en ud pd lo rd) = (lp_travel0_tu np ns dd gd steps σ n (sp_doing np dd g nx) (k + 1) (sp_doing_va np dd g nx) h hi (sp_doing_co_5 en np dd g nx) ud pd lo (sp_note0_ra rd k nx)) := by
  rw [lp_travel0_tu, if_neg z0, if_neg cs, if_pos c1, if_neg c2]
theorem tb0_tu_2  {steps : Int64} {n : Nat} {nx k : Int32} {g : Nat → Int64} {h hi en : Int32} {ud pd : Nat → Int32} {lo : Nat → Option Nat} {rd : Nat → Int32} (z0 : ¬ nx = 0) (cs : ¬ 0 ≤ lg_cmp k.toInt64 steps) (c1 : ¬ sp_performedBy np dd nx = -1) (c2 : sp_performing ns h g (sp_performedBy np dd nx) σ = -1) : (lp_travel0_tu np ns dd gd steps σ (n + 1) nx k g h hi en ud pd lo rd) = (lp_travel0_tu np ns dd gd steps σ n (lp_behindDoing np gd (sp_performing_la ns h lo (sp_performedBy np dd nx) σ) (sp_performing_pe ns h pd (sp_performedBy np dd nx) nx σ) σ 101 nx 0 (sp_performing_va ns h g (sp_performedBy np dd nx) σ) (sp_performing_pi_3 ns h g (sp_performedBy np dd nx) σ) (sp_performing_tu ns h ud (sp_performedBy np dd nx) σ)) (k + 1) (lp_behindDoing_va np gd (sp_performing_la ns h lo (sp_performedBy np dd nx) σ) (sp_performing_pe ns h pd (sp_performedBy np dd nx) nx σ) σ 101 nx 0 (sp_performing_va ns h g (sp_performedBy np dd nx) σ) (sp_performing_pi_3 ns h g (sp_performedBy np dd nx) σ) (sp_performing_tu ns h ud (sp_performedBy np dd nx) σ)) (lp_behindDoing_pi_3 np gd (sp_performing_la ns h lo (sp_performedBy np dd nx) σ) (sp_performing_pe ns h pd (sp_performedBy np dd nx) nx σ) σ 101 nx 0 (sp_performing_va ns h g (sp_performedBy np dd nx) σ) (sp_performing_pi_3 ns h g (sp_performedBy np dd nx) σ) (sp_performing_tu ns h ud (sp_performedBy np dd nx) σ)) (sp_performing_pi_4 ns h hi g (sp_performedBy np dd nx) σ) (lp_behindDoing_co_5 (sp_performing_co_5 en ns h (sp_performedBy np dd nx) σ) np gd (sp_performing_la ns h lo (sp_performedBy np dd nx) σ) (sp_performing_pe ns h pd (sp_performedBy np dd nx) nx σ) σ 101 nx 0 (sp_performing_va ns h g (sp_performedBy np dd nx) σ) (sp_performing_pi_3 ns h g (sp_performedBy np dd nx) σ) (sp_performing_tu ns h ud (sp_performedBy np dd nx) σ)) (lp_behindDoing_tu np gd (sp_performing_la ns h lo (sp_performedBy np dd nx) σ) (sp_performing_pe ns h pd (sp_performedBy np dd nx) nx σ) σ 101 nx 0 (sp_performing_va ns h g (sp_performedBy np dd nx) σ) (sp_performing_pi_3 ns h g (sp_performedBy np dd nx) σ) (sp_performing_tu ns h ud (sp_performedBy np dd nx) σ)) (sp_performing_pe ns h pd (sp_performedBy np dd nx) nx σ) (sp_performing_la ns h lo (sp_performedBy np dd nx) σ) (sp_note0_ra rd k nx)) := by
  rw [lp_travel0_tu, if_neg z0, if_neg cs, if_neg c1, if_pos c2]
theorem tb0_tu_3  {steps : Int64} {n : Nat} {nx k : Int32} {g : Nat → Int64} {h hi en : Int32} {ud pd : Nat → Int32} {lo : Nat → Option Nat} {rd : Nat → Int32} (z0 : ¬ nx = 0) (cs : ¬ 0 ≤ lg_cmp k.toInt64 steps) (c1 : ¬ sp_performedBy np dd nx = -1) (c2 : ¬ sp_performing ns h g (sp_performedBy np dd nx) σ = -1) : (lp_travel0_tu np ns dd gd steps σ (n + 1) nx k g h hi en ud pd lo rd) = (lp_travel0_tu np ns dd gd steps σ n (sp_performing ns h g (sp_performedBy np dd nx) σ) (k + 1) (sp_performing_va ns h g (sp_performedBy np dd nx) σ) (sp_performing_pi_3 ns h g (sp_performedBy np dd nx) σ) (sp_performing_pi_4 ns h hi g (sp_performedBy np dd nx) σ) (sp_performing_co_5 en ns h (sp_performedBy np dd nx) σ) (sp_performing_tu ns h ud (sp_performedBy np dd nx) σ) (sp_performing_pe ns h pd (sp_performedBy np dd nx) nx σ) (sp_performing_la ns h lo (sp_performedBy np dd nx) σ) (sp_note0_ra rd k nx)) := by
  rw [lp_travel0_tu, if_neg z0, if_neg cs, if_neg c1, if_neg c2]
theorem me_mo_22 {steps : Int64} {n : Nat} {pp : Int32} {g2 : Nat → Int64} {lf pl cl : Nat → Int32} {sz mo e2 rn : Int32} {od : Nat → Int32} (e : ¬ e2 = -2) : (lp_M_machine_mo_22 np ns vdoes vgos vfrom vto vkind vtimes vcond vlev vask vcc vvar vleast vfirst vstep steps (n + 1) pp g2 lf pl cl sz mo e2 rn od) = sz := by
  rw [lp_M_machine_mo_22, if_neg e]
theorem mz_mo_22 {steps : Int64} {n : Nat}  {g2 : Nat → Int64} {lf pl cl : Nat → Int32} {sz mo rn : Int32} {od : Nat → Int32} : (lp_M_machine_mo_22 np ns vdoes vgos vfrom vto vkind vtimes vcond vlev vask vcc vvar vleast vfirst vstep steps (n + 1) 0 g2 lf pl cl sz mo (-2) rn od) = (lp_M_machine_mo_22 np ns vdoes vgos vfrom vto vkind vtimes vcond vlev vask vcc vvar vleast vfirst vstep steps n 0 g2 lf pl cl sz mo 0 rn od) := by
  rw [lp_M_machine_mo_22, if_pos rfl, if_neg (show ¬ (0 : Int32) < 0 by decide), if_pos rfl]
theorem mn_mo_22 {steps : Int64} {n : Nat} {pp : Int32} {g2 : Nat → Int64} {lf pl cl : Nat → Int32} {sz mo rn : Int32} {od : Nat → Int32} (z1 : ¬ 0 < pp) (z2 : ¬ pp = 0) : (lp_M_machine_mo_22 np ns vdoes vgos vfrom vto vkind vtimes vcond vlev vask vcc vvar vleast vfirst vstep steps (n + 1) pp g2 lf pl cl sz mo (-2) rn od) = (lp_M_machine_mo_22 np ns vdoes vgos vfrom vto vkind vtimes vcond vlev vask vcc vvar vleast vfirst vstep steps n pp g2 lf pl cl sz mo ((-10) - pp) rn od) := by
  rw [lp_M_machine_mo_22, if_pos rfl, if_neg z1, if_neg z2]
theorem ml_mo_22 {steps : Int64} {n : Nat} {pp : Int32} {g2 : Nat → Int64} {lf pl cl : Nat → Int32} {sz mo rn : Int32} {od : Nat → Int32} (z1 : 0 < pp) (z2 : sp_M_isParagraph np pp = 0) : (lp_M_machine_mo_22 np ns vdoes vgos vfrom vto vkind vtimes vcond vlev vask vcc vvar vleast vfirst vstep steps (n + 1) pp g2 lf pl cl sz mo (-2) rn od) = (lp_M_machine_mo_22 np ns vdoes vgos vfrom vto vkind vtimes vcond vlev vask vcc vvar vleast vfirst vstep steps n pp g2 lf pl cl sz mo 3 rn od) := by
  rw [lp_M_machine_mo_22, if_pos rfl, if_pos z1, if_pos z2]
theorem ms_mo_22 {steps : Int64} {n : Nat} {pp : Int32} {g2 : Nat → Int64} {lf pl cl : Nat → Int32} {sz mo rn : Int32} {od : Nat → Int32} (z1 : 0 < pp) (z2 : ¬ sp_M_isParagraph np pp = 0) (cs : ¬ lg_cmp rn.toInt64 steps < 0) : (lp_M_machine_mo_22 np ns vdoes vgos vfrom vto vkind vtimes vcond vlev vask vcc vvar vleast vfirst vstep steps (n + 1) pp g2 lf pl cl sz mo (-2) rn od) = (lp_M_machine_mo_22 np ns vdoes vgos vfrom vto vkind vtimes vcond vlev vask vcc vvar vleast vfirst vstep steps n pp g2 lf pl cl sz mo 1 rn od) := by
  rw [lp_M_machine_mo_22, if_pos rfl, if_pos z1, if_neg z2, if_neg cs]
theorem mg_mo_22 {steps : Int64} {n : Nat} {pp : Int32} {g2 : Nat → Int64} {lf pl cl : Nat → Int32} {sz mo rn : Int32} {od : Nat → Int32} (z1 : 0 < pp) (z2 : ¬ sp_M_isParagraph np pp = 0) (cs : lg_cmp rn.toInt64 steps < 0) : (lp_M_machine_mo_22 np ns vdoes vgos vfrom vto vkind vtimes vcond vlev vask vcc vvar vleast vfirst vstep steps (n + 1) pp g2 lf pl cl sz mo (-2) rn od) = (lp_M_machine_mo_22 np ns vdoes vgos vfrom vto vkind vtimes vcond vlev vask vcc vvar vleast vfirst vstep steps n (sp_M_doing np ns sz g2 vdoes vgos vfrom vto vkind vtimes vcond vlev vask vcc vvar vleast vfirst vstep pl cl lf pp) (sp_M_doing_ad1 ns sz g2 vdoes vgos vfrom vto vkind vtimes vcond vlev vask vcc vvar vleast vfirst vstep pl cl lf pp) (sp_M_doing_ad21 ns sz g2 vdoes vgos vfrom vto vkind vtimes vcond vlev vask vcc vvar vleast vfirst vstep pl cl lf pp) (sp_M_doing_ad19 ns sz vdoes vkind vcond vlev pl pp) (sp_M_doing_ad20 ns sz vdoes vkind vcond vlev cl pp) (sp_M_doing_mo_22 ns sz g2 vdoes vgos vfrom vto vkind vtimes vcond vlev vask vcc vvar vleast vfirst vstep pl cl lf pp) (sp_M_doing_mo_23 ns sz mo g2 vdoes vfrom vkind vtimes vcond vlev vask vcc vvar vleast vfirst vstep pl lf pp) (-2) (rn + 1) (upd od rn.toNatClampNeg pp)) := by
  rw [lp_M_machine_mo_22, if_pos rfl, if_pos z1, if_neg z2, if_pos cs]
theorem me_mo_23 {steps : Int64} {n : Nat} {pp : Int32} {g2 : Nat → Int64} {lf pl cl : Nat → Int32} {sz mo e2 rn : Int32} {od : Nat → Int32} (e : ¬ e2 = -2) : (lp_M_machine_mo_23 np ns vdoes vgos vfrom vto vkind vtimes vcond vlev vask vcc vvar vleast vfirst vstep steps (n + 1) pp g2 lf pl cl sz mo e2 rn od) = mo := by
  rw [lp_M_machine_mo_23, if_neg e]
theorem mz_mo_23 {steps : Int64} {n : Nat}  {g2 : Nat → Int64} {lf pl cl : Nat → Int32} {sz mo rn : Int32} {od : Nat → Int32} : (lp_M_machine_mo_23 np ns vdoes vgos vfrom vto vkind vtimes vcond vlev vask vcc vvar vleast vfirst vstep steps (n + 1) 0 g2 lf pl cl sz mo (-2) rn od) = (lp_M_machine_mo_23 np ns vdoes vgos vfrom vto vkind vtimes vcond vlev vask vcc vvar vleast vfirst vstep steps n 0 g2 lf pl cl sz mo 0 rn od) := by
  rw [lp_M_machine_mo_23, if_pos rfl, if_neg (show ¬ (0 : Int32) < 0 by decide), if_pos rfl]
theorem mn_mo_23 {steps : Int64} {n : Nat} {pp : Int32} {g2 : Nat → Int64} {lf pl cl : Nat → Int32} {sz mo rn : Int32} {od : Nat → Int32} (z1 : ¬ 0 < pp) (z2 : ¬ pp = 0) : (lp_M_machine_mo_23 np ns vdoes vgos vfrom vto vkind vtimes vcond vlev vask vcc vvar vleast vfirst vstep steps (n + 1) pp g2 lf pl cl sz mo (-2) rn od) = (lp_M_machine_mo_23 np ns vdoes vgos vfrom vto vkind vtimes vcond vlev vask vcc vvar vleast vfirst vstep steps n pp g2 lf pl cl sz mo ((-10) - pp) rn od) := by
  rw [lp_M_machine_mo_23, if_pos rfl, if_neg z1, if_neg z2]
theorem ml_mo_23 {steps : Int64} {n : Nat} {pp : Int32} {g2 : Nat → Int64} {lf pl cl : Nat → Int32} {sz mo rn : Int32} {od : Nat → Int32} (z1 : 0 < pp) (z2 : sp_M_isParagraph np pp = 0) : (lp_M_machine_mo_23 np ns vdoes vgos vfrom vto vkind vtimes vcond vlev vask vcc vvar vleast vfirst vstep steps (n + 1) pp g2 lf pl cl sz mo (-2) rn od) = (lp_M_machine_mo_23 np ns vdoes vgos vfrom vto vkind vtimes vcond vlev vask vcc vvar vleast vfirst vstep steps n pp g2 lf pl cl sz mo 3 rn od) := by
  rw [lp_M_machine_mo_23, if_pos rfl, if_pos z1, if_pos z2]
theorem ms_mo_23 {steps : Int64} {n : Nat} {pp : Int32} {g2 : Nat → Int64} {lf pl cl : Nat → Int32} {sz mo rn : Int32} {od : Nat → Int32} (z1 : 0 < pp) (z2 : ¬ sp_M_isParagraph np pp = 0) (cs : ¬ lg_cmp rn.toInt64 steps < 0) : (lp_M_machine_mo_23 np ns vdoes vgos vfrom vto vkind vtimes vcond vlev vask vcc vvar vleast vfirst vstep steps (n + 1) pp g2 lf pl cl sz mo (-2) rn od) = (lp_M_machine_mo_23 np ns vdoes vgos vfrom vto vkind vtimes vcond vlev vask vcc vvar vleast vfirst vstep steps n pp g2 lf pl cl sz mo 1 rn od) := by
  rw [lp_M_machine_mo_23, if_pos rfl, if_pos z1, if_neg z2, if_neg cs]
theorem mg_mo_23 {steps : Int64} {n : Nat} {pp : Int32} {g2 : Nat → Int64} {lf pl cl : Nat → Int32} {sz mo rn : Int32} {od : Nat → Int32} (z1 : 0 < pp) (z2 : ¬ sp_M_isParagraph np pp = 0) (cs : lg_cmp rn.toInt64 steps < 0) : (lp_M_machine_mo_23 np ns vdoes vgos vfrom vto vkind vtimes vcond vlev vask vcc vvar vleast vfirst vstep steps (n + 1) pp g2 lf pl cl sz mo (-2) rn od) = (lp_M_machine_mo_23 np ns vdoes vgos vfrom vto vkind vtimes vcond vlev vask vcc vvar vleast vfirst vstep steps n (sp_M_doing np ns sz g2 vdoes vgos vfrom vto vkind vtimes vcond vlev vask vcc vvar vleast vfirst vstep pl cl lf pp) (sp_M_doing_ad1 ns sz g2 vdoes vgos vfrom vto vkind vtimes vcond vlev vask vcc vvar vleast vfirst vstep pl cl lf pp) (sp_M_doing_ad21 ns sz g2 vdoes vgos vfrom vto vkind vtimes vcond vlev vask vcc vvar vleast vfirst vstep pl cl lf pp) (sp_M_doing_ad19 ns sz vdoes vkind vcond vlev pl pp) (sp_M_doing_ad20 ns sz vdoes vkind vcond vlev cl pp) (sp_M_doing_mo_22 ns sz g2 vdoes vgos vfrom vto vkind vtimes vcond vlev vask vcc vvar vleast vfirst vstep pl cl lf pp) (sp_M_doing_mo_23 ns sz mo g2 vdoes vfrom vkind vtimes vcond vlev vask vcc vvar vleast vfirst vstep pl lf pp) (-2) (rn + 1) (upd od rn.toNatClampNeg pp)) := by
  rw [lp_M_machine_mo_23, if_pos rfl, if_pos z1, if_neg z2, if_pos cs]
theorem me_mo_24 {steps : Int64} {n : Nat} {pp : Int32} {g2 : Nat → Int64} {lf pl cl : Nat → Int32} {sz mo e2 rn : Int32} {od : Nat → Int32} (e : ¬ e2 = -2) : (lp_M_machine_mo_24 np ns vdoes vgos vfrom vto vkind vtimes vcond vlev vask vcc vvar vleast vfirst vstep steps (n + 1) pp g2 lf pl cl sz mo e2 rn od) = e2 := by
  rw [lp_M_machine_mo_24, if_neg e]
theorem mz_mo_24 {steps : Int64} {n : Nat}  {g2 : Nat → Int64} {lf pl cl : Nat → Int32} {sz mo rn : Int32} {od : Nat → Int32} : (lp_M_machine_mo_24 np ns vdoes vgos vfrom vto vkind vtimes vcond vlev vask vcc vvar vleast vfirst vstep steps (n + 1) 0 g2 lf pl cl sz mo (-2) rn od) = (lp_M_machine_mo_24 np ns vdoes vgos vfrom vto vkind vtimes vcond vlev vask vcc vvar vleast vfirst vstep steps n 0 g2 lf pl cl sz mo 0 rn od) := by
  rw [lp_M_machine_mo_24, if_pos rfl, if_neg (show ¬ (0 : Int32) < 0 by decide), if_pos rfl]
theorem mn_mo_24 {steps : Int64} {n : Nat} {pp : Int32} {g2 : Nat → Int64} {lf pl cl : Nat → Int32} {sz mo rn : Int32} {od : Nat → Int32} (z1 : ¬ 0 < pp) (z2 : ¬ pp = 0) : (lp_M_machine_mo_24 np ns vdoes vgos vfrom vto vkind vtimes vcond vlev vask vcc vvar vleast vfirst vstep steps (n + 1) pp g2 lf pl cl sz mo (-2) rn od) = (lp_M_machine_mo_24 np ns vdoes vgos vfrom vto vkind vtimes vcond vlev vask vcc vvar vleast vfirst vstep steps n pp g2 lf pl cl sz mo ((-10) - pp) rn od) := by
  rw [lp_M_machine_mo_24, if_pos rfl, if_neg z1, if_neg z2]
theorem ml_mo_24 {steps : Int64} {n : Nat} {pp : Int32} {g2 : Nat → Int64} {lf pl cl : Nat → Int32} {sz mo rn : Int32} {od : Nat → Int32} (z1 : 0 < pp) (z2 : sp_M_isParagraph np pp = 0) : (lp_M_machine_mo_24 np ns vdoes vgos vfrom vto vkind vtimes vcond vlev vask vcc vvar vleast vfirst vstep steps (n + 1) pp g2 lf pl cl sz mo (-2) rn od) = (lp_M_machine_mo_24 np ns vdoes vgos vfrom vto vkind vtimes vcond vlev vask vcc vvar vleast vfirst vstep steps n pp g2 lf pl cl sz mo 3 rn od) := by
  rw [lp_M_machine_mo_24, if_pos rfl, if_pos z1, if_pos z2]
theorem ms_mo_24 {steps : Int64} {n : Nat} {pp : Int32} {g2 : Nat → Int64} {lf pl cl : Nat → Int32} {sz mo rn : Int32} {od : Nat → Int32} (z1 : 0 < pp) (z2 : ¬ sp_M_isParagraph np pp = 0) (cs : ¬ lg_cmp rn.toInt64 steps < 0) : (lp_M_machine_mo_24 np ns vdoes vgos vfrom vto vkind vtimes vcond vlev vask vcc vvar vleast vfirst vstep steps (n + 1) pp g2 lf pl cl sz mo (-2) rn od) = (lp_M_machine_mo_24 np ns vdoes vgos vfrom vto vkind vtimes vcond vlev vask vcc vvar vleast vfirst vstep steps n pp g2 lf pl cl sz mo 1 rn od) := by
  rw [lp_M_machine_mo_24, if_pos rfl, if_pos z1, if_neg z2, if_neg cs]
theorem mg_mo_24 {steps : Int64} {n : Nat} {pp : Int32} {g2 : Nat → Int64} {lf pl cl : Nat → Int32} {sz mo rn : Int32} {od : Nat → Int32} (z1 : 0 < pp) (z2 : ¬ sp_M_isParagraph np pp = 0) (cs : lg_cmp rn.toInt64 steps < 0) : (lp_M_machine_mo_24 np ns vdoes vgos vfrom vto vkind vtimes vcond vlev vask vcc vvar vleast vfirst vstep steps (n + 1) pp g2 lf pl cl sz mo (-2) rn od) = (lp_M_machine_mo_24 np ns vdoes vgos vfrom vto vkind vtimes vcond vlev vask vcc vvar vleast vfirst vstep steps n (sp_M_doing np ns sz g2 vdoes vgos vfrom vto vkind vtimes vcond vlev vask vcc vvar vleast vfirst vstep pl cl lf pp) (sp_M_doing_ad1 ns sz g2 vdoes vgos vfrom vto vkind vtimes vcond vlev vask vcc vvar vleast vfirst vstep pl cl lf pp) (sp_M_doing_ad21 ns sz g2 vdoes vgos vfrom vto vkind vtimes vcond vlev vask vcc vvar vleast vfirst vstep pl cl lf pp) (sp_M_doing_ad19 ns sz vdoes vkind vcond vlev pl pp) (sp_M_doing_ad20 ns sz vdoes vkind vcond vlev cl pp) (sp_M_doing_mo_22 ns sz g2 vdoes vgos vfrom vto vkind vtimes vcond vlev vask vcc vvar vleast vfirst vstep pl cl lf pp) (sp_M_doing_mo_23 ns sz mo g2 vdoes vfrom vkind vtimes vcond vlev vask vcc vvar vleast vfirst vstep pl lf pp) (-2) (rn + 1) (upd od rn.toNatClampNeg pp)) := by
  rw [lp_M_machine_mo_24, if_pos rfl, if_pos z1, if_neg z2, if_pos cs]
theorem me_mo_25 {steps : Int64} {n : Nat} {pp : Int32} {g2 : Nat → Int64} {lf pl cl : Nat → Int32} {sz mo e2 rn : Int32} {od : Nat → Int32} (e : ¬ e2 = -2) : (lp_M_machine_mo_25 np ns vdoes vgos vfrom vto vkind vtimes vcond vlev vask vcc vvar vleast vfirst vstep steps (n + 1) pp g2 lf pl cl sz mo e2 rn od) = rn := by
  rw [lp_M_machine_mo_25, if_neg e]
theorem mz_mo_25 {steps : Int64} {n : Nat}  {g2 : Nat → Int64} {lf pl cl : Nat → Int32} {sz mo rn : Int32} {od : Nat → Int32} : (lp_M_machine_mo_25 np ns vdoes vgos vfrom vto vkind vtimes vcond vlev vask vcc vvar vleast vfirst vstep steps (n + 1) 0 g2 lf pl cl sz mo (-2) rn od) = (lp_M_machine_mo_25 np ns vdoes vgos vfrom vto vkind vtimes vcond vlev vask vcc vvar vleast vfirst vstep steps n 0 g2 lf pl cl sz mo 0 rn od) := by
  rw [lp_M_machine_mo_25, if_pos rfl, if_neg (show ¬ (0 : Int32) < 0 by decide), if_pos rfl]
theorem mn_mo_25 {steps : Int64} {n : Nat} {pp : Int32} {g2 : Nat → Int64} {lf pl cl : Nat → Int32} {sz mo rn : Int32} {od : Nat → Int32} (z1 : ¬ 0 < pp) (z2 : ¬ pp = 0) : (lp_M_machine_mo_25 np ns vdoes vgos vfrom vto vkind vtimes vcond vlev vask vcc vvar vleast vfirst vstep steps (n + 1) pp g2 lf pl cl sz mo (-2) rn od) = (lp_M_machine_mo_25 np ns vdoes vgos vfrom vto vkind vtimes vcond vlev vask vcc vvar vleast vfirst vstep steps n pp g2 lf pl cl sz mo ((-10) - pp) rn od) := by
  rw [lp_M_machine_mo_25, if_pos rfl, if_neg z1, if_neg z2]
theorem ml_mo_25 {steps : Int64} {n : Nat} {pp : Int32} {g2 : Nat → Int64} {lf pl cl : Nat → Int32} {sz mo rn : Int32} {od : Nat → Int32} (z1 : 0 < pp) (z2 : sp_M_isParagraph np pp = 0) : (lp_M_machine_mo_25 np ns vdoes vgos vfrom vto vkind vtimes vcond vlev vask vcc vvar vleast vfirst vstep steps (n + 1) pp g2 lf pl cl sz mo (-2) rn od) = (lp_M_machine_mo_25 np ns vdoes vgos vfrom vto vkind vtimes vcond vlev vask vcc vvar vleast vfirst vstep steps n pp g2 lf pl cl sz mo 3 rn od) := by
  rw [lp_M_machine_mo_25, if_pos rfl, if_pos z1, if_pos z2]
theorem ms_mo_25 {steps : Int64} {n : Nat} {pp : Int32} {g2 : Nat → Int64} {lf pl cl : Nat → Int32} {sz mo rn : Int32} {od : Nat → Int32} (z1 : 0 < pp) (z2 : ¬ sp_M_isParagraph np pp = 0) (cs : ¬ lg_cmp rn.toInt64 steps < 0) : (lp_M_machine_mo_25 np ns vdoes vgos vfrom vto vkind vtimes vcond vlev vask vcc vvar vleast vfirst vstep steps (n + 1) pp g2 lf pl cl sz mo (-2) rn od) = (lp_M_machine_mo_25 np ns vdoes vgos vfrom vto vkind vtimes vcond vlev vask vcc vvar vleast vfirst vstep steps n pp g2 lf pl cl sz mo 1 rn od) := by
  rw [lp_M_machine_mo_25, if_pos rfl, if_pos z1, if_neg z2, if_neg cs]
theorem mg_mo_25 {steps : Int64} {n : Nat} {pp : Int32} {g2 : Nat → Int64} {lf pl cl : Nat → Int32} {sz mo rn : Int32} {od : Nat → Int32} (z1 : 0 < pp) (z2 : ¬ sp_M_isParagraph np pp = 0) (cs : lg_cmp rn.toInt64 steps < 0) : (lp_M_machine_mo_25 np ns vdoes vgos vfrom vto vkind vtimes vcond vlev vask vcc vvar vleast vfirst vstep steps (n + 1) pp g2 lf pl cl sz mo (-2) rn od) = (lp_M_machine_mo_25 np ns vdoes vgos vfrom vto vkind vtimes vcond vlev vask vcc vvar vleast vfirst vstep steps n (sp_M_doing np ns sz g2 vdoes vgos vfrom vto vkind vtimes vcond vlev vask vcc vvar vleast vfirst vstep pl cl lf pp) (sp_M_doing_ad1 ns sz g2 vdoes vgos vfrom vto vkind vtimes vcond vlev vask vcc vvar vleast vfirst vstep pl cl lf pp) (sp_M_doing_ad21 ns sz g2 vdoes vgos vfrom vto vkind vtimes vcond vlev vask vcc vvar vleast vfirst vstep pl cl lf pp) (sp_M_doing_ad19 ns sz vdoes vkind vcond vlev pl pp) (sp_M_doing_ad20 ns sz vdoes vkind vcond vlev cl pp) (sp_M_doing_mo_22 ns sz g2 vdoes vgos vfrom vto vkind vtimes vcond vlev vask vcc vvar vleast vfirst vstep pl cl lf pp) (sp_M_doing_mo_23 ns sz mo g2 vdoes vfrom vkind vtimes vcond vlev vask vcc vvar vleast vfirst vstep pl lf pp) (-2) (rn + 1) (upd od rn.toNatClampNeg pp)) := by
  rw [lp_M_machine_mo_25, if_pos rfl, if_pos z1, if_neg z2, if_pos cs]
theorem me_ad19 {steps : Int64} {n : Nat} {pp : Int32} {g2 : Nat → Int64} {lf pl cl : Nat → Int32} {sz mo e2 rn : Int32} {od : Nat → Int32} (e : ¬ e2 = -2) : (lp_M_machine_ad19 np ns vdoes vgos vfrom vto vkind vtimes vcond vlev vask vcc vvar vleast vfirst vstep steps (n + 1) pp g2 lf pl cl sz mo e2 rn od) = pl := by
  rw [lp_M_machine_ad19, if_neg e]
theorem mz_ad19 {steps : Int64} {n : Nat}  {g2 : Nat → Int64} {lf pl cl : Nat → Int32} {sz mo rn : Int32} {od : Nat → Int32} : (lp_M_machine_ad19 np ns vdoes vgos vfrom vto vkind vtimes vcond vlev vask vcc vvar vleast vfirst vstep steps (n + 1) 0 g2 lf pl cl sz mo (-2) rn od) = (lp_M_machine_ad19 np ns vdoes vgos vfrom vto vkind vtimes vcond vlev vask vcc vvar vleast vfirst vstep steps n 0 g2 lf pl cl sz mo 0 rn od) := by
  rw [lp_M_machine_ad19, if_pos rfl, if_neg (show ¬ (0 : Int32) < 0 by decide), if_pos rfl]
theorem mn_ad19 {steps : Int64} {n : Nat} {pp : Int32} {g2 : Nat → Int64} {lf pl cl : Nat → Int32} {sz mo rn : Int32} {od : Nat → Int32} (z1 : ¬ 0 < pp) (z2 : ¬ pp = 0) : (lp_M_machine_ad19 np ns vdoes vgos vfrom vto vkind vtimes vcond vlev vask vcc vvar vleast vfirst vstep steps (n + 1) pp g2 lf pl cl sz mo (-2) rn od) = (lp_M_machine_ad19 np ns vdoes vgos vfrom vto vkind vtimes vcond vlev vask vcc vvar vleast vfirst vstep steps n pp g2 lf pl cl sz mo ((-10) - pp) rn od) := by
  rw [lp_M_machine_ad19, if_pos rfl, if_neg z1, if_neg z2]
theorem ml_ad19 {steps : Int64} {n : Nat} {pp : Int32} {g2 : Nat → Int64} {lf pl cl : Nat → Int32} {sz mo rn : Int32} {od : Nat → Int32} (z1 : 0 < pp) (z2 : sp_M_isParagraph np pp = 0) : (lp_M_machine_ad19 np ns vdoes vgos vfrom vto vkind vtimes vcond vlev vask vcc vvar vleast vfirst vstep steps (n + 1) pp g2 lf pl cl sz mo (-2) rn od) = (lp_M_machine_ad19 np ns vdoes vgos vfrom vto vkind vtimes vcond vlev vask vcc vvar vleast vfirst vstep steps n pp g2 lf pl cl sz mo 3 rn od) := by
  rw [lp_M_machine_ad19, if_pos rfl, if_pos z1, if_pos z2]
theorem ms_ad19 {steps : Int64} {n : Nat} {pp : Int32} {g2 : Nat → Int64} {lf pl cl : Nat → Int32} {sz mo rn : Int32} {od : Nat → Int32} (z1 : 0 < pp) (z2 : ¬ sp_M_isParagraph np pp = 0) (cs : ¬ lg_cmp rn.toInt64 steps < 0) : (lp_M_machine_ad19 np ns vdoes vgos vfrom vto vkind vtimes vcond vlev vask vcc vvar vleast vfirst vstep steps (n + 1) pp g2 lf pl cl sz mo (-2) rn od) = (lp_M_machine_ad19 np ns vdoes vgos vfrom vto vkind vtimes vcond vlev vask vcc vvar vleast vfirst vstep steps n pp g2 lf pl cl sz mo 1 rn od) := by
  rw [lp_M_machine_ad19, if_pos rfl, if_pos z1, if_neg z2, if_neg cs]
theorem mg_ad19 {steps : Int64} {n : Nat} {pp : Int32} {g2 : Nat → Int64} {lf pl cl : Nat → Int32} {sz mo rn : Int32} {od : Nat → Int32} (z1 : 0 < pp) (z2 : ¬ sp_M_isParagraph np pp = 0) (cs : lg_cmp rn.toInt64 steps < 0) : (lp_M_machine_ad19 np ns vdoes vgos vfrom vto vkind vtimes vcond vlev vask vcc vvar vleast vfirst vstep steps (n + 1) pp g2 lf pl cl sz mo (-2) rn od) = (lp_M_machine_ad19 np ns vdoes vgos vfrom vto vkind vtimes vcond vlev vask vcc vvar vleast vfirst vstep steps n (sp_M_doing np ns sz g2 vdoes vgos vfrom vto vkind vtimes vcond vlev vask vcc vvar vleast vfirst vstep pl cl lf pp) (sp_M_doing_ad1 ns sz g2 vdoes vgos vfrom vto vkind vtimes vcond vlev vask vcc vvar vleast vfirst vstep pl cl lf pp) (sp_M_doing_ad21 ns sz g2 vdoes vgos vfrom vto vkind vtimes vcond vlev vask vcc vvar vleast vfirst vstep pl cl lf pp) (sp_M_doing_ad19 ns sz vdoes vkind vcond vlev pl pp) (sp_M_doing_ad20 ns sz vdoes vkind vcond vlev cl pp) (sp_M_doing_mo_22 ns sz g2 vdoes vgos vfrom vto vkind vtimes vcond vlev vask vcc vvar vleast vfirst vstep pl cl lf pp) (sp_M_doing_mo_23 ns sz mo g2 vdoes vfrom vkind vtimes vcond vlev vask vcc vvar vleast vfirst vstep pl lf pp) (-2) (rn + 1) (upd od rn.toNatClampNeg pp)) := by
  rw [lp_M_machine_ad19, if_pos rfl, if_pos z1, if_neg z2, if_pos cs]
theorem me_ad20 {steps : Int64} {n : Nat} {pp : Int32} {g2 : Nat → Int64} {lf pl cl : Nat → Int32} {sz mo e2 rn : Int32} {od : Nat → Int32} (e : ¬ e2 = -2) : (lp_M_machine_ad20 np ns vdoes vgos vfrom vto vkind vtimes vcond vlev vask vcc vvar vleast vfirst vstep steps (n + 1) pp g2 lf pl cl sz mo e2 rn od) = cl := by
  rw [lp_M_machine_ad20, if_neg e]
theorem mz_ad20 {steps : Int64} {n : Nat}  {g2 : Nat → Int64} {lf pl cl : Nat → Int32} {sz mo rn : Int32} {od : Nat → Int32} : (lp_M_machine_ad20 np ns vdoes vgos vfrom vto vkind vtimes vcond vlev vask vcc vvar vleast vfirst vstep steps (n + 1) 0 g2 lf pl cl sz mo (-2) rn od) = (lp_M_machine_ad20 np ns vdoes vgos vfrom vto vkind vtimes vcond vlev vask vcc vvar vleast vfirst vstep steps n 0 g2 lf pl cl sz mo 0 rn od) := by
  rw [lp_M_machine_ad20, if_pos rfl, if_neg (show ¬ (0 : Int32) < 0 by decide), if_pos rfl]
theorem mn_ad20 {steps : Int64} {n : Nat} {pp : Int32} {g2 : Nat → Int64} {lf pl cl : Nat → Int32} {sz mo rn : Int32} {od : Nat → Int32} (z1 : ¬ 0 < pp) (z2 : ¬ pp = 0) : (lp_M_machine_ad20 np ns vdoes vgos vfrom vto vkind vtimes vcond vlev vask vcc vvar vleast vfirst vstep steps (n + 1) pp g2 lf pl cl sz mo (-2) rn od) = (lp_M_machine_ad20 np ns vdoes vgos vfrom vto vkind vtimes vcond vlev vask vcc vvar vleast vfirst vstep steps n pp g2 lf pl cl sz mo ((-10) - pp) rn od) := by
  rw [lp_M_machine_ad20, if_pos rfl, if_neg z1, if_neg z2]
theorem ml_ad20 {steps : Int64} {n : Nat} {pp : Int32} {g2 : Nat → Int64} {lf pl cl : Nat → Int32} {sz mo rn : Int32} {od : Nat → Int32} (z1 : 0 < pp) (z2 : sp_M_isParagraph np pp = 0) : (lp_M_machine_ad20 np ns vdoes vgos vfrom vto vkind vtimes vcond vlev vask vcc vvar vleast vfirst vstep steps (n + 1) pp g2 lf pl cl sz mo (-2) rn od) = (lp_M_machine_ad20 np ns vdoes vgos vfrom vto vkind vtimes vcond vlev vask vcc vvar vleast vfirst vstep steps n pp g2 lf pl cl sz mo 3 rn od) := by
  rw [lp_M_machine_ad20, if_pos rfl, if_pos z1, if_pos z2]
theorem ms_ad20 {steps : Int64} {n : Nat} {pp : Int32} {g2 : Nat → Int64} {lf pl cl : Nat → Int32} {sz mo rn : Int32} {od : Nat → Int32} (z1 : 0 < pp) (z2 : ¬ sp_M_isParagraph np pp = 0) (cs : ¬ lg_cmp rn.toInt64 steps < 0) : (lp_M_machine_ad20 np ns vdoes vgos vfrom vto vkind vtimes vcond vlev vask vcc vvar vleast vfirst vstep steps (n + 1) pp g2 lf pl cl sz mo (-2) rn od) = (lp_M_machine_ad20 np ns vdoes vgos vfrom vto vkind vtimes vcond vlev vask vcc vvar vleast vfirst vstep steps n pp g2 lf pl cl sz mo 1 rn od) := by
  rw [lp_M_machine_ad20, if_pos rfl, if_pos z1, if_neg z2, if_neg cs]
theorem mg_ad20 {steps : Int64} {n : Nat} {pp : Int32} {g2 : Nat → Int64} {lf pl cl : Nat → Int32} {sz mo rn : Int32} {od : Nat → Int32} (z1 : 0 < pp) (z2 : ¬ sp_M_isParagraph np pp = 0) (cs : lg_cmp rn.toInt64 steps < 0) : (lp_M_machine_ad20 np ns vdoes vgos vfrom vto vkind vtimes vcond vlev vask vcc vvar vleast vfirst vstep steps (n + 1) pp g2 lf pl cl sz mo (-2) rn od) = (lp_M_machine_ad20 np ns vdoes vgos vfrom vto vkind vtimes vcond vlev vask vcc vvar vleast vfirst vstep steps n (sp_M_doing np ns sz g2 vdoes vgos vfrom vto vkind vtimes vcond vlev vask vcc vvar vleast vfirst vstep pl cl lf pp) (sp_M_doing_ad1 ns sz g2 vdoes vgos vfrom vto vkind vtimes vcond vlev vask vcc vvar vleast vfirst vstep pl cl lf pp) (sp_M_doing_ad21 ns sz g2 vdoes vgos vfrom vto vkind vtimes vcond vlev vask vcc vvar vleast vfirst vstep pl cl lf pp) (sp_M_doing_ad19 ns sz vdoes vkind vcond vlev pl pp) (sp_M_doing_ad20 ns sz vdoes vkind vcond vlev cl pp) (sp_M_doing_mo_22 ns sz g2 vdoes vgos vfrom vto vkind vtimes vcond vlev vask vcc vvar vleast vfirst vstep pl cl lf pp) (sp_M_doing_mo_23 ns sz mo g2 vdoes vfrom vkind vtimes vcond vlev vask vcc vvar vleast vfirst vstep pl lf pp) (-2) (rn + 1) (upd od rn.toNatClampNeg pp)) := by
  rw [lp_M_machine_ad20, if_pos rfl, if_pos z1, if_neg z2, if_pos cs]
theorem me_ad21 {steps : Int64} {n : Nat} {pp : Int32} {g2 : Nat → Int64} {lf pl cl : Nat → Int32} {sz mo e2 rn : Int32} {od : Nat → Int32} (e : ¬ e2 = -2) : (lp_M_machine_ad21 np ns vdoes vgos vfrom vto vkind vtimes vcond vlev vask vcc vvar vleast vfirst vstep steps (n + 1) pp g2 lf pl cl sz mo e2 rn od) = lf := by
  rw [lp_M_machine_ad21, if_neg e]
theorem mz_ad21 {steps : Int64} {n : Nat}  {g2 : Nat → Int64} {lf pl cl : Nat → Int32} {sz mo rn : Int32} {od : Nat → Int32} : (lp_M_machine_ad21 np ns vdoes vgos vfrom vto vkind vtimes vcond vlev vask vcc vvar vleast vfirst vstep steps (n + 1) 0 g2 lf pl cl sz mo (-2) rn od) = (lp_M_machine_ad21 np ns vdoes vgos vfrom vto vkind vtimes vcond vlev vask vcc vvar vleast vfirst vstep steps n 0 g2 lf pl cl sz mo 0 rn od) := by
  rw [lp_M_machine_ad21, if_pos rfl, if_neg (show ¬ (0 : Int32) < 0 by decide), if_pos rfl]
theorem mn_ad21 {steps : Int64} {n : Nat} {pp : Int32} {g2 : Nat → Int64} {lf pl cl : Nat → Int32} {sz mo rn : Int32} {od : Nat → Int32} (z1 : ¬ 0 < pp) (z2 : ¬ pp = 0) : (lp_M_machine_ad21 np ns vdoes vgos vfrom vto vkind vtimes vcond vlev vask vcc vvar vleast vfirst vstep steps (n + 1) pp g2 lf pl cl sz mo (-2) rn od) = (lp_M_machine_ad21 np ns vdoes vgos vfrom vto vkind vtimes vcond vlev vask vcc vvar vleast vfirst vstep steps n pp g2 lf pl cl sz mo ((-10) - pp) rn od) := by
  rw [lp_M_machine_ad21, if_pos rfl, if_neg z1, if_neg z2]
theorem ml_ad21 {steps : Int64} {n : Nat} {pp : Int32} {g2 : Nat → Int64} {lf pl cl : Nat → Int32} {sz mo rn : Int32} {od : Nat → Int32} (z1 : 0 < pp) (z2 : sp_M_isParagraph np pp = 0) : (lp_M_machine_ad21 np ns vdoes vgos vfrom vto vkind vtimes vcond vlev vask vcc vvar vleast vfirst vstep steps (n + 1) pp g2 lf pl cl sz mo (-2) rn od) = (lp_M_machine_ad21 np ns vdoes vgos vfrom vto vkind vtimes vcond vlev vask vcc vvar vleast vfirst vstep steps n pp g2 lf pl cl sz mo 3 rn od) := by
  rw [lp_M_machine_ad21, if_pos rfl, if_pos z1, if_pos z2]
theorem ms_ad21 {steps : Int64} {n : Nat} {pp : Int32} {g2 : Nat → Int64} {lf pl cl : Nat → Int32} {sz mo rn : Int32} {od : Nat → Int32} (z1 : 0 < pp) (z2 : ¬ sp_M_isParagraph np pp = 0) (cs : ¬ lg_cmp rn.toInt64 steps < 0) : (lp_M_machine_ad21 np ns vdoes vgos vfrom vto vkind vtimes vcond vlev vask vcc vvar vleast vfirst vstep steps (n + 1) pp g2 lf pl cl sz mo (-2) rn od) = (lp_M_machine_ad21 np ns vdoes vgos vfrom vto vkind vtimes vcond vlev vask vcc vvar vleast vfirst vstep steps n pp g2 lf pl cl sz mo 1 rn od) := by
  rw [lp_M_machine_ad21, if_pos rfl, if_pos z1, if_neg z2, if_neg cs]
theorem mg_ad21 {steps : Int64} {n : Nat} {pp : Int32} {g2 : Nat → Int64} {lf pl cl : Nat → Int32} {sz mo rn : Int32} {od : Nat → Int32} (z1 : 0 < pp) (z2 : ¬ sp_M_isParagraph np pp = 0) (cs : lg_cmp rn.toInt64 steps < 0) : (lp_M_machine_ad21 np ns vdoes vgos vfrom vto vkind vtimes vcond vlev vask vcc vvar vleast vfirst vstep steps (n + 1) pp g2 lf pl cl sz mo (-2) rn od) = (lp_M_machine_ad21 np ns vdoes vgos vfrom vto vkind vtimes vcond vlev vask vcc vvar vleast vfirst vstep steps n (sp_M_doing np ns sz g2 vdoes vgos vfrom vto vkind vtimes vcond vlev vask vcc vvar vleast vfirst vstep pl cl lf pp) (sp_M_doing_ad1 ns sz g2 vdoes vgos vfrom vto vkind vtimes vcond vlev vask vcc vvar vleast vfirst vstep pl cl lf pp) (sp_M_doing_ad21 ns sz g2 vdoes vgos vfrom vto vkind vtimes vcond vlev vask vcc vvar vleast vfirst vstep pl cl lf pp) (sp_M_doing_ad19 ns sz vdoes vkind vcond vlev pl pp) (sp_M_doing_ad20 ns sz vdoes vkind vcond vlev cl pp) (sp_M_doing_mo_22 ns sz g2 vdoes vgos vfrom vto vkind vtimes vcond vlev vask vcc vvar vleast vfirst vstep pl cl lf pp) (sp_M_doing_mo_23 ns sz mo g2 vdoes vfrom vkind vtimes vcond vlev vask vcc vvar vleast vfirst vstep pl lf pp) (-2) (rn + 1) (upd od rn.toNatClampNeg pp)) := by
  rw [lp_M_machine_ad21, if_pos rfl, if_pos z1, if_neg z2, if_pos cs]
theorem me_ad1 {steps : Int64} {n : Nat} {pp : Int32} {g2 : Nat → Int64} {lf pl cl : Nat → Int32} {sz mo e2 rn : Int32} {od : Nat → Int32} (e : ¬ e2 = -2) : (lp_M_machine_ad1 np ns vdoes vgos vfrom vto vkind vtimes vcond vlev vask vcc vvar vleast vfirst vstep steps (n + 1) pp g2 lf pl cl sz mo e2 rn od) = g2 := by
  rw [lp_M_machine_ad1, if_neg e]
theorem mz_ad1 {steps : Int64} {n : Nat}  {g2 : Nat → Int64} {lf pl cl : Nat → Int32} {sz mo rn : Int32} {od : Nat → Int32} : (lp_M_machine_ad1 np ns vdoes vgos vfrom vto vkind vtimes vcond vlev vask vcc vvar vleast vfirst vstep steps (n + 1) 0 g2 lf pl cl sz mo (-2) rn od) = (lp_M_machine_ad1 np ns vdoes vgos vfrom vto vkind vtimes vcond vlev vask vcc vvar vleast vfirst vstep steps n 0 g2 lf pl cl sz mo 0 rn od) := by
  rw [lp_M_machine_ad1, if_pos rfl, if_neg (show ¬ (0 : Int32) < 0 by decide), if_pos rfl]
theorem mn_ad1 {steps : Int64} {n : Nat} {pp : Int32} {g2 : Nat → Int64} {lf pl cl : Nat → Int32} {sz mo rn : Int32} {od : Nat → Int32} (z1 : ¬ 0 < pp) (z2 : ¬ pp = 0) : (lp_M_machine_ad1 np ns vdoes vgos vfrom vto vkind vtimes vcond vlev vask vcc vvar vleast vfirst vstep steps (n + 1) pp g2 lf pl cl sz mo (-2) rn od) = (lp_M_machine_ad1 np ns vdoes vgos vfrom vto vkind vtimes vcond vlev vask vcc vvar vleast vfirst vstep steps n pp g2 lf pl cl sz mo ((-10) - pp) rn od) := by
  rw [lp_M_machine_ad1, if_pos rfl, if_neg z1, if_neg z2]
theorem ml_ad1 {steps : Int64} {n : Nat} {pp : Int32} {g2 : Nat → Int64} {lf pl cl : Nat → Int32} {sz mo rn : Int32} {od : Nat → Int32} (z1 : 0 < pp) (z2 : sp_M_isParagraph np pp = 0) : (lp_M_machine_ad1 np ns vdoes vgos vfrom vto vkind vtimes vcond vlev vask vcc vvar vleast vfirst vstep steps (n + 1) pp g2 lf pl cl sz mo (-2) rn od) = (lp_M_machine_ad1 np ns vdoes vgos vfrom vto vkind vtimes vcond vlev vask vcc vvar vleast vfirst vstep steps n pp g2 lf pl cl sz mo 3 rn od) := by
  rw [lp_M_machine_ad1, if_pos rfl, if_pos z1, if_pos z2]
theorem ms_ad1 {steps : Int64} {n : Nat} {pp : Int32} {g2 : Nat → Int64} {lf pl cl : Nat → Int32} {sz mo rn : Int32} {od : Nat → Int32} (z1 : 0 < pp) (z2 : ¬ sp_M_isParagraph np pp = 0) (cs : ¬ lg_cmp rn.toInt64 steps < 0) : (lp_M_machine_ad1 np ns vdoes vgos vfrom vto vkind vtimes vcond vlev vask vcc vvar vleast vfirst vstep steps (n + 1) pp g2 lf pl cl sz mo (-2) rn od) = (lp_M_machine_ad1 np ns vdoes vgos vfrom vto vkind vtimes vcond vlev vask vcc vvar vleast vfirst vstep steps n pp g2 lf pl cl sz mo 1 rn od) := by
  rw [lp_M_machine_ad1, if_pos rfl, if_pos z1, if_neg z2, if_neg cs]
theorem mg_ad1 {steps : Int64} {n : Nat} {pp : Int32} {g2 : Nat → Int64} {lf pl cl : Nat → Int32} {sz mo rn : Int32} {od : Nat → Int32} (z1 : 0 < pp) (z2 : ¬ sp_M_isParagraph np pp = 0) (cs : lg_cmp rn.toInt64 steps < 0) : (lp_M_machine_ad1 np ns vdoes vgos vfrom vto vkind vtimes vcond vlev vask vcc vvar vleast vfirst vstep steps (n + 1) pp g2 lf pl cl sz mo (-2) rn od) = (lp_M_machine_ad1 np ns vdoes vgos vfrom vto vkind vtimes vcond vlev vask vcc vvar vleast vfirst vstep steps n (sp_M_doing np ns sz g2 vdoes vgos vfrom vto vkind vtimes vcond vlev vask vcc vvar vleast vfirst vstep pl cl lf pp) (sp_M_doing_ad1 ns sz g2 vdoes vgos vfrom vto vkind vtimes vcond vlev vask vcc vvar vleast vfirst vstep pl cl lf pp) (sp_M_doing_ad21 ns sz g2 vdoes vgos vfrom vto vkind vtimes vcond vlev vask vcc vvar vleast vfirst vstep pl cl lf pp) (sp_M_doing_ad19 ns sz vdoes vkind vcond vlev pl pp) (sp_M_doing_ad20 ns sz vdoes vkind vcond vlev cl pp) (sp_M_doing_mo_22 ns sz g2 vdoes vgos vfrom vto vkind vtimes vcond vlev vask vcc vvar vleast vfirst vstep pl cl lf pp) (sp_M_doing_mo_23 ns sz mo g2 vdoes vfrom vkind vtimes vcond vlev vask vcc vvar vleast vfirst vstep pl lf pp) (-2) (rn + 1) (upd od rn.toNatClampNeg pp)) := by
  rw [lp_M_machine_ad1, if_pos rfl, if_pos z1, if_neg z2, if_pos cs]
theorem me_ad26 {steps : Int64} {n : Nat} {pp : Int32} {g2 : Nat → Int64} {lf pl cl : Nat → Int32} {sz mo e2 rn : Int32} {od : Nat → Int32} (e : ¬ e2 = -2) : (lp_M_machine_ad26 np ns vdoes vgos vfrom vto vkind vtimes vcond vlev vask vcc vvar vleast vfirst vstep steps (n + 1) pp g2 lf pl cl sz mo e2 rn od) = od := by
  rw [lp_M_machine_ad26, if_neg e]
theorem mz_ad26 {steps : Int64} {n : Nat}  {g2 : Nat → Int64} {lf pl cl : Nat → Int32} {sz mo rn : Int32} {od : Nat → Int32} : (lp_M_machine_ad26 np ns vdoes vgos vfrom vto vkind vtimes vcond vlev vask vcc vvar vleast vfirst vstep steps (n + 1) 0 g2 lf pl cl sz mo (-2) rn od) = (lp_M_machine_ad26 np ns vdoes vgos vfrom vto vkind vtimes vcond vlev vask vcc vvar vleast vfirst vstep steps n 0 g2 lf pl cl sz mo 0 rn od) := by
  rw [lp_M_machine_ad26, if_pos rfl, if_neg (show ¬ (0 : Int32) < 0 by decide), if_pos rfl]
theorem mn_ad26 {steps : Int64} {n : Nat} {pp : Int32} {g2 : Nat → Int64} {lf pl cl : Nat → Int32} {sz mo rn : Int32} {od : Nat → Int32} (z1 : ¬ 0 < pp) (z2 : ¬ pp = 0) : (lp_M_machine_ad26 np ns vdoes vgos vfrom vto vkind vtimes vcond vlev vask vcc vvar vleast vfirst vstep steps (n + 1) pp g2 lf pl cl sz mo (-2) rn od) = (lp_M_machine_ad26 np ns vdoes vgos vfrom vto vkind vtimes vcond vlev vask vcc vvar vleast vfirst vstep steps n pp g2 lf pl cl sz mo ((-10) - pp) rn od) := by
  rw [lp_M_machine_ad26, if_pos rfl, if_neg z1, if_neg z2]
theorem ml_ad26 {steps : Int64} {n : Nat} {pp : Int32} {g2 : Nat → Int64} {lf pl cl : Nat → Int32} {sz mo rn : Int32} {od : Nat → Int32} (z1 : 0 < pp) (z2 : sp_M_isParagraph np pp = 0) : (lp_M_machine_ad26 np ns vdoes vgos vfrom vto vkind vtimes vcond vlev vask vcc vvar vleast vfirst vstep steps (n + 1) pp g2 lf pl cl sz mo (-2) rn od) = (lp_M_machine_ad26 np ns vdoes vgos vfrom vto vkind vtimes vcond vlev vask vcc vvar vleast vfirst vstep steps n pp g2 lf pl cl sz mo 3 rn od) := by
  rw [lp_M_machine_ad26, if_pos rfl, if_pos z1, if_pos z2]
theorem ms_ad26 {steps : Int64} {n : Nat} {pp : Int32} {g2 : Nat → Int64} {lf pl cl : Nat → Int32} {sz mo rn : Int32} {od : Nat → Int32} (z1 : 0 < pp) (z2 : ¬ sp_M_isParagraph np pp = 0) (cs : ¬ lg_cmp rn.toInt64 steps < 0) : (lp_M_machine_ad26 np ns vdoes vgos vfrom vto vkind vtimes vcond vlev vask vcc vvar vleast vfirst vstep steps (n + 1) pp g2 lf pl cl sz mo (-2) rn od) = (lp_M_machine_ad26 np ns vdoes vgos vfrom vto vkind vtimes vcond vlev vask vcc vvar vleast vfirst vstep steps n pp g2 lf pl cl sz mo 1 rn od) := by
  rw [lp_M_machine_ad26, if_pos rfl, if_pos z1, if_neg z2, if_neg cs]
theorem mg_ad26 {steps : Int64} {n : Nat} {pp : Int32} {g2 : Nat → Int64} {lf pl cl : Nat → Int32} {sz mo rn : Int32} {od : Nat → Int32} (z1 : 0 < pp) (z2 : ¬ sp_M_isParagraph np pp = 0) (cs : lg_cmp rn.toInt64 steps < 0) : (lp_M_machine_ad26 np ns vdoes vgos vfrom vto vkind vtimes vcond vlev vask vcc vvar vleast vfirst vstep steps (n + 1) pp g2 lf pl cl sz mo (-2) rn od) = (lp_M_machine_ad26 np ns vdoes vgos vfrom vto vkind vtimes vcond vlev vask vcc vvar vleast vfirst vstep steps n (sp_M_doing np ns sz g2 vdoes vgos vfrom vto vkind vtimes vcond vlev vask vcc vvar vleast vfirst vstep pl cl lf pp) (sp_M_doing_ad1 ns sz g2 vdoes vgos vfrom vto vkind vtimes vcond vlev vask vcc vvar vleast vfirst vstep pl cl lf pp) (sp_M_doing_ad21 ns sz g2 vdoes vgos vfrom vto vkind vtimes vcond vlev vask vcc vvar vleast vfirst vstep pl cl lf pp) (sp_M_doing_ad19 ns sz vdoes vkind vcond vlev pl pp) (sp_M_doing_ad20 ns sz vdoes vkind vcond vlev cl pp) (sp_M_doing_mo_22 ns sz g2 vdoes vgos vfrom vto vkind vtimes vcond vlev vask vcc vvar vleast vfirst vstep pl cl lf pp) (sp_M_doing_mo_23 ns sz mo g2 vdoes vfrom vkind vtimes vcond vlev vask vcc vvar vleast vfirst vstep pl lf pp) (-2) (rn + 1) (upd od rn.toNatClampNeg pp)) := by
  rw [lp_M_machine_ad26, if_pos rfl, if_pos z1, if_neg z2, if_pos cs]
theorem q_lf_a {Y ln : Int32} {steps : Int64} {n : Nat} {k : Int32} {g : Nat → Int64} {h hi : Int32} {ud pd : Nat → Int32} {lo : Nat → Option Nat} {rd : Nat → Int32}  {lf pl cl : Nat → Int32} {mo : Int32} {od : Nat → Int32} (hP : PRel np ns σ lo pd ud pl cl lf h) (hlo : ∀ k j : Nat, lo k = some j → (j : Int) < ns.toInt) (hpk : ∀ k : Nat, PN ns vfrom vkind vlev (pl k)) (hca : ∀ k : Nat, 0 ≤ (cl k).toInt ∧ (cl k).toInt ≤ 60) (hY : hi.toInt = max Y.toInt mo.toInt) (hk : 0 ≤ k.toInt) (hro : ∀ q : Nat, (q : Int) < k.toInt → rd q = od q) : LE9 np ns Y dd gd σ vdoes vgos vfrom vto vkind vtimes vcond vlev vask vcc vvar vleast vfirst vstep steps ln (n + 1) 0 k g h hi 0 ud pd lo rd (n + 1 + 1) 0 g lf pl cl h mo (-2) k od := by
  refine ⟨?_, ?_, ?_, ?_, ?_, ?_, ?_, ?_, ?_, ?_, ?_, ?_⟩
  · rw [t0, mz_mo_25, me_mo_25 (by decide)]
  · rw [t0_co_4, mz_mo_25, me_mo_25 (by decide)]
  · rw [t0_co_5, mz_mo_24, me_mo_24 (by decide)]
  · rw [t0_va, mz_ad1, me_ad1 (by decide)]
  · rw [t0_pi_3, mz_mo_22, me_mo_22 (by decide)]
  · rw [t0_pi_4, mz_mo_23, me_mo_23 (by decide)]
    exact hY
  · rw [t0_la, t0_pe, t0_tu, t0_pi_3, mz_ad19, me_ad19 (by decide), mz_ad20, me_ad20 (by decide), mz_ad21, me_ad21 (by decide)]
    exact hP
  · rw [t0_la]
    exact hlo
  · rw [mz_ad19, me_ad19 (by decide)]
    exact hpk
  · rw [mz_ad20, me_ad20 (by decide)]
    exact hca
  · rw [mz_mo_25, me_mo_25 (by decide)]
    exact ⟨hk, Int.le_max_left _ _⟩
  · rw [t0_ra, mz_mo_25, me_mo_25 (by decide), mz_ad26, me_ad26 (by decide)]
    exact hro
theorem q_lf_b {Y ln : Int32} {steps : Int64} {n : Nat} {k : Int32} {g : Nat → Int64} {h hi : Int32} {ud pd : Nat → Int32} {lo : Nat → Option Nat} {rd : Nat → Int32}  {lf pl cl : Nat → Int32} {mo : Int32} {od : Nat → Int32} (hP : PRel np ns σ lo pd ud pl cl lf h) (hlo : ∀ k j : Nat, lo k = some j → (j : Int) < ns.toInt) (hpk : ∀ k : Nat, PN ns vfrom vkind vlev (pl k)) (hca : ∀ k : Nat, 0 ≤ (cl k).toInt ∧ (cl k).toInt ≤ 60) (hY : hi.toInt = max Y.toInt mo.toInt) (hk : 0 ≤ k.toInt) (hro : ∀ q : Nat, (q : Int) < k.toInt → rd q = od q) : LE9 np ns Y dd gd σ vdoes vgos vfrom vto vkind vtimes vcond vlev vask vcc vvar vleast vfirst vstep steps ln (n + 1) 0 k g h hi 2 ud pd lo rd (n + 1 + 1) (-12) g lf pl cl h mo (-2) k od := by
  refine ⟨?_, ?_, ?_, ?_, ?_, ?_, ?_, ?_, ?_, ?_, ?_, ?_⟩
  · rw [t0, mn_mo_25 (by decide) (by decide), show (-10 : Int32) - (-12) = 2 by decide, me_mo_25 (by decide)]
  · rw [t0_co_4, mn_mo_25 (by decide) (by decide), show (-10 : Int32) - (-12) = 2 by decide, me_mo_25 (by decide)]
  · rw [t0_co_5, mn_mo_24 (by decide) (by decide), show (-10 : Int32) - (-12) = 2 by decide, me_mo_24 (by decide)]
  · rw [t0_va, mn_ad1 (by decide) (by decide), show (-10 : Int32) - (-12) = 2 by decide, me_ad1 (by decide)]
  · rw [t0_pi_3, mn_mo_22 (by decide) (by decide), show (-10 : Int32) - (-12) = 2 by decide, me_mo_22 (by decide)]
  · rw [t0_pi_4, mn_mo_23 (by decide) (by decide), show (-10 : Int32) - (-12) = 2 by decide, me_mo_23 (by decide)]
    exact hY
  · rw [t0_la, t0_pe, t0_tu, t0_pi_3, mn_ad19 (by decide) (by decide), show (-10 : Int32) - (-12) = 2 by decide, me_ad19 (by decide), mn_ad20 (by decide) (by decide), show (-10 : Int32) - (-12) = 2 by decide, me_ad20 (by decide), mn_ad21 (by decide) (by decide), show (-10 : Int32) - (-12) = 2 by decide, me_ad21 (by decide)]
    exact hP
  · rw [t0_la]
    exact hlo
  · rw [mn_ad19 (by decide) (by decide), show (-10 : Int32) - (-12) = 2 by decide, me_ad19 (by decide)]
    exact hpk
  · rw [mn_ad20 (by decide) (by decide), show (-10 : Int32) - (-12) = 2 by decide, me_ad20 (by decide)]
    exact hca
  · rw [mn_mo_25 (by decide) (by decide), show (-10 : Int32) - (-12) = 2 by decide, me_mo_25 (by decide)]
    exact ⟨hk, Int.le_max_left _ _⟩
  · rw [t0_ra, mn_mo_25 (by decide) (by decide), show (-10 : Int32) - (-12) = 2 by decide, me_mo_25 (by decide), mn_ad26 (by decide) (by decide), show (-10 : Int32) - (-12) = 2 by decide, me_ad26 (by decide)]
    exact hro
theorem q_lf_c {Y ln : Int32} {steps : Int64} {n : Nat} {k : Int32} {g : Nat → Int64} {h hi : Int32} {ud pd : Nat → Int32} {lo : Nat → Option Nat} {rd : Nat → Int32}  {lf pl cl : Nat → Int32} {mo : Int32} {od : Nat → Int32} (hP : PRel np ns σ lo pd ud pl cl lf h) (hlo : ∀ k j : Nat, lo k = some j → (j : Int) < ns.toInt) (hpk : ∀ k : Nat, PN ns vfrom vkind vlev (pl k)) (hca : ∀ k : Nat, 0 ≤ (cl k).toInt ∧ (cl k).toInt ≤ 60) (hY : hi.toInt = max Y.toInt mo.toInt) (hk : 0 ≤ k.toInt) (hro : ∀ q : Nat, (q : Int) < k.toInt → rd q = od q) : LE9 np ns Y dd gd σ vdoes vgos vfrom vto vkind vtimes vcond vlev vask vcc vvar vleast vfirst vstep steps ln (n + 1) 0 k g h hi 3 ud pd lo rd (n + 1 + 1) (-13) g lf pl cl h mo (-2) k od := by
  refine ⟨?_, ?_, ?_, ?_, ?_, ?_, ?_, ?_, ?_, ?_, ?_, ?_⟩
  · rw [t0, mn_mo_25 (by decide) (by decide), show (-10 : Int32) - (-13) = 3 by decide, me_mo_25 (by decide)]
  · rw [t0_co_4, mn_mo_25 (by decide) (by decide), show (-10 : Int32) - (-13) = 3 by decide, me_mo_25 (by decide)]
  · rw [t0_co_5, mn_mo_24 (by decide) (by decide), show (-10 : Int32) - (-13) = 3 by decide, me_mo_24 (by decide)]
  · rw [t0_va, mn_ad1 (by decide) (by decide), show (-10 : Int32) - (-13) = 3 by decide, me_ad1 (by decide)]
  · rw [t0_pi_3, mn_mo_22 (by decide) (by decide), show (-10 : Int32) - (-13) = 3 by decide, me_mo_22 (by decide)]
  · rw [t0_pi_4, mn_mo_23 (by decide) (by decide), show (-10 : Int32) - (-13) = 3 by decide, me_mo_23 (by decide)]
    exact hY
  · rw [t0_la, t0_pe, t0_tu, t0_pi_3, mn_ad19 (by decide) (by decide), show (-10 : Int32) - (-13) = 3 by decide, me_ad19 (by decide), mn_ad20 (by decide) (by decide), show (-10 : Int32) - (-13) = 3 by decide, me_ad20 (by decide), mn_ad21 (by decide) (by decide), show (-10 : Int32) - (-13) = 3 by decide, me_ad21 (by decide)]
    exact hP
  · rw [t0_la]
    exact hlo
  · rw [mn_ad19 (by decide) (by decide), show (-10 : Int32) - (-13) = 3 by decide, me_ad19 (by decide)]
    exact hpk
  · rw [mn_ad20 (by decide) (by decide), show (-10 : Int32) - (-13) = 3 by decide, me_ad20 (by decide)]
    exact hca
  · rw [mn_mo_25 (by decide) (by decide), show (-10 : Int32) - (-13) = 3 by decide, me_mo_25 (by decide)]
    exact ⟨hk, Int.le_max_left _ _⟩
  · rw [t0_ra, mn_mo_25 (by decide) (by decide), show (-10 : Int32) - (-13) = 3 by decide, me_mo_25 (by decide), mn_ad26 (by decide) (by decide), show (-10 : Int32) - (-13) = 3 by decide, me_ad26 (by decide)]
    exact hro
theorem q_lf_d {Y ln : Int32} {steps : Int64} {n : Nat} {k : Int32} {g : Nat → Int64} {h hi : Int32} {ud pd : Nat → Int32} {lo : Nat → Option Nat} {rd : Nat → Int32}  {lf pl cl : Nat → Int32} {mo : Int32} {od : Nat → Int32} (hP : PRel np ns σ lo pd ud pl cl lf h) (hlo : ∀ k j : Nat, lo k = some j → (j : Int) < ns.toInt) (hpk : ∀ k : Nat, PN ns vfrom vkind vlev (pl k)) (hca : ∀ k : Nat, 0 ≤ (cl k).toInt ∧ (cl k).toInt ≤ 60) (hY : hi.toInt = max Y.toInt mo.toInt) (hk : 0 ≤ k.toInt) (hro : ∀ q : Nat, (q : Int) < k.toInt → rd q = od q) : LE9 np ns Y dd gd σ vdoes vgos vfrom vto vkind vtimes vcond vlev vask vcc vvar vleast vfirst vstep steps ln (n + 1) 0 k g h hi 4 ud pd lo rd (n + 1 + 1) (-14) g lf pl cl h mo (-2) k od := by
  refine ⟨?_, ?_, ?_, ?_, ?_, ?_, ?_, ?_, ?_, ?_, ?_, ?_⟩
  · rw [t0, mn_mo_25 (by decide) (by decide), show (-10 : Int32) - (-14) = 4 by decide, me_mo_25 (by decide)]
  · rw [t0_co_4, mn_mo_25 (by decide) (by decide), show (-10 : Int32) - (-14) = 4 by decide, me_mo_25 (by decide)]
  · rw [t0_co_5, mn_mo_24 (by decide) (by decide), show (-10 : Int32) - (-14) = 4 by decide, me_mo_24 (by decide)]
  · rw [t0_va, mn_ad1 (by decide) (by decide), show (-10 : Int32) - (-14) = 4 by decide, me_ad1 (by decide)]
  · rw [t0_pi_3, mn_mo_22 (by decide) (by decide), show (-10 : Int32) - (-14) = 4 by decide, me_mo_22 (by decide)]
  · rw [t0_pi_4, mn_mo_23 (by decide) (by decide), show (-10 : Int32) - (-14) = 4 by decide, me_mo_23 (by decide)]
    exact hY
  · rw [t0_la, t0_pe, t0_tu, t0_pi_3, mn_ad19 (by decide) (by decide), show (-10 : Int32) - (-14) = 4 by decide, me_ad19 (by decide), mn_ad20 (by decide) (by decide), show (-10 : Int32) - (-14) = 4 by decide, me_ad20 (by decide), mn_ad21 (by decide) (by decide), show (-10 : Int32) - (-14) = 4 by decide, me_ad21 (by decide)]
    exact hP
  · rw [t0_la]
    exact hlo
  · rw [mn_ad19 (by decide) (by decide), show (-10 : Int32) - (-14) = 4 by decide, me_ad19 (by decide)]
    exact hpk
  · rw [mn_ad20 (by decide) (by decide), show (-10 : Int32) - (-14) = 4 by decide, me_ad20 (by decide)]
    exact hca
  · rw [mn_mo_25 (by decide) (by decide), show (-10 : Int32) - (-14) = 4 by decide, me_mo_25 (by decide)]
    exact ⟨hk, Int.le_max_left _ _⟩
  · rw [t0_ra, mn_mo_25 (by decide) (by decide), show (-10 : Int32) - (-14) = 4 by decide, me_mo_25 (by decide), mn_ad26 (by decide) (by decide), show (-10 : Int32) - (-14) = 4 by decide, me_ad26 (by decide)]
    exact hro
theorem q_lf_e {Y ln : Int32} {steps : Int64} {n : Nat} {k : Int32} {g : Nat → Int64} {h hi : Int32} {ud pd : Nat → Int32} {lo : Nat → Option Nat} {rd : Nat → Int32} {pp : Int32} {lf pl cl : Nat → Int32} {mo : Int32} {od : Nat → Int32} (z1 : 0 < pp) (z2 : sp_M_isParagraph np pp = 0) (hP : PRel np ns σ lo pd ud pl cl lf h) (hlo : ∀ k j : Nat, lo k = some j → (j : Int) < ns.toInt) (hpk : ∀ k : Nat, PN ns vfrom vkind vlev (pl k)) (hca : ∀ k : Nat, 0 ≤ (cl k).toInt ∧ (cl k).toInt ≤ 60) (hY : hi.toInt = max Y.toInt mo.toInt) (hk : 0 ≤ k.toInt) (hro : ∀ q : Nat, (q : Int) < k.toInt → rd q = od q) : LE9 np ns Y dd gd σ vdoes vgos vfrom vto vkind vtimes vcond vlev vask vcc vvar vleast vfirst vstep steps ln (n + 1) 0 k g h hi 3 ud pd lo rd (n + 1 + 1) pp g lf pl cl h mo (-2) k od := by
  refine ⟨?_, ?_, ?_, ?_, ?_, ?_, ?_, ?_, ?_, ?_, ?_, ?_⟩
  · rw [t0, ml_mo_25 z1 z2, me_mo_25 (by decide)]
  · rw [t0_co_4, ml_mo_25 z1 z2, me_mo_25 (by decide)]
  · rw [t0_co_5, ml_mo_24 z1 z2, me_mo_24 (by decide)]
  · rw [t0_va, ml_ad1 z1 z2, me_ad1 (by decide)]
  · rw [t0_pi_3, ml_mo_22 z1 z2, me_mo_22 (by decide)]
  · rw [t0_pi_4, ml_mo_23 z1 z2, me_mo_23 (by decide)]
    exact hY
  · rw [t0_la, t0_pe, t0_tu, t0_pi_3, ml_ad19 z1 z2, me_ad19 (by decide), ml_ad20 z1 z2, me_ad20 (by decide), ml_ad21 z1 z2, me_ad21 (by decide)]
    exact hP
  · rw [t0_la]
    exact hlo
  · rw [ml_ad19 z1 z2, me_ad19 (by decide)]
    exact hpk
  · rw [ml_ad20 z1 z2, me_ad20 (by decide)]
    exact hca
  · rw [ml_mo_25 z1 z2, me_mo_25 (by decide)]
    exact ⟨hk, Int.le_max_left _ _⟩
  · rw [t0_ra, ml_mo_25 z1 z2, me_mo_25 (by decide), ml_ad26 z1 z2, me_ad26 (by decide)]
    exact hro
theorem q_lf_f {Y ln : Int32} {steps : Int64} {n : Nat} {nx k : Int32} {g : Nat → Int64} {h hi en : Int32} {ud pd : Nat → Int32} {lo : Nat → Option Nat} {rd : Nat → Int32} {pp : Int32} {lf pl cl : Nat → Int32} {mo : Int32} {od : Nat → Int32} (z0 : ¬ nx = 0) (cs : 0 ≤ lg_cmp k.toInt64 steps) (z1 : 0 < pp) (z2 : ¬ sp_M_isParagraph np pp = 0) (cs2 : ¬ lg_cmp k.toInt64 steps < 0) (hP : PRel np ns σ lo pd ud pl cl lf h) (hlo : ∀ k j : Nat, lo k = some j → (j : Int) < ns.toInt) (hpk : ∀ k : Nat, PN ns vfrom vkind vlev (pl k)) (hca : ∀ k : Nat, 0 ≤ (cl k).toInt ∧ (cl k).toInt ≤ 60) (hY : hi.toInt = max Y.toInt mo.toInt) (hk : 0 ≤ k.toInt) (hro : ∀ q : Nat, (q : Int) < k.toInt → rd q = od q) : LE9 np ns Y dd gd σ vdoes vgos vfrom vto vkind vtimes vcond vlev vask vcc vvar vleast vfirst vstep steps ln (n + 1) nx k g h hi en ud pd lo rd (n + 1 + 1) pp g lf pl cl h mo (-2) k od := by
  refine ⟨?_, ?_, ?_, ?_, ?_, ?_, ?_, ?_, ?_, ?_, ?_, ?_⟩
  · rw [ts z0 cs, ms_mo_25 z1 z2 cs2, me_mo_25 (by decide)]
  · rw [ts_co_4 z0 cs, ms_mo_25 z1 z2 cs2, me_mo_25 (by decide)]
  · rw [ts_co_5 z0 cs, ms_mo_24 z1 z2 cs2, me_mo_24 (by decide)]
  · rw [ts_va z0 cs, ms_ad1 z1 z2 cs2, me_ad1 (by decide)]
  · rw [ts_pi_3 z0 cs, ms_mo_22 z1 z2 cs2, me_mo_22 (by decide)]
  · rw [ts_pi_4 z0 cs, ms_mo_23 z1 z2 cs2, me_mo_23 (by decide)]
    exact hY
  · rw [ts_la z0 cs, ts_pe z0 cs, ts_tu z0 cs, ts_pi_3 z0 cs, ms_ad19 z1 z2 cs2, me_ad19 (by decide), ms_ad20 z1 z2 cs2, me_ad20 (by decide), ms_ad21 z1 z2 cs2, me_ad21 (by decide)]
    exact hP
  · rw [ts_la z0 cs]
    exact hlo
  · rw [ms_ad19 z1 z2 cs2, me_ad19 (by decide)]
    exact hpk
  · rw [ms_ad20 z1 z2 cs2, me_ad20 (by decide)]
    exact hca
  · rw [ms_mo_25 z1 z2 cs2, me_mo_25 (by decide)]
    exact ⟨hk, Int.le_max_left _ _⟩
  · rw [ts_ra z0 cs, ms_mo_25 z1 z2 cs2, me_mo_25 (by decide), ms_ad26 z1 z2 cs2, me_ad26 (by decide)]
    exact hro
theorem q_st_0 {Y ln : Int32} {steps : Int64} {n m : Nat} {nx k : Int32} {g : Nat → Int64} {h hi en : Int32} {ud pd : Nat → Int32} {lo : Nat → Option Nat} {rd : Nat → Int32} {pp : Int32} {g2 : Nat → Int64} {lf pl cl : Nat → Int32} {sz mo rn : Int32} {od : Nat → Int32} (z0 : ¬ nx = 0) (cs : ¬ 0 ≤ lg_cmp k.toInt64 steps) (z1 : 0 < pp) (z2 : ¬ sp_M_isParagraph np pp = 0) (cs2 : lg_cmp rn.toInt64 steps < 0) (c1 : sp_performedBy np dd nx = -1) (c2 : sp_doing np dd g nx = -1) (nt : sp_note_ra rd k nx = upd rd k.toNatClampNeg nx) (hb : max (rn + 1).toInt steps.toInt ≤ max rn.toInt steps.toInt)
    (R : LE9 np ns Y dd gd σ vdoes vgos vfrom vto vkind vtimes vcond vlev vask vcc vvar vleast vfirst vstep steps ln n (lp_behindDoing np gd lo pd σ 101 nx 0 (sp_doing_va np dd g nx) h ud) (k + 1) (lp_behindDoing_va np gd lo pd σ 101 nx 0 (sp_doing_va np dd g nx) h ud) (lp_behindDoing_pi_3 np gd lo pd σ 101 nx 0 (sp_doing_va np dd g nx) h ud) hi (lp_behindDoing_co_5 (sp_doing_co_5 en np dd g nx) np gd lo pd σ 101 nx 0 (sp_doing_va np dd g nx) h ud) (lp_behindDoing_tu np gd lo pd σ 101 nx 0 (sp_doing_va np dd g nx) h ud) pd lo (upd rd k.toNatClampNeg nx) m (sp_M_doing np ns sz g2 vdoes vgos vfrom vto vkind vtimes vcond vlev vask vcc vvar vleast vfirst vstep pl cl lf pp) (sp_M_doing_ad1 ns sz g2 vdoes vgos vfrom vto vkind vtimes vcond vlev vask vcc vvar vleast vfirst vstep pl cl lf pp) (sp_M_doing_ad21 ns sz g2 vdoes vgos vfrom vto vkind vtimes vcond vlev vask vcc vvar vleast vfirst vstep pl cl lf pp) (sp_M_doing_ad19 ns sz vdoes vkind vcond vlev pl pp) (sp_M_doing_ad20 ns sz vdoes vkind vcond vlev cl pp) (sp_M_doing_mo_22 ns sz g2 vdoes vgos vfrom vto vkind vtimes vcond vlev vask vcc vvar vleast vfirst vstep pl cl lf pp) (sp_M_doing_mo_23 ns sz mo g2 vdoes vfrom vkind vtimes vcond vlev vask vcc vvar vleast vfirst vstep pl lf pp) (-2) (rn + 1) (upd od rn.toNatClampNeg pp)) : LE9 np ns Y dd gd σ vdoes vgos vfrom vto vkind vtimes vcond vlev vask vcc vvar vleast vfirst vstep steps ln (n + 1) nx k g h hi en ud pd lo rd (m + 1) pp g2 lf pl cl sz mo (-2) rn od := by
  obtain ⟨r1, r2, r3, r4, r5, r6, r7, r8, r9, r10, r11, r12⟩ := R
  refine ⟨?_, ?_, ?_, ?_, ?_, ?_, ?_, ?_, ?_, ?_, ?_, ?_⟩
  · rw [tb_0 z0 cs c1 c2, nt, mg_mo_25 z1 z2 cs2]
    exact r1
  · rw [tb_co_4_0 z0 cs c1 c2, nt, mg_mo_25 z1 z2 cs2]
    exact r2
  · rw [tb_co_5_0 z0 cs c1 c2, nt, mg_mo_24 z1 z2 cs2]
    exact r3
  · rw [tb_va_0 z0 cs c1 c2, nt, mg_ad1 z1 z2 cs2]
    exact r4
  · rw [tb_pi_3_0 z0 cs c1 c2, nt, mg_mo_22 z1 z2 cs2]
    exact r5
  · rw [tb_pi_4_0 z0 cs c1 c2, nt, mg_mo_23 z1 z2 cs2]
    exact r6
  · rw [tb_la_0 z0 cs c1 c2, nt, tb_pe_0 z0 cs c1 c2, nt, tb_tu_0 z0 cs c1 c2, nt, tb_pi_3_0 z0 cs c1 c2, nt, mg_ad19 z1 z2 cs2, mg_ad20 z1 z2 cs2, mg_ad21 z1 z2 cs2]
    exact r7
  · rw [tb_la_0 z0 cs c1 c2, nt]
    exact r8
  · rw [mg_ad19 z1 z2 cs2]
    exact r9
  · rw [mg_ad20 z1 z2 cs2]
    exact r10
  · rw [mg_mo_25 z1 z2 cs2]
    exact ⟨r11.1, Int.le_trans r11.2 hb⟩
  · rw [tb_ra_0 z0 cs c1 c2, nt, mg_mo_25 z1 z2 cs2, mg_ad26 z1 z2 cs2]
    exact r12
theorem q_st_1 {Y ln : Int32} {steps : Int64} {n m : Nat} {nx k : Int32} {g : Nat → Int64} {h hi en : Int32} {ud pd : Nat → Int32} {lo : Nat → Option Nat} {rd : Nat → Int32} {pp : Int32} {g2 : Nat → Int64} {lf pl cl : Nat → Int32} {sz mo rn : Int32} {od : Nat → Int32} (z0 : ¬ nx = 0) (cs : ¬ 0 ≤ lg_cmp k.toInt64 steps) (z1 : 0 < pp) (z2 : ¬ sp_M_isParagraph np pp = 0) (cs2 : lg_cmp rn.toInt64 steps < 0) (c1 : sp_performedBy np dd nx = -1) (c2 : ¬ sp_doing np dd g nx = -1) (nt : sp_note_ra rd k nx = upd rd k.toNatClampNeg nx) (hb : max (rn + 1).toInt steps.toInt ≤ max rn.toInt steps.toInt)
    (R : LE9 np ns Y dd gd σ vdoes vgos vfrom vto vkind vtimes vcond vlev vask vcc vvar vleast vfirst vstep steps ln n (sp_doing np dd g nx) (k + 1) (sp_doing_va np dd g nx) h hi (sp_doing_co_5 en np dd g nx) ud pd lo (upd rd k.toNatClampNeg nx) m (sp_M_doing np ns sz g2 vdoes vgos vfrom vto vkind vtimes vcond vlev vask vcc vvar vleast vfirst vstep pl cl lf pp) (sp_M_doing_ad1 ns sz g2 vdoes vgos vfrom vto vkind vtimes vcond vlev vask vcc vvar vleast vfirst vstep pl cl lf pp) (sp_M_doing_ad21 ns sz g2 vdoes vgos vfrom vto vkind vtimes vcond vlev vask vcc vvar vleast vfirst vstep pl cl lf pp) (sp_M_doing_ad19 ns sz vdoes vkind vcond vlev pl pp) (sp_M_doing_ad20 ns sz vdoes vkind vcond vlev cl pp) (sp_M_doing_mo_22 ns sz g2 vdoes vgos vfrom vto vkind vtimes vcond vlev vask vcc vvar vleast vfirst vstep pl cl lf pp) (sp_M_doing_mo_23 ns sz mo g2 vdoes vfrom vkind vtimes vcond vlev vask vcc vvar vleast vfirst vstep pl lf pp) (-2) (rn + 1) (upd od rn.toNatClampNeg pp)) : LE9 np ns Y dd gd σ vdoes vgos vfrom vto vkind vtimes vcond vlev vask vcc vvar vleast vfirst vstep steps ln (n + 1) nx k g h hi en ud pd lo rd (m + 1) pp g2 lf pl cl sz mo (-2) rn od := by
  obtain ⟨r1, r2, r3, r4, r5, r6, r7, r8, r9, r10, r11, r12⟩ := R
  refine ⟨?_, ?_, ?_, ?_, ?_, ?_, ?_, ?_, ?_, ?_, ?_, ?_⟩
  · rw [tb_1 z0 cs c1 c2, nt, mg_mo_25 z1 z2 cs2]
    exact r1
  · rw [tb_co_4_1 z0 cs c1 c2, nt, mg_mo_25 z1 z2 cs2]
    exact r2
  · rw [tb_co_5_1 z0 cs c1 c2, nt, mg_mo_24 z1 z2 cs2]
    exact r3
  · rw [tb_va_1 z0 cs c1 c2, nt, mg_ad1 z1 z2 cs2]
    exact r4
  · rw [tb_pi_3_1 z0 cs c1 c2, nt, mg_mo_22 z1 z2 cs2]
    exact r5
  · rw [tb_pi_4_1 z0 cs c1 c2, nt, mg_mo_23 z1 z2 cs2]
    exact r6
  · rw [tb_la_1 z0 cs c1 c2, nt, tb_pe_1 z0 cs c1 c2, nt, tb_tu_1 z0 cs c1 c2, nt, tb_pi_3_1 z0 cs c1 c2, nt, mg_ad19 z1 z2 cs2, mg_ad20 z1 z2 cs2, mg_ad21 z1 z2 cs2]
    exact r7
  · rw [tb_la_1 z0 cs c1 c2, nt]
    exact r8
  · rw [mg_ad19 z1 z2 cs2]
    exact r9
  · rw [mg_ad20 z1 z2 cs2]
    exact r10
  · rw [mg_mo_25 z1 z2 cs2]
    exact ⟨r11.1, Int.le_trans r11.2 hb⟩
  · rw [tb_ra_1 z0 cs c1 c2, nt, mg_mo_25 z1 z2 cs2, mg_ad26 z1 z2 cs2]
    exact r12
theorem q_st_2 {Y ln : Int32} {steps : Int64} {n m : Nat} {nx k : Int32} {g : Nat → Int64} {h hi en : Int32} {ud pd : Nat → Int32} {lo : Nat → Option Nat} {rd : Nat → Int32} {pp : Int32} {g2 : Nat → Int64} {lf pl cl : Nat → Int32} {sz mo rn : Int32} {od : Nat → Int32} (z0 : ¬ nx = 0) (cs : ¬ 0 ≤ lg_cmp k.toInt64 steps) (z1 : 0 < pp) (z2 : ¬ sp_M_isParagraph np pp = 0) (cs2 : lg_cmp rn.toInt64 steps < 0) (c1 : ¬ sp_performedBy np dd nx = -1) (c2 : sp_performing ns h g (sp_performedBy np dd nx) σ = -1) (nt : sp_note_ra rd k nx = upd rd k.toNatClampNeg nx) (hb : max (rn + 1).toInt steps.toInt ≤ max rn.toInt steps.toInt)
    (R : LE9 np ns Y dd gd σ vdoes vgos vfrom vto vkind vtimes vcond vlev vask vcc vvar vleast vfirst vstep steps ln n (lp_behindDoing np gd (sp_performing_la ns h lo (sp_performedBy np dd nx) σ) (sp_performing_pe ns h pd (sp_performedBy np dd nx) nx σ) σ 101 nx 0 (sp_performing_va ns h g (sp_performedBy np dd nx) σ) (sp_performing_pi_3 ns h g (sp_performedBy np dd nx) σ) (sp_performing_tu ns h ud (sp_performedBy np dd nx) σ)) (k + 1) (lp_behindDoing_va np gd (sp_performing_la ns h lo (sp_performedBy np dd nx) σ) (sp_performing_pe ns h pd (sp_performedBy np dd nx) nx σ) σ 101 nx 0 (sp_performing_va ns h g (sp_performedBy np dd nx) σ) (sp_performing_pi_3 ns h g (sp_performedBy np dd nx) σ) (sp_performing_tu ns h ud (sp_performedBy np dd nx) σ)) (lp_behindDoing_pi_3 np gd (sp_performing_la ns h lo (sp_performedBy np dd nx) σ) (sp_performing_pe ns h pd (sp_performedBy np dd nx) nx σ) σ 101 nx 0 (sp_performing_va ns h g (sp_performedBy np dd nx) σ) (sp_performing_pi_3 ns h g (sp_performedBy np dd nx) σ) (sp_performing_tu ns h ud (sp_performedBy np dd nx) σ)) (sp_performing_pi_4 ns h hi g (sp_performedBy np dd nx) σ) (lp_behindDoing_co_5 (sp_performing_co_5 en ns h (sp_performedBy np dd nx) σ) np gd (sp_performing_la ns h lo (sp_performedBy np dd nx) σ) (sp_performing_pe ns h pd (sp_performedBy np dd nx) nx σ) σ 101 nx 0 (sp_performing_va ns h g (sp_performedBy np dd nx) σ) (sp_performing_pi_3 ns h g (sp_performedBy np dd nx) σ) (sp_performing_tu ns h ud (sp_performedBy np dd nx) σ)) (lp_behindDoing_tu np gd (sp_performing_la ns h lo (sp_performedBy np dd nx) σ) (sp_performing_pe ns h pd (sp_performedBy np dd nx) nx σ) σ 101 nx 0 (sp_performing_va ns h g (sp_performedBy np dd nx) σ) (sp_performing_pi_3 ns h g (sp_performedBy np dd nx) σ) (sp_performing_tu ns h ud (sp_performedBy np dd nx) σ)) (sp_performing_pe ns h pd (sp_performedBy np dd nx) nx σ) (sp_performing_la ns h lo (sp_performedBy np dd nx) σ) (upd rd k.toNatClampNeg nx) m (sp_M_doing np ns sz g2 vdoes vgos vfrom vto vkind vtimes vcond vlev vask vcc vvar vleast vfirst vstep pl cl lf pp) (sp_M_doing_ad1 ns sz g2 vdoes vgos vfrom vto vkind vtimes vcond vlev vask vcc vvar vleast vfirst vstep pl cl lf pp) (sp_M_doing_ad21 ns sz g2 vdoes vgos vfrom vto vkind vtimes vcond vlev vask vcc vvar vleast vfirst vstep pl cl lf pp) (sp_M_doing_ad19 ns sz vdoes vkind vcond vlev pl pp) (sp_M_doing_ad20 ns sz vdoes vkind vcond vlev cl pp) (sp_M_doing_mo_22 ns sz g2 vdoes vgos vfrom vto vkind vtimes vcond vlev vask vcc vvar vleast vfirst vstep pl cl lf pp) (sp_M_doing_mo_23 ns sz mo g2 vdoes vfrom vkind vtimes vcond vlev vask vcc vvar vleast vfirst vstep pl lf pp) (-2) (rn + 1) (upd od rn.toNatClampNeg pp)) : LE9 np ns Y dd gd σ vdoes vgos vfrom vto vkind vtimes vcond vlev vask vcc vvar vleast vfirst vstep steps ln (n + 1) nx k g h hi en ud pd lo rd (m + 1) pp g2 lf pl cl sz mo (-2) rn od := by
  obtain ⟨r1, r2, r3, r4, r5, r6, r7, r8, r9, r10, r11, r12⟩ := R
  refine ⟨?_, ?_, ?_, ?_, ?_, ?_, ?_, ?_, ?_, ?_, ?_, ?_⟩
  · rw [tb_2 z0 cs c1 c2, nt, mg_mo_25 z1 z2 cs2]
    exact r1
  · rw [tb_co_4_2 z0 cs c1 c2, nt, mg_mo_25 z1 z2 cs2]
    exact r2
  · rw [tb_co_5_2 z0 cs c1 c2, nt, mg_mo_24 z1 z2 cs2]
    exact r3
  · rw [tb_va_2 z0 cs c1 c2, nt, mg_ad1 z1 z2 cs2]
    exact r4
  · rw [tb_pi_3_2 z0 cs c1 c2, nt, mg_mo_22 z1 z2 cs2]
    exact r5
  · rw [tb_pi_4_2 z0 cs c1 c2, nt, mg_mo_23 z1 z2 cs2]
    exact r6
  · rw [tb_la_2 z0 cs c1 c2, nt, tb_pe_2 z0 cs c1 c2, nt, tb_tu_2 z0 cs c1 c2, nt, tb_pi_3_2 z0 cs c1 c2, nt, mg_ad19 z1 z2 cs2, mg_ad20 z1 z2 cs2, mg_ad21 z1 z2 cs2]
    exact r7
  · rw [tb_la_2 z0 cs c1 c2, nt]
    exact r8
  · rw [mg_ad19 z1 z2 cs2]
    exact r9
  · rw [mg_ad20 z1 z2 cs2]
    exact r10
  · rw [mg_mo_25 z1 z2 cs2]
    exact ⟨r11.1, Int.le_trans r11.2 hb⟩
  · rw [tb_ra_2 z0 cs c1 c2, nt, mg_mo_25 z1 z2 cs2, mg_ad26 z1 z2 cs2]
    exact r12
theorem q_st_3 {Y ln : Int32} {steps : Int64} {n m : Nat} {nx k : Int32} {g : Nat → Int64} {h hi en : Int32} {ud pd : Nat → Int32} {lo : Nat → Option Nat} {rd : Nat → Int32} {pp : Int32} {g2 : Nat → Int64} {lf pl cl : Nat → Int32} {sz mo rn : Int32} {od : Nat → Int32} (z0 : ¬ nx = 0) (cs : ¬ 0 ≤ lg_cmp k.toInt64 steps) (z1 : 0 < pp) (z2 : ¬ sp_M_isParagraph np pp = 0) (cs2 : lg_cmp rn.toInt64 steps < 0) (c1 : ¬ sp_performedBy np dd nx = -1) (c2 : ¬ sp_performing ns h g (sp_performedBy np dd nx) σ = -1) (nt : sp_note_ra rd k nx = upd rd k.toNatClampNeg nx) (hb : max (rn + 1).toInt steps.toInt ≤ max rn.toInt steps.toInt)
    (R : LE9 np ns Y dd gd σ vdoes vgos vfrom vto vkind vtimes vcond vlev vask vcc vvar vleast vfirst vstep steps ln n (sp_performing ns h g (sp_performedBy np dd nx) σ) (k + 1) (sp_performing_va ns h g (sp_performedBy np dd nx) σ) (sp_performing_pi_3 ns h g (sp_performedBy np dd nx) σ) (sp_performing_pi_4 ns h hi g (sp_performedBy np dd nx) σ) (sp_performing_co_5 en ns h (sp_performedBy np dd nx) σ) (sp_performing_tu ns h ud (sp_performedBy np dd nx) σ) (sp_performing_pe ns h pd (sp_performedBy np dd nx) nx σ) (sp_performing_la ns h lo (sp_performedBy np dd nx) σ) (upd rd k.toNatClampNeg nx) m (sp_M_doing np ns sz g2 vdoes vgos vfrom vto vkind vtimes vcond vlev vask vcc vvar vleast vfirst vstep pl cl lf pp) (sp_M_doing_ad1 ns sz g2 vdoes vgos vfrom vto vkind vtimes vcond vlev vask vcc vvar vleast vfirst vstep pl cl lf pp) (sp_M_doing_ad21 ns sz g2 vdoes vgos vfrom vto vkind vtimes vcond vlev vask vcc vvar vleast vfirst vstep pl cl lf pp) (sp_M_doing_ad19 ns sz vdoes vkind vcond vlev pl pp) (sp_M_doing_ad20 ns sz vdoes vkind vcond vlev cl pp) (sp_M_doing_mo_22 ns sz g2 vdoes vgos vfrom vto vkind vtimes vcond vlev vask vcc vvar vleast vfirst vstep pl cl lf pp) (sp_M_doing_mo_23 ns sz mo g2 vdoes vfrom vkind vtimes vcond vlev vask vcc vvar vleast vfirst vstep pl lf pp) (-2) (rn + 1) (upd od rn.toNatClampNeg pp)) : LE9 np ns Y dd gd σ vdoes vgos vfrom vto vkind vtimes vcond vlev vask vcc vvar vleast vfirst vstep steps ln (n + 1) nx k g h hi en ud pd lo rd (m + 1) pp g2 lf pl cl sz mo (-2) rn od := by
  obtain ⟨r1, r2, r3, r4, r5, r6, r7, r8, r9, r10, r11, r12⟩ := R
  refine ⟨?_, ?_, ?_, ?_, ?_, ?_, ?_, ?_, ?_, ?_, ?_, ?_⟩
  · rw [tb_3 z0 cs c1 c2, nt, mg_mo_25 z1 z2 cs2]
    exact r1
  · rw [tb_co_4_3 z0 cs c1 c2, nt, mg_mo_25 z1 z2 cs2]
    exact r2
  · rw [tb_co_5_3 z0 cs c1 c2, nt, mg_mo_24 z1 z2 cs2]
    exact r3
  · rw [tb_va_3 z0 cs c1 c2, nt, mg_ad1 z1 z2 cs2]
    exact r4
  · rw [tb_pi_3_3 z0 cs c1 c2, nt, mg_mo_22 z1 z2 cs2]
    exact r5
  · rw [tb_pi_4_3 z0 cs c1 c2, nt, mg_mo_23 z1 z2 cs2]
    exact r6
  · rw [tb_la_3 z0 cs c1 c2, nt, tb_pe_3 z0 cs c1 c2, nt, tb_tu_3 z0 cs c1 c2, nt, tb_pi_3_3 z0 cs c1 c2, nt, mg_ad19 z1 z2 cs2, mg_ad20 z1 z2 cs2, mg_ad21 z1 z2 cs2]
    exact r7
  · rw [tb_la_3 z0 cs c1 c2, nt]
    exact r8
  · rw [mg_ad19 z1 z2 cs2]
    exact r9
  · rw [mg_ad20 z1 z2 cs2]
    exact r10
  · rw [mg_mo_25 z1 z2 cs2]
    exact ⟨r11.1, Int.le_trans r11.2 hb⟩
  · rw [tb_ra_3 z0 cs c1 c2, nt, mg_mo_25 z1 z2 cs2, mg_ad26 z1 z2 cs2]
    exact r12
set_option maxHeartbeats 2000000 in
theorem q_loop (HG : PRG np ns dd gd σ vdoes vgos vfrom vto vkind vtimes vcond vlev vask vcc vvar vleast vfirst vstep) {Y ln : Int32} {steps : Int64} (hst : steps.toInt ≤ 4096) : ∀ (n : Nat) (nx k : Int32) (g : Nat → Int64) (h hi en : Int32) (ud pd : Nat → Int32) (lo : Nat → Option Nat) (rd : Nat → Int32) (pp : Int32) (g2 : Nat → Int64) (lf pl cl : Nat → Int32) (sz mo : Int32) (od : Nat → Int32), 0 ≤ k.toInt → steps.toInt ≤ k.toInt + n → k.toInt ≤ 4096 → (∀ q : Nat, (q : Int) < k.toInt → rd q = od q) → IV np ns Y σ vfrom vkind vlev nx en g h hi ud pd lo pp g2 sz mo pl cl lf → LE9 np ns Y dd gd σ vdoes vgos vfrom vto vkind vtimes vcond vlev vask vcc vvar vleast vfirst vstep steps ln (n + 1) nx k g h hi en ud pd lo rd (n + 1 + 1) pp g2 lf pl cl sz mo (-2) k od := by
  obtain ⟨⟨hn0, hn6, hs0, hs6⟩, hpar, hsta⟩ := id HG
  intro n
  induction n with
  | zero =>
    intro nx k g h hi en ud pd lo rd pp g2 lf pl cl sz mo od hk hsk hk4 hro hI
    obtain ⟨⟨hN, hg, hh, hP, hY, hr1⟩, hlo, hpk, hca⟩ := hI
    subst hg
    subst hh
    have k64 : k.toInt64.toInt = k.toInt := Int32.toInt_toInt64 k
    rcases hN with ⟨n1, n2, n3⟩ | ⟨n1, hrest⟩
    · subst n3
      have z0 : ¬ nx = 0 := i_ne (k := 0) rfl (by omega)
      have z1 : 0 < nx := i_gt (k := 0) rfl (by omega)
      have z2 : ¬ sp_M_isParagraph np nx = 0 := fun e => n2 ((q_isPar hn6).mp e)
      by_cases cs : 0 ≤ lg_cmp k.toInt64 steps
      · have cs2 : ¬ lg_cmp k.toInt64 steps < 0 := fun e => by have a1 := (lg_cmp_lt _ _).mp e; have a2 := (lg_cmp_ge _ _).mp cs; exact absurd a1 (Int64.not_lt.mpr a2)
        exact q_lf_f z0 cs z1 z2 cs2 hP hlo hpk hca hY hk hro
      · exfalso
        apply cs
        refine (lg_cmp_ge _ _).mpr (Int64.le_iff_toInt_le.mpr ?_)
        rw [k64]
        omega
    · subst n1
      rcases hrest with ⟨p1, p2⟩ | ⟨p1, p2⟩ | ⟨p1, p2⟩ | ⟨p1, p2⟩ | ⟨p1, p3, p2⟩
      · have pe : pp = (0) := i_eq (k := (0)) rfl p1
        have ee : en = 0 := i_eq (k := 0) rfl p2
        subst pe
        subst ee
        exact q_lf_a hP hlo hpk hca hY hk hro
      · have pe : pp = (-12) := i_eq (k := (-12)) rfl p1
        have ee : en = 2 := i_eq (k := 2) rfl p2
        subst pe
        subst ee
        exact q_lf_b hP hlo hpk hca hY hk hro
      · have pe : pp = (-13) := i_eq (k := (-13)) rfl p1
        have ee : en = 3 := i_eq (k := 3) rfl p2
        subst pe
        subst ee
        exact q_lf_c hP hlo hpk hca hY hk hro
      · have pe : pp = (-14) := i_eq (k := (-14)) rfl p1
        have ee : en = 4 := i_eq (k := 4) rfl p2
        subst pe
        subst ee
        exact q_lf_d hP hlo hpk hca hY hk hro
      · have ee : en = 3 := i_eq (k := 3) rfl p2
        subst ee
        exact q_lf_e (i_gt (k := 0) rfl (by omega)) ((q_isPar hn6).mpr p3) hP hlo hpk hca hY hk hro
  | succ n ih =>
    intro nx k g h hi en ud pd lo rd pp g2 lf pl cl sz mo od hk hsk hk4 hro hI
    obtain ⟨⟨hN, hg, hh, hP, hY, hr1⟩, hlo, hpk, hca⟩ := hI
    subst hg
    subst hh
    have k64 : k.toInt64.toInt = k.toInt := Int32.toInt_toInt64 k
    rcases hN with ⟨n1, n2, n3⟩ | ⟨n1, hrest⟩
    · subst n3
      have z0 : ¬ nx = 0 := i_ne (k := 0) rfl (by omega)
      have z1 : 0 < nx := i_gt (k := 0) rfl (by omega)
      have z2 : ¬ sp_M_isParagraph np nx = 0 := fun e => n2 ((q_isPar hn6).mp e)
      by_cases cs : 0 ≤ lg_cmp k.toInt64 steps
      · have cs2 : ¬ lg_cmp k.toInt64 steps < 0 := fun e => by have a1 := (lg_cmp_lt _ _).mp e; have a2 := (lg_cmp_ge _ _).mp cs; exact absurd a1 (Int64.not_lt.mpr a2)
        exact q_lf_f z0 cs z1 z2 cs2 hP hlo hpk hca hY hk hro
      · have cs3 : ¬ steps.toInt ≤ k.toInt64.toInt := fun e => cs ((lg_cmp_ge _ _).mpr (Int64.le_iff_toInt_le.mpr e))
        have cs2 : lg_cmp k.toInt64 steps < 0 := (lg_cmp_lt _ _).mpr (Int64.lt_iff_toInt_lt.mpr (by omega))
        rw [k64] at cs3
        have ka : (k + 1).toInt = k.toInt + 1 := i32_add1 (by omega)
        have x3 := isPar_ne n2
        have ckk := clampI (x := k) hk
        have nt : sp_note_ra rd k nx = upd rd k.toNatClampNeg nx := by rw [sp_note_ra, if_neg (i_nlt (k := 0) rfl hk), if_neg (i_nge (k := 4096) rfl (by omega))]
        have hro2 : ∀ q : Nat, (q : Int) < (k + 1).toInt → upd rd k.toNatClampNeg nx q = upd od k.toNatClampNeg nx q := by
          intro q hq
          by_cases cq : q = k.toNatClampNeg
          · rw [cq, pk_us, pk_us]
          · rw [pk_un cq, pk_un cq]
            exact hro q (by omega)
        have y2 : 0 ≤ nx.toInt ∧ nx.toInt ≤ 60 := ⟨by omega, by omega⟩
        have s1 : 0 ≤ (k + 1).toInt := by omega
        have s2 : steps.toInt ≤ (k + 1).toInt + n := by omega
        have s3 : (k + 1).toInt ≤ 4096 := by omega
        have s4 : max (k + 1).toInt steps.toInt ≤ max k.toInt steps.toInt := by omega
        obtain ⟨Q1, Q2⟩ := q_step HG (h := h) (hi := hi) (mo := mo) (Y := Y) en g hP hY (hr1 z0) n2
        have pk2 := q_pk_doing HG (h := h) (x := nx) hpk
        have ca2 := q_ca_doing (ns := ns) (h := h) (vdoes := vdoes) (vkind := vkind) (vcond := vcond) (vlev := vlev) y2 hca
        by_cases c1 : sp_performedBy np dd nx = -1
        · by_cases c2 : sp_doing np dd g nx = -1
          · have R := ih _ (k + 1) _ _ _ _ _ _ _ (upd rd k.toNatClampNeg nx) _ _ _ _ _ _ _ (upd od k.toNatClampNeg nx) s1 s2 s3 hro2 ⟨(Q1 c1).1 c2, hlo, pk2, ca2⟩
            exact q_st_0 z0 cs z1 z2 cs2 c1 c2 nt s4 R
          · have R := ih _ (k + 1) _ _ _ _ _ _ _ (upd rd k.toNatClampNeg nx) _ _ _ _ _ _ _ (upd od k.toNatClampNeg nx) s1 s2 s3 hro2 ⟨(Q1 c1).2 c2, hlo, pk2, ca2⟩
            exact q_st_1 z0 cs z1 z2 cs2 c1 c2 nt s4 R
        · by_cases c2 : sp_performing ns h g (sp_performedBy np dd nx) σ = -1
          · have R := ih _ (k + 1) _ _ _ _ _ _ _ (upd rd k.toNatClampNeg nx) _ _ _ _ _ _ _ (upd od k.toNatClampNeg nx) s1 s2 s3 hro2 ⟨(Q2 c1).1 c2, q_la_ok HG hlo, pk2, ca2⟩
            exact q_st_2 z0 cs z1 z2 cs2 c1 c2 nt s4 R
          · have R := ih _ (k + 1) _ _ _ _ _ _ _ (upd rd k.toNatClampNeg nx) _ _ _ _ _ _ _ (upd od k.toNatClampNeg nx) s1 s2 s3 hro2 ⟨(Q2 c1).2 c2, q_la_ok HG hlo, pk2, ca2⟩
            exact q_st_3 z0 cs z1 z2 cs2 c1 c2 nt s4 R
    · subst n1
      rcases hrest with ⟨p1, p2⟩ | ⟨p1, p2⟩ | ⟨p1, p2⟩ | ⟨p1, p2⟩ | ⟨p1, p3, p2⟩
      · have pe : pp = (0) := i_eq (k := (0)) rfl p1
        have ee : en = 0 := i_eq (k := 0) rfl p2
        subst pe
        subst ee
        exact q_lf_a hP hlo hpk hca hY hk hro
      · have pe : pp = (-12) := i_eq (k := (-12)) rfl p1
        have ee : en = 2 := i_eq (k := 2) rfl p2
        subst pe
        subst ee
        exact q_lf_b hP hlo hpk hca hY hk hro
      · have pe : pp = (-13) := i_eq (k := (-13)) rfl p1
        have ee : en = 3 := i_eq (k := 3) rfl p2
        subst pe
        subst ee
        exact q_lf_c hP hlo hpk hca hY hk hro
      · have pe : pp = (-14) := i_eq (k := (-14)) rfl p1
        have ee : en = 4 := i_eq (k := 4) rfl p2
        subst pe
        subst ee
        exact q_lf_d hP hlo hpk hca hY hk hro
      · have ee : en = 3 := i_eq (k := 3) rfl p2
        subst ee
        exact q_lf_e (i_gt (k := 0) rfl (by omega)) ((q_isPar hn6).mpr p3) hP hlo hpk hca hY hk hro
theorem q_lf0_a {Y ln : Int32} {steps : Int64} {n : Nat} {k : Int32} {g : Nat → Int64} {h hi : Int32} {ud pd : Nat → Int32} {lo : Nat → Option Nat} {rd : Nat → Int32}  {lf pl cl : Nat → Int32} {mo : Int32} {od : Nat → Int32} (hP : PRel np ns σ lo pd ud pl cl lf h) (hlo : ∀ k j : Nat, lo k = some j → (j : Int) < ns.toInt) (hpk : ∀ k : Nat, PN ns vfrom vkind vlev (pl k)) (hca : ∀ k : Nat, 0 ≤ (cl k).toInt ∧ (cl k).toInt ≤ 60) (hY : hi.toInt = max Y.toInt mo.toInt) (hk : 0 ≤ k.toInt) : LE90 np ns Y dd gd σ vdoes vgos vfrom vto vkind vtimes vcond vlev vask vcc vvar vleast vfirst vstep steps ln (n + 1) 0 k g h hi 0 ud pd lo rd (n + 1 + 1) 0 g lf pl cl h mo (-2) k od := by
  refine ⟨?_, ?_, ?_, ?_, ?_, ?_, ?_, ?_, ?_, ?_, ?_⟩
  · rw [t00, mz_mo_25, me_mo_25 (by decide)]
  · rw [t00_co_4, mz_mo_25, me_mo_25 (by decide)]
  · rw [t00_co_5, mz_mo_24, me_mo_24 (by decide)]
  · rw [t00_va, mz_ad1, me_ad1 (by decide)]
  · rw [t00_pi_3, mz_mo_22, me_mo_22 (by decide)]
  · rw [t00_pi_4, mz_mo_23, me_mo_23 (by decide)]
    exact hY
  · rw [t00_la, t00_pe, t00_tu, t00_pi_3, mz_ad19, me_ad19 (by decide), mz_ad20, me_ad20 (by decide), mz_ad21, me_ad21 (by decide)]
    exact hP
  · rw [t00_la]
    exact hlo
  · rw [mz_ad19, me_ad19 (by decide)]
    exact hpk
  · rw [mz_ad20, me_ad20 (by decide)]
    exact hca
  · rw [mz_mo_25, me_mo_25 (by decide)]
    exact ⟨hk, Int.le_max_left _ _⟩
theorem q_lf0_b {Y ln : Int32} {steps : Int64} {n : Nat} {k : Int32} {g : Nat → Int64} {h hi : Int32} {ud pd : Nat → Int32} {lo : Nat → Option Nat} {rd : Nat → Int32}  {lf pl cl : Nat → Int32} {mo : Int32} {od : Nat → Int32} (hP : PRel np ns σ lo pd ud pl cl lf h) (hlo : ∀ k j : Nat, lo k = some j → (j : Int) < ns.toInt) (hpk : ∀ k : Nat, PN ns vfrom vkind vlev (pl k)) (hca : ∀ k : Nat, 0 ≤ (cl k).toInt ∧ (cl k).toInt ≤ 60) (hY : hi.toInt = max Y.toInt mo.toInt) (hk : 0 ≤ k.toInt) : LE90 np ns Y dd gd σ vdoes vgos vfrom vto vkind vtimes vcond vlev vask vcc vvar vleast vfirst vstep steps ln (n + 1) 0 k g h hi 2 ud pd lo rd (n + 1 + 1) (-12) g lf pl cl h mo (-2) k od := by
  refine ⟨?_, ?_, ?_, ?_, ?_, ?_, ?_, ?_, ?_, ?_, ?_⟩
  · rw [t00, mn_mo_25 (by decide) (by decide), show (-10 : Int32) - (-12) = 2 by decide, me_mo_25 (by decide)]
  · rw [t00_co_4, mn_mo_25 (by decide) (by decide), show (-10 : Int32) - (-12) = 2 by decide, me_mo_25 (by decide)]
  · rw [t00_co_5, mn_mo_24 (by decide) (by decide), show (-10 : Int32) - (-12) = 2 by decide, me_mo_24 (by decide)]
  · rw [t00_va, mn_ad1 (by decide) (by decide), show (-10 : Int32) - (-12) = 2 by decide, me_ad1 (by decide)]
  · rw [t00_pi_3, mn_mo_22 (by decide) (by decide), show (-10 : Int32) - (-12) = 2 by decide, me_mo_22 (by decide)]
  · rw [t00_pi_4, mn_mo_23 (by decide) (by decide), show (-10 : Int32) - (-12) = 2 by decide, me_mo_23 (by decide)]
    exact hY
  · rw [t00_la, t00_pe, t00_tu, t00_pi_3, mn_ad19 (by decide) (by decide), show (-10 : Int32) - (-12) = 2 by decide, me_ad19 (by decide), mn_ad20 (by decide) (by decide), show (-10 : Int32) - (-12) = 2 by decide, me_ad20 (by decide), mn_ad21 (by decide) (by decide), show (-10 : Int32) - (-12) = 2 by decide, me_ad21 (by decide)]
    exact hP
  · rw [t00_la]
    exact hlo
  · rw [mn_ad19 (by decide) (by decide), show (-10 : Int32) - (-12) = 2 by decide, me_ad19 (by decide)]
    exact hpk
  · rw [mn_ad20 (by decide) (by decide), show (-10 : Int32) - (-12) = 2 by decide, me_ad20 (by decide)]
    exact hca
  · rw [mn_mo_25 (by decide) (by decide), show (-10 : Int32) - (-12) = 2 by decide, me_mo_25 (by decide)]
    exact ⟨hk, Int.le_max_left _ _⟩
theorem q_lf0_c {Y ln : Int32} {steps : Int64} {n : Nat} {k : Int32} {g : Nat → Int64} {h hi : Int32} {ud pd : Nat → Int32} {lo : Nat → Option Nat} {rd : Nat → Int32}  {lf pl cl : Nat → Int32} {mo : Int32} {od : Nat → Int32} (hP : PRel np ns σ lo pd ud pl cl lf h) (hlo : ∀ k j : Nat, lo k = some j → (j : Int) < ns.toInt) (hpk : ∀ k : Nat, PN ns vfrom vkind vlev (pl k)) (hca : ∀ k : Nat, 0 ≤ (cl k).toInt ∧ (cl k).toInt ≤ 60) (hY : hi.toInt = max Y.toInt mo.toInt) (hk : 0 ≤ k.toInt) : LE90 np ns Y dd gd σ vdoes vgos vfrom vto vkind vtimes vcond vlev vask vcc vvar vleast vfirst vstep steps ln (n + 1) 0 k g h hi 3 ud pd lo rd (n + 1 + 1) (-13) g lf pl cl h mo (-2) k od := by
  refine ⟨?_, ?_, ?_, ?_, ?_, ?_, ?_, ?_, ?_, ?_, ?_⟩
  · rw [t00, mn_mo_25 (by decide) (by decide), show (-10 : Int32) - (-13) = 3 by decide, me_mo_25 (by decide)]
  · rw [t00_co_4, mn_mo_25 (by decide) (by decide), show (-10 : Int32) - (-13) = 3 by decide, me_mo_25 (by decide)]
  · rw [t00_co_5, mn_mo_24 (by decide) (by decide), show (-10 : Int32) - (-13) = 3 by decide, me_mo_24 (by decide)]
  · rw [t00_va, mn_ad1 (by decide) (by decide), show (-10 : Int32) - (-13) = 3 by decide, me_ad1 (by decide)]
  · rw [t00_pi_3, mn_mo_22 (by decide) (by decide), show (-10 : Int32) - (-13) = 3 by decide, me_mo_22 (by decide)]
  · rw [t00_pi_4, mn_mo_23 (by decide) (by decide), show (-10 : Int32) - (-13) = 3 by decide, me_mo_23 (by decide)]
    exact hY
  · rw [t00_la, t00_pe, t00_tu, t00_pi_3, mn_ad19 (by decide) (by decide), show (-10 : Int32) - (-13) = 3 by decide, me_ad19 (by decide), mn_ad20 (by decide) (by decide), show (-10 : Int32) - (-13) = 3 by decide, me_ad20 (by decide), mn_ad21 (by decide) (by decide), show (-10 : Int32) - (-13) = 3 by decide, me_ad21 (by decide)]
    exact hP
  · rw [t00_la]
    exact hlo
  · rw [mn_ad19 (by decide) (by decide), show (-10 : Int32) - (-13) = 3 by decide, me_ad19 (by decide)]
    exact hpk
  · rw [mn_ad20 (by decide) (by decide), show (-10 : Int32) - (-13) = 3 by decide, me_ad20 (by decide)]
    exact hca
  · rw [mn_mo_25 (by decide) (by decide), show (-10 : Int32) - (-13) = 3 by decide, me_mo_25 (by decide)]
    exact ⟨hk, Int.le_max_left _ _⟩
theorem q_lf0_d {Y ln : Int32} {steps : Int64} {n : Nat} {k : Int32} {g : Nat → Int64} {h hi : Int32} {ud pd : Nat → Int32} {lo : Nat → Option Nat} {rd : Nat → Int32}  {lf pl cl : Nat → Int32} {mo : Int32} {od : Nat → Int32} (hP : PRel np ns σ lo pd ud pl cl lf h) (hlo : ∀ k j : Nat, lo k = some j → (j : Int) < ns.toInt) (hpk : ∀ k : Nat, PN ns vfrom vkind vlev (pl k)) (hca : ∀ k : Nat, 0 ≤ (cl k).toInt ∧ (cl k).toInt ≤ 60) (hY : hi.toInt = max Y.toInt mo.toInt) (hk : 0 ≤ k.toInt) : LE90 np ns Y dd gd σ vdoes vgos vfrom vto vkind vtimes vcond vlev vask vcc vvar vleast vfirst vstep steps ln (n + 1) 0 k g h hi 4 ud pd lo rd (n + 1 + 1) (-14) g lf pl cl h mo (-2) k od := by
  refine ⟨?_, ?_, ?_, ?_, ?_, ?_, ?_, ?_, ?_, ?_, ?_⟩
  · rw [t00, mn_mo_25 (by decide) (by decide), show (-10 : Int32) - (-14) = 4 by decide, me_mo_25 (by decide)]
  · rw [t00_co_4, mn_mo_25 (by decide) (by decide), show (-10 : Int32) - (-14) = 4 by decide, me_mo_25 (by decide)]
  · rw [t00_co_5, mn_mo_24 (by decide) (by decide), show (-10 : Int32) - (-14) = 4 by decide, me_mo_24 (by decide)]
  · rw [t00_va, mn_ad1 (by decide) (by decide), show (-10 : Int32) - (-14) = 4 by decide, me_ad1 (by decide)]
  · rw [t00_pi_3, mn_mo_22 (by decide) (by decide), show (-10 : Int32) - (-14) = 4 by decide, me_mo_22 (by decide)]
  · rw [t00_pi_4, mn_mo_23 (by decide) (by decide), show (-10 : Int32) - (-14) = 4 by decide, me_mo_23 (by decide)]
    exact hY
  · rw [t00_la, t00_pe, t00_tu, t00_pi_3, mn_ad19 (by decide) (by decide), show (-10 : Int32) - (-14) = 4 by decide, me_ad19 (by decide), mn_ad20 (by decide) (by decide), show (-10 : Int32) - (-14) = 4 by decide, me_ad20 (by decide), mn_ad21 (by decide) (by decide), show (-10 : Int32) - (-14) = 4 by decide, me_ad21 (by decide)]
    exact hP
  · rw [t00_la]
    exact hlo
  · rw [mn_ad19 (by decide) (by decide), show (-10 : Int32) - (-14) = 4 by decide, me_ad19 (by decide)]
    exact hpk
  · rw [mn_ad20 (by decide) (by decide), show (-10 : Int32) - (-14) = 4 by decide, me_ad20 (by decide)]
    exact hca
  · rw [mn_mo_25 (by decide) (by decide), show (-10 : Int32) - (-14) = 4 by decide, me_mo_25 (by decide)]
    exact ⟨hk, Int.le_max_left _ _⟩
theorem q_lf0_e {Y ln : Int32} {steps : Int64} {n : Nat} {k : Int32} {g : Nat → Int64} {h hi : Int32} {ud pd : Nat → Int32} {lo : Nat → Option Nat} {rd : Nat → Int32} {pp : Int32} {lf pl cl : Nat → Int32} {mo : Int32} {od : Nat → Int32} (z1 : 0 < pp) (z2 : sp_M_isParagraph np pp = 0) (hP : PRel np ns σ lo pd ud pl cl lf h) (hlo : ∀ k j : Nat, lo k = some j → (j : Int) < ns.toInt) (hpk : ∀ k : Nat, PN ns vfrom vkind vlev (pl k)) (hca : ∀ k : Nat, 0 ≤ (cl k).toInt ∧ (cl k).toInt ≤ 60) (hY : hi.toInt = max Y.toInt mo.toInt) (hk : 0 ≤ k.toInt) : LE90 np ns Y dd gd σ vdoes vgos vfrom vto vkind vtimes vcond vlev vask vcc vvar vleast vfirst vstep steps ln (n + 1) 0 k g h hi 3 ud pd lo rd (n + 1 + 1) pp g lf pl cl h mo (-2) k od := by
  refine ⟨?_, ?_, ?_, ?_, ?_, ?_, ?_, ?_, ?_, ?_, ?_⟩
  · rw [t00, ml_mo_25 z1 z2, me_mo_25 (by decide)]
  · rw [t00_co_4, ml_mo_25 z1 z2, me_mo_25 (by decide)]
  · rw [t00_co_5, ml_mo_24 z1 z2, me_mo_24 (by decide)]
  · rw [t00_va, ml_ad1 z1 z2, me_ad1 (by decide)]
  · rw [t00_pi_3, ml_mo_22 z1 z2, me_mo_22 (by decide)]
  · rw [t00_pi_4, ml_mo_23 z1 z2, me_mo_23 (by decide)]
    exact hY
  · rw [t00_la, t00_pe, t00_tu, t00_pi_3, ml_ad19 z1 z2, me_ad19 (by decide), ml_ad20 z1 z2, me_ad20 (by decide), ml_ad21 z1 z2, me_ad21 (by decide)]
    exact hP
  · rw [t00_la]
    exact hlo
  · rw [ml_ad19 z1 z2, me_ad19 (by decide)]
    exact hpk
  · rw [ml_ad20 z1 z2, me_ad20 (by decide)]
    exact hca
  · rw [ml_mo_25 z1 z2, me_mo_25 (by decide)]
    exact ⟨hk, Int.le_max_left _ _⟩
theorem q_lf0_f {Y ln : Int32} {steps : Int64} {n : Nat} {nx k : Int32} {g : Nat → Int64} {h hi en : Int32} {ud pd : Nat → Int32} {lo : Nat → Option Nat} {rd : Nat → Int32} {pp : Int32} {lf pl cl : Nat → Int32} {mo : Int32} {od : Nat → Int32} (z0 : ¬ nx = 0) (cs : 0 ≤ lg_cmp k.toInt64 steps) (z1 : 0 < pp) (z2 : ¬ sp_M_isParagraph np pp = 0) (cs2 : ¬ lg_cmp k.toInt64 steps < 0) (hP : PRel np ns σ lo pd ud pl cl lf h) (hlo : ∀ k j : Nat, lo k = some j → (j : Int) < ns.toInt) (hpk : ∀ k : Nat, PN ns vfrom vkind vlev (pl k)) (hca : ∀ k : Nat, 0 ≤ (cl k).toInt ∧ (cl k).toInt ≤ 60) (hY : hi.toInt = max Y.toInt mo.toInt) (hk : 0 ≤ k.toInt) : LE90 np ns Y dd gd σ vdoes vgos vfrom vto vkind vtimes vcond vlev vask vcc vvar vleast vfirst vstep steps ln (n + 1) nx k g h hi en ud pd lo rd (n + 1 + 1) pp g lf pl cl h mo (-2) k od := by
  refine ⟨?_, ?_, ?_, ?_, ?_, ?_, ?_, ?_, ?_, ?_, ?_⟩
  · rw [ts0 z0 cs, ms_mo_25 z1 z2 cs2, me_mo_25 (by decide)]
  · rw [ts0_co_4 z0 cs, ms_mo_25 z1 z2 cs2, me_mo_25 (by decide)]
  · rw [ts0_co_5 z0 cs, ms_mo_24 z1 z2 cs2, me_mo_24 (by decide)]
  · rw [ts0_va z0 cs, ms_ad1 z1 z2 cs2, me_ad1 (by decide)]
  · rw [ts0_pi_3 z0 cs, ms_mo_22 z1 z2 cs2, me_mo_22 (by decide)]
  · rw [ts0_pi_4 z0 cs, ms_mo_23 z1 z2 cs2, me_mo_23 (by decide)]
    exact hY
  · rw [ts0_la z0 cs, ts0_pe z0 cs, ts0_tu z0 cs, ts0_pi_3 z0 cs, ms_ad19 z1 z2 cs2, me_ad19 (by decide), ms_ad20 z1 z2 cs2, me_ad20 (by decide), ms_ad21 z1 z2 cs2, me_ad21 (by decide)]
    exact hP
  · rw [ts0_la z0 cs]
    exact hlo
  · rw [ms_ad19 z1 z2 cs2, me_ad19 (by decide)]
    exact hpk
  · rw [ms_ad20 z1 z2 cs2, me_ad20 (by decide)]
    exact hca
  · rw [ms_mo_25 z1 z2 cs2, me_mo_25 (by decide)]
    exact ⟨hk, Int.le_max_left _ _⟩
theorem q_st0_0 {Y ln : Int32} {steps : Int64} {n m : Nat} {nx k : Int32} {g : Nat → Int64} {h hi en : Int32} {ud pd : Nat → Int32} {lo : Nat → Option Nat} {rd : Nat → Int32} {pp : Int32} {g2 : Nat → Int64} {lf pl cl : Nat → Int32} {sz mo rn : Int32} {od : Nat → Int32} (z0 : ¬ nx = 0) (cs : ¬ 0 ≤ lg_cmp k.toInt64 steps) (z1 : 0 < pp) (z2 : ¬ sp_M_isParagraph np pp = 0) (cs2 : lg_cmp rn.toInt64 steps < 0) (c1 : sp_performedBy np dd nx = -1) (c2 : sp_doing np dd g nx = -1) (hb : max (rn + 1).toInt steps.toInt ≤ max rn.toInt steps.toInt)
    (R : LE90 np ns Y dd gd σ vdoes vgos vfrom vto vkind vtimes vcond vlev vask vcc vvar vleast vfirst vstep steps ln n (lp_behindDoing np gd lo pd σ 101 nx 0 (sp_doing_va np dd g nx) h ud) (k + 1) (lp_behindDoing_va np gd lo pd σ 101 nx 0 (sp_doing_va np dd g nx) h ud) (lp_behindDoing_pi_3 np gd lo pd σ 101 nx 0 (sp_doing_va np dd g nx) h ud) hi (lp_behindDoing_co_5 (sp_doing_co_5 en np dd g nx) np gd lo pd σ 101 nx 0 (sp_doing_va np dd g nx) h ud) (lp_behindDoing_tu np gd lo pd σ 101 nx 0 (sp_doing_va np dd g nx) h ud) pd lo (sp_note0_ra rd k nx) m (sp_M_doing np ns sz g2 vdoes vgos vfrom vto vkind vtimes vcond vlev vask vcc vvar vleast vfirst vstep pl cl lf pp) (sp_M_doing_ad1 ns sz g2 vdoes vgos vfrom vto vkind vtimes vcond vlev vask vcc vvar vleast vfirst vstep pl cl lf pp) (sp_M_doing_ad21 ns sz g2 vdoes vgos vfrom vto vkind vtimes vcond vlev vask vcc vvar vleast vfirst vstep pl cl lf pp) (sp_M_doing_ad19 ns sz vdoes vkind vcond vlev pl pp) (sp_M_doing_ad20 ns sz vdoes vkind vcond vlev cl pp) (sp_M_doing_mo_22 ns sz g2 vdoes vgos vfrom vto vkind vtimes vcond vlev vask vcc vvar vleast vfirst vstep pl cl lf pp) (sp_M_doing_mo_23 ns sz mo g2 vdoes vfrom vkind vtimes vcond vlev vask vcc vvar vleast vfirst vstep pl lf pp) (-2) (rn + 1) (upd od rn.toNatClampNeg pp)) : LE90 np ns Y dd gd σ vdoes vgos vfrom vto vkind vtimes vcond vlev vask vcc vvar vleast vfirst vstep steps ln (n + 1) nx k g h hi en ud pd lo rd (m + 1) pp g2 lf pl cl sz mo (-2) rn od := by
  obtain ⟨r1, r2, r3, r4, r5, r6, r7, r8, r9, r10, r11⟩ := R
  refine ⟨?_, ?_, ?_, ?_, ?_, ?_, ?_, ?_, ?_, ?_, ?_⟩
  · rw [tb0_0 z0 cs c1 c2, mg_mo_25 z1 z2 cs2]
    exact r1
  · rw [tb0_co_4_0 z0 cs c1 c2, mg_mo_25 z1 z2 cs2]
    exact r2
  · rw [tb0_co_5_0 z0 cs c1 c2, mg_mo_24 z1 z2 cs2]
    exact r3
  · rw [tb0_va_0 z0 cs c1 c2, mg_ad1 z1 z2 cs2]
    exact r4
  · rw [tb0_pi_3_0 z0 cs c1 c2, mg_mo_22 z1 z2 cs2]
    exact r5
  · rw [tb0_pi_4_0 z0 cs c1 c2, mg_mo_23 z1 z2 cs2]
    exact r6
  · rw [tb0_la_0 z0 cs c1 c2, tb0_pe_0 z0 cs c1 c2, tb0_tu_0 z0 cs c1 c2, tb0_pi_3_0 z0 cs c1 c2, mg_ad19 z1 z2 cs2, mg_ad20 z1 z2 cs2, mg_ad21 z1 z2 cs2]
    exact r7
  · rw [tb0_la_0 z0 cs c1 c2]
    exact r8
  · rw [mg_ad19 z1 z2 cs2]
    exact r9
  · rw [mg_ad20 z1 z2 cs2]
    exact r10
  · rw [mg_mo_25 z1 z2 cs2]
    exact ⟨r11.1, Int.le_trans r11.2 hb⟩
theorem q_st0_1 {Y ln : Int32} {steps : Int64} {n m : Nat} {nx k : Int32} {g : Nat → Int64} {h hi en : Int32} {ud pd : Nat → Int32} {lo : Nat → Option Nat} {rd : Nat → Int32} {pp : Int32} {g2 : Nat → Int64} {lf pl cl : Nat → Int32} {sz mo rn : Int32} {od : Nat → Int32} (z0 : ¬ nx = 0) (cs : ¬ 0 ≤ lg_cmp k.toInt64 steps) (z1 : 0 < pp) (z2 : ¬ sp_M_isParagraph np pp = 0) (cs2 : lg_cmp rn.toInt64 steps < 0) (c1 : sp_performedBy np dd nx = -1) (c2 : ¬ sp_doing np dd g nx = -1) (hb : max (rn + 1).toInt steps.toInt ≤ max rn.toInt steps.toInt)
    (R : LE90 np ns Y dd gd σ vdoes vgos vfrom vto vkind vtimes vcond vlev vask vcc vvar vleast vfirst vstep steps ln n (sp_doing np dd g nx) (k + 1) (sp_doing_va np dd g nx) h hi (sp_doing_co_5 en np dd g nx) ud pd lo (sp_note0_ra rd k nx) m (sp_M_doing np ns sz g2 vdoes vgos vfrom vto vkind vtimes vcond vlev vask vcc vvar vleast vfirst vstep pl cl lf pp) (sp_M_doing_ad1 ns sz g2 vdoes vgos vfrom vto vkind vtimes vcond vlev vask vcc vvar vleast vfirst vstep pl cl lf pp) (sp_M_doing_ad21 ns sz g2 vdoes vgos vfrom vto vkind vtimes vcond vlev vask vcc vvar vleast vfirst vstep pl cl lf pp) (sp_M_doing_ad19 ns sz vdoes vkind vcond vlev pl pp) (sp_M_doing_ad20 ns sz vdoes vkind vcond vlev cl pp) (sp_M_doing_mo_22 ns sz g2 vdoes vgos vfrom vto vkind vtimes vcond vlev vask vcc vvar vleast vfirst vstep pl cl lf pp) (sp_M_doing_mo_23 ns sz mo g2 vdoes vfrom vkind vtimes vcond vlev vask vcc vvar vleast vfirst vstep pl lf pp) (-2) (rn + 1) (upd od rn.toNatClampNeg pp)) : LE90 np ns Y dd gd σ vdoes vgos vfrom vto vkind vtimes vcond vlev vask vcc vvar vleast vfirst vstep steps ln (n + 1) nx k g h hi en ud pd lo rd (m + 1) pp g2 lf pl cl sz mo (-2) rn od := by
  obtain ⟨r1, r2, r3, r4, r5, r6, r7, r8, r9, r10, r11⟩ := R
  refine ⟨?_, ?_, ?_, ?_, ?_, ?_, ?_, ?_, ?_, ?_, ?_⟩
  · rw [tb0_1 z0 cs c1 c2, mg_mo_25 z1 z2 cs2]
    exact r1
  · rw [tb0_co_4_1 z0 cs c1 c2, mg_mo_25 z1 z2 cs2]
    exact r2
  · rw [tb0_co_5_1 z0 cs c1 c2, mg_mo_24 z1 z2 cs2]
    exact r3
  · rw [tb0_va_1 z0 cs c1 c2, mg_ad1 z1 z2 cs2]
    exact r4
  · rw [tb0_pi_3_1 z0 cs c1 c2, mg_mo_22 z1 z2 cs2]
    exact r5
  · rw [tb0_pi_4_1 z0 cs c1 c2, mg_mo_23 z1 z2 cs2]
    exact r6
  · rw [tb0_la_1 z0 cs c1 c2, tb0_pe_1 z0 cs c1 c2, tb0_tu_1 z0 cs c1 c2, tb0_pi_3_1 z0 cs c1 c2, mg_ad19 z1 z2 cs2, mg_ad20 z1 z2 cs2, mg_ad21 z1 z2 cs2]
    exact r7
  · rw [tb0_la_1 z0 cs c1 c2]
    exact r8
  · rw [mg_ad19 z1 z2 cs2]
    exact r9
  · rw [mg_ad20 z1 z2 cs2]
    exact r10
  · rw [mg_mo_25 z1 z2 cs2]
    exact ⟨r11.1, Int.le_trans r11.2 hb⟩
theorem q_st0_2 {Y ln : Int32} {steps : Int64} {n m : Nat} {nx k : Int32} {g : Nat → Int64} {h hi en : Int32} {ud pd : Nat → Int32} {lo : Nat → Option Nat} {rd : Nat → Int32} {pp : Int32} {g2 : Nat → Int64} {lf pl cl : Nat → Int32} {sz mo rn : Int32} {od : Nat → Int32} (z0 : ¬ nx = 0) (cs : ¬ 0 ≤ lg_cmp k.toInt64 steps) (z1 : 0 < pp) (z2 : ¬ sp_M_isParagraph np pp = 0) (cs2 : lg_cmp rn.toInt64 steps < 0) (c1 : ¬ sp_performedBy np dd nx = -1) (c2 : sp_performing ns h g (sp_performedBy np dd nx) σ = -1) (hb : max (rn + 1).toInt steps.toInt ≤ max rn.toInt steps.toInt)
    (R : LE90 np ns Y dd gd σ vdoes vgos vfrom vto vkind vtimes vcond vlev vask vcc vvar vleast vfirst vstep steps ln n (lp_behindDoing np gd (sp_performing_la ns h lo (sp_performedBy np dd nx) σ) (sp_performing_pe ns h pd (sp_performedBy np dd nx) nx σ) σ 101 nx 0 (sp_performing_va ns h g (sp_performedBy np dd nx) σ) (sp_performing_pi_3 ns h g (sp_performedBy np dd nx) σ) (sp_performing_tu ns h ud (sp_performedBy np dd nx) σ)) (k + 1) (lp_behindDoing_va np gd (sp_performing_la ns h lo (sp_performedBy np dd nx) σ) (sp_performing_pe ns h pd (sp_performedBy np dd nx) nx σ) σ 101 nx 0 (sp_performing_va ns h g (sp_performedBy np dd nx) σ) (sp_performing_pi_3 ns h g (sp_performedBy np dd nx) σ) (sp_performing_tu ns h ud (sp_performedBy np dd nx) σ)) (lp_behindDoing_pi_3 np gd (sp_performing_la ns h lo (sp_performedBy np dd nx) σ) (sp_performing_pe ns h pd (sp_performedBy np dd nx) nx σ) σ 101 nx 0 (sp_performing_va ns h g (sp_performedBy np dd nx) σ) (sp_performing_pi_3 ns h g (sp_performedBy np dd nx) σ) (sp_performing_tu ns h ud (sp_performedBy np dd nx) σ)) (sp_performing_pi_4 ns h hi g (sp_performedBy np dd nx) σ) (lp_behindDoing_co_5 (sp_performing_co_5 en ns h (sp_performedBy np dd nx) σ) np gd (sp_performing_la ns h lo (sp_performedBy np dd nx) σ) (sp_performing_pe ns h pd (sp_performedBy np dd nx) nx σ) σ 101 nx 0 (sp_performing_va ns h g (sp_performedBy np dd nx) σ) (sp_performing_pi_3 ns h g (sp_performedBy np dd nx) σ) (sp_performing_tu ns h ud (sp_performedBy np dd nx) σ)) (lp_behindDoing_tu np gd (sp_performing_la ns h lo (sp_performedBy np dd nx) σ) (sp_performing_pe ns h pd (sp_performedBy np dd nx) nx σ) σ 101 nx 0 (sp_performing_va ns h g (sp_performedBy np dd nx) σ) (sp_performing_pi_3 ns h g (sp_performedBy np dd nx) σ) (sp_performing_tu ns h ud (sp_performedBy np dd nx) σ)) (sp_performing_pe ns h pd (sp_performedBy np dd nx) nx σ) (sp_performing_la ns h lo (sp_performedBy np dd nx) σ) (sp_note0_ra rd k nx) m (sp_M_doing np ns sz g2 vdoes vgos vfrom vto vkind vtimes vcond vlev vask vcc vvar vleast vfirst vstep pl cl lf pp) (sp_M_doing_ad1 ns sz g2 vdoes vgos vfrom vto vkind vtimes vcond vlev vask vcc vvar vleast vfirst vstep pl cl lf pp) (sp_M_doing_ad21 ns sz g2 vdoes vgos vfrom vto vkind vtimes vcond vlev vask vcc vvar vleast vfirst vstep pl cl lf pp) (sp_M_doing_ad19 ns sz vdoes vkind vcond vlev pl pp) (sp_M_doing_ad20 ns sz vdoes vkind vcond vlev cl pp) (sp_M_doing_mo_22 ns sz g2 vdoes vgos vfrom vto vkind vtimes vcond vlev vask vcc vvar vleast vfirst vstep pl cl lf pp) (sp_M_doing_mo_23 ns sz mo g2 vdoes vfrom vkind vtimes vcond vlev vask vcc vvar vleast vfirst vstep pl lf pp) (-2) (rn + 1) (upd od rn.toNatClampNeg pp)) : LE90 np ns Y dd gd σ vdoes vgos vfrom vto vkind vtimes vcond vlev vask vcc vvar vleast vfirst vstep steps ln (n + 1) nx k g h hi en ud pd lo rd (m + 1) pp g2 lf pl cl sz mo (-2) rn od := by
  obtain ⟨r1, r2, r3, r4, r5, r6, r7, r8, r9, r10, r11⟩ := R
  refine ⟨?_, ?_, ?_, ?_, ?_, ?_, ?_, ?_, ?_, ?_, ?_⟩
  · rw [tb0_2 z0 cs c1 c2, mg_mo_25 z1 z2 cs2]
    exact r1
  · rw [tb0_co_4_2 z0 cs c1 c2, mg_mo_25 z1 z2 cs2]
    exact r2
  · rw [tb0_co_5_2 z0 cs c1 c2, mg_mo_24 z1 z2 cs2]
    exact r3
  · rw [tb0_va_2 z0 cs c1 c2, mg_ad1 z1 z2 cs2]
    exact r4
  · rw [tb0_pi_3_2 z0 cs c1 c2, mg_mo_22 z1 z2 cs2]
    exact r5
  · rw [tb0_pi_4_2 z0 cs c1 c2, mg_mo_23 z1 z2 cs2]
    exact r6
  · rw [tb0_la_2 z0 cs c1 c2, tb0_pe_2 z0 cs c1 c2, tb0_tu_2 z0 cs c1 c2, tb0_pi_3_2 z0 cs c1 c2, mg_ad19 z1 z2 cs2, mg_ad20 z1 z2 cs2, mg_ad21 z1 z2 cs2]
    exact r7
  · rw [tb0_la_2 z0 cs c1 c2]
    exact r8
  · rw [mg_ad19 z1 z2 cs2]
    exact r9
  · rw [mg_ad20 z1 z2 cs2]
    exact r10
  · rw [mg_mo_25 z1 z2 cs2]
    exact ⟨r11.1, Int.le_trans r11.2 hb⟩
theorem q_st0_3 {Y ln : Int32} {steps : Int64} {n m : Nat} {nx k : Int32} {g : Nat → Int64} {h hi en : Int32} {ud pd : Nat → Int32} {lo : Nat → Option Nat} {rd : Nat → Int32} {pp : Int32} {g2 : Nat → Int64} {lf pl cl : Nat → Int32} {sz mo rn : Int32} {od : Nat → Int32} (z0 : ¬ nx = 0) (cs : ¬ 0 ≤ lg_cmp k.toInt64 steps) (z1 : 0 < pp) (z2 : ¬ sp_M_isParagraph np pp = 0) (cs2 : lg_cmp rn.toInt64 steps < 0) (c1 : ¬ sp_performedBy np dd nx = -1) (c2 : ¬ sp_performing ns h g (sp_performedBy np dd nx) σ = -1) (hb : max (rn + 1).toInt steps.toInt ≤ max rn.toInt steps.toInt)
    (R : LE90 np ns Y dd gd σ vdoes vgos vfrom vto vkind vtimes vcond vlev vask vcc vvar vleast vfirst vstep steps ln n (sp_performing ns h g (sp_performedBy np dd nx) σ) (k + 1) (sp_performing_va ns h g (sp_performedBy np dd nx) σ) (sp_performing_pi_3 ns h g (sp_performedBy np dd nx) σ) (sp_performing_pi_4 ns h hi g (sp_performedBy np dd nx) σ) (sp_performing_co_5 en ns h (sp_performedBy np dd nx) σ) (sp_performing_tu ns h ud (sp_performedBy np dd nx) σ) (sp_performing_pe ns h pd (sp_performedBy np dd nx) nx σ) (sp_performing_la ns h lo (sp_performedBy np dd nx) σ) (sp_note0_ra rd k nx) m (sp_M_doing np ns sz g2 vdoes vgos vfrom vto vkind vtimes vcond vlev vask vcc vvar vleast vfirst vstep pl cl lf pp) (sp_M_doing_ad1 ns sz g2 vdoes vgos vfrom vto vkind vtimes vcond vlev vask vcc vvar vleast vfirst vstep pl cl lf pp) (sp_M_doing_ad21 ns sz g2 vdoes vgos vfrom vto vkind vtimes vcond vlev vask vcc vvar vleast vfirst vstep pl cl lf pp) (sp_M_doing_ad19 ns sz vdoes vkind vcond vlev pl pp) (sp_M_doing_ad20 ns sz vdoes vkind vcond vlev cl pp) (sp_M_doing_mo_22 ns sz g2 vdoes vgos vfrom vto vkind vtimes vcond vlev vask vcc vvar vleast vfirst vstep pl cl lf pp) (sp_M_doing_mo_23 ns sz mo g2 vdoes vfrom vkind vtimes vcond vlev vask vcc vvar vleast vfirst vstep pl lf pp) (-2) (rn + 1) (upd od rn.toNatClampNeg pp)) : LE90 np ns Y dd gd σ vdoes vgos vfrom vto vkind vtimes vcond vlev vask vcc vvar vleast vfirst vstep steps ln (n + 1) nx k g h hi en ud pd lo rd (m + 1) pp g2 lf pl cl sz mo (-2) rn od := by
  obtain ⟨r1, r2, r3, r4, r5, r6, r7, r8, r9, r10, r11⟩ := R
  refine ⟨?_, ?_, ?_, ?_, ?_, ?_, ?_, ?_, ?_, ?_, ?_⟩
  · rw [tb0_3 z0 cs c1 c2, mg_mo_25 z1 z2 cs2]
    exact r1
  · rw [tb0_co_4_3 z0 cs c1 c2, mg_mo_25 z1 z2 cs2]
    exact r2
  · rw [tb0_co_5_3 z0 cs c1 c2, mg_mo_24 z1 z2 cs2]
    exact r3
  · rw [tb0_va_3 z0 cs c1 c2, mg_ad1 z1 z2 cs2]
    exact r4
  · rw [tb0_pi_3_3 z0 cs c1 c2, mg_mo_22 z1 z2 cs2]
    exact r5
  · rw [tb0_pi_4_3 z0 cs c1 c2, mg_mo_23 z1 z2 cs2]
    exact r6
  · rw [tb0_la_3 z0 cs c1 c2, tb0_pe_3 z0 cs c1 c2, tb0_tu_3 z0 cs c1 c2, tb0_pi_3_3 z0 cs c1 c2, mg_ad19 z1 z2 cs2, mg_ad20 z1 z2 cs2, mg_ad21 z1 z2 cs2]
    exact r7
  · rw [tb0_la_3 z0 cs c1 c2]
    exact r8
  · rw [mg_ad19 z1 z2 cs2]
    exact r9
  · rw [mg_ad20 z1 z2 cs2]
    exact r10
  · rw [mg_mo_25 z1 z2 cs2]
    exact ⟨r11.1, Int.le_trans r11.2 hb⟩
set_option maxHeartbeats 2000000 in
theorem q_loop0 (HG : PRG np ns dd gd σ vdoes vgos vfrom vto vkind vtimes vcond vlev vask vcc vvar vleast vfirst vstep) {Y ln : Int32} {steps : Int64} (hst : steps.toInt ≤ 4096) : ∀ (n : Nat) (nx k : Int32) (g : Nat → Int64) (h hi en : Int32) (ud pd : Nat → Int32) (lo : Nat → Option Nat) (rd : Nat → Int32) (pp : Int32) (g2 : Nat → Int64) (lf pl cl : Nat → Int32) (sz mo : Int32) (od : Nat → Int32), 0 ≤ k.toInt → steps.toInt ≤ k.toInt + n → k.toInt ≤ 4096 → IV np ns Y σ vfrom vkind vlev nx en g h hi ud pd lo pp g2 sz mo pl cl lf → LE90 np ns Y dd gd σ vdoes vgos vfrom vto vkind vtimes vcond vlev vask vcc vvar vleast vfirst vstep steps ln (n + 1) nx k g h hi en ud pd lo rd (n + 1 + 1) pp g2 lf pl cl sz mo (-2) k od := by
  obtain ⟨⟨hn0, hn6, hs0, hs6⟩, hpar, hsta⟩ := id HG
  intro n
  induction n with
  | zero =>
    intro nx k g h hi en ud pd lo rd pp g2 lf pl cl sz mo od hk hsk hk4 hI
    obtain ⟨⟨hN, hg, hh, hP, hY, hr1⟩, hlo, hpk, hca⟩ := hI
    subst hg
    subst hh
    have k64 : k.toInt64.toInt = k.toInt := Int32.toInt_toInt64 k
    rcases hN with ⟨n1, n2, n3⟩ | ⟨n1, hrest⟩
    · subst n3
      have z0 : ¬ nx = 0 := i_ne (k := 0) rfl (by omega)
      have z1 : 0 < nx := i_gt (k := 0) rfl (by omega)
      have z2 : ¬ sp_M_isParagraph np nx = 0 := fun e => n2 ((q_isPar hn6).mp e)
      by_cases cs : 0 ≤ lg_cmp k.toInt64 steps
      · have cs2 : ¬ lg_cmp k.toInt64 steps < 0 := fun e => by have a1 := (lg_cmp_lt _ _).mp e; have a2 := (lg_cmp_ge _ _).mp cs; exact absurd a1 (Int64.not_lt.mpr a2)
        exact q_lf0_f z0 cs z1 z2 cs2 hP hlo hpk hca hY hk
      · exfalso
        apply cs
        refine (lg_cmp_ge _ _).mpr (Int64.le_iff_toInt_le.mpr ?_)
        rw [k64]
        omega
    · subst n1
      rcases hrest with ⟨p1, p2⟩ | ⟨p1, p2⟩ | ⟨p1, p2⟩ | ⟨p1, p2⟩ | ⟨p1, p3, p2⟩
      · have pe : pp = (0) := i_eq (k := (0)) rfl p1
        have ee : en = 0 := i_eq (k := 0) rfl p2
        subst pe
        subst ee
        exact q_lf0_a hP hlo hpk hca hY hk
      · have pe : pp = (-12) := i_eq (k := (-12)) rfl p1
        have ee : en = 2 := i_eq (k := 2) rfl p2
        subst pe
        subst ee
        exact q_lf0_b hP hlo hpk hca hY hk
      · have pe : pp = (-13) := i_eq (k := (-13)) rfl p1
        have ee : en = 3 := i_eq (k := 3) rfl p2
        subst pe
        subst ee
        exact q_lf0_c hP hlo hpk hca hY hk
      · have pe : pp = (-14) := i_eq (k := (-14)) rfl p1
        have ee : en = 4 := i_eq (k := 4) rfl p2
        subst pe
        subst ee
        exact q_lf0_d hP hlo hpk hca hY hk
      · have ee : en = 3 := i_eq (k := 3) rfl p2
        subst ee
        exact q_lf0_e (i_gt (k := 0) rfl (by omega)) ((q_isPar hn6).mpr p3) hP hlo hpk hca hY hk
  | succ n ih =>
    intro nx k g h hi en ud pd lo rd pp g2 lf pl cl sz mo od hk hsk hk4 hI
    obtain ⟨⟨hN, hg, hh, hP, hY, hr1⟩, hlo, hpk, hca⟩ := hI
    subst hg
    subst hh
    have k64 : k.toInt64.toInt = k.toInt := Int32.toInt_toInt64 k
    rcases hN with ⟨n1, n2, n3⟩ | ⟨n1, hrest⟩
    · subst n3
      have z0 : ¬ nx = 0 := i_ne (k := 0) rfl (by omega)
      have z1 : 0 < nx := i_gt (k := 0) rfl (by omega)
      have z2 : ¬ sp_M_isParagraph np nx = 0 := fun e => n2 ((q_isPar hn6).mp e)
      by_cases cs : 0 ≤ lg_cmp k.toInt64 steps
      · have cs2 : ¬ lg_cmp k.toInt64 steps < 0 := fun e => by have a1 := (lg_cmp_lt _ _).mp e; have a2 := (lg_cmp_ge _ _).mp cs; exact absurd a1 (Int64.not_lt.mpr a2)
        exact q_lf0_f z0 cs z1 z2 cs2 hP hlo hpk hca hY hk
      · have cs3 : ¬ steps.toInt ≤ k.toInt64.toInt := fun e => cs ((lg_cmp_ge _ _).mpr (Int64.le_iff_toInt_le.mpr e))
        have cs2 : lg_cmp k.toInt64 steps < 0 := (lg_cmp_lt _ _).mpr (Int64.lt_iff_toInt_lt.mpr (by omega))
        rw [k64] at cs3
        have ka : (k + 1).toInt = k.toInt + 1 := i32_add1 (by omega)
        have x3 := isPar_ne n2
        have y2 : 0 ≤ nx.toInt ∧ nx.toInt ≤ 60 := ⟨by omega, by omega⟩
        have s1 : 0 ≤ (k + 1).toInt := by omega
        have s2 : steps.toInt ≤ (k + 1).toInt + n := by omega
        have s3 : (k + 1).toInt ≤ 4096 := by omega
        have s4 : max (k + 1).toInt steps.toInt ≤ max k.toInt steps.toInt := by omega
        obtain ⟨Q1, Q2⟩ := q_step HG (h := h) (hi := hi) (mo := mo) (Y := Y) en g hP hY (hr1 z0) n2
        have pk2 := q_pk_doing HG (h := h) (x := nx) hpk
        have ca2 := q_ca_doing (ns := ns) (h := h) (vdoes := vdoes) (vkind := vkind) (vcond := vcond) (vlev := vlev) y2 hca
        by_cases c1 : sp_performedBy np dd nx = -1
        · by_cases c2 : sp_doing np dd g nx = -1
          · have R := ih _ (k + 1) _ _ _ _ _ _ _ (sp_note0_ra rd k nx) _ _ _ _ _ _ _ (upd od k.toNatClampNeg nx) s1 s2 s3 ⟨(Q1 c1).1 c2, hlo, pk2, ca2⟩
            exact q_st0_0 z0 cs z1 z2 cs2 c1 c2 s4 R
          · have R := ih _ (k + 1) _ _ _ _ _ _ _ (sp_note0_ra rd k nx) _ _ _ _ _ _ _ (upd od k.toNatClampNeg nx) s1 s2 s3 ⟨(Q1 c1).2 c2, hlo, pk2, ca2⟩
            exact q_st0_1 z0 cs z1 z2 cs2 c1 c2 s4 R
        · by_cases c2 : sp_performing ns h g (sp_performedBy np dd nx) σ = -1
          · have R := ih _ (k + 1) _ _ _ _ _ _ _ (sp_note0_ra rd k nx) _ _ _ _ _ _ _ (upd od k.toNatClampNeg nx) s1 s2 s3 ⟨(Q2 c1).1 c2, q_la_ok HG hlo, pk2, ca2⟩
            exact q_st0_2 z0 cs z1 z2 cs2 c1 c2 s4 R
          · have R := ih _ (k + 1) _ _ _ _ _ _ _ (sp_note0_ra rd k nx) _ _ _ _ _ _ _ (upd od k.toNatClampNeg nx) s1 s2 s3 ⟨(Q2 c1).2 c2, q_la_ok HG hlo, pk2, ca2⟩
            exact q_st0_3 z0 cs z1 z2 cs2 c1 c2 s4 R
    · subst n1
      rcases hrest with ⟨p1, p2⟩ | ⟨p1, p2⟩ | ⟨p1, p2⟩ | ⟨p1, p2⟩ | ⟨p1, p3, p2⟩
      · have pe : pp = (0) := i_eq (k := (0)) rfl p1
        have ee : en = 0 := i_eq (k := 0) rfl p2
        subst pe
        subst ee
        exact q_lf0_a hP hlo hpk hca hY hk
      · have pe : pp = (-12) := i_eq (k := (-12)) rfl p1
        have ee : en = 2 := i_eq (k := 2) rfl p2
        subst pe
        subst ee
        exact q_lf0_b hP hlo hpk hca hY hk
      · have pe : pp = (-13) := i_eq (k := (-13)) rfl p1
        have ee : en = 3 := i_eq (k := 3) rfl p2
        subst pe
        subst ee
        exact q_lf0_c hP hlo hpk hca hY hk
      · have pe : pp = (-14) := i_eq (k := (-14)) rfl p1
        have ee : en = 4 := i_eq (k := 4) rfl p2
        subst pe
        subst ee
        exact q_lf0_d hP hlo hpk hca hY hk
      · have ee : en = 3 := i_eq (k := 3) rfl p2
        subst ee
        exact q_lf0_e (i_gt (k := 0) rfl (by omega)) ((q_isPar hn6).mpr p3) hP hlo hpk hca hY hk
end EQ9
