/-- a run's state by the class and by the reference -/
def SS (np ns Y : Int32) (σ : Nat → Stm) (r en : Int32) (g : Nat → Int64) (h hi : Int32) (ud pd : Nat → Int32) (lo : Nat → Option Nat) (p : Int32) (g2 : Nat → Int64) (h2 mo : Int32) (pl cl lf : Nat → Int32) : Prop := NR np r en p ∧ g = g2 ∧ h = h2 ∧ PRel np ns σ lo pd ud pl cl lf h ∧ hi.toInt = max Y.toInt mo.toInt ∧ (¬ r = 0 → 1 ≤ h.toInt)
section EQ8
variable {np ns : Int32} {dd gd : Nat → Int32} {σ : Nat → Stm} {vdoes vgos vfrom vto vkind vtimes vcond vlev vask vcc vvar : Nat → Int32} {vleast vfirst vstep : Nat → Int64} {lo : Nat → Option Nat} {pd ud pl cl lf : Nat → Int32}
theorem nr_going0 (hn : np.toInt ≤ 60) {x en : Int32} (hx : 0 ≤ x.toInt) : NR np (sp_going np x) (sp_going_co_5 en np x) (if x = 0 then (-13) else x) := by
  by_cases c : x = 0
  · subst c
    have z : sp_isParagraph np 0 = 0 := by
      unfold sp_isParagraph
      rw [if_pos (by decide)]
    rw [if_pos rfl, sp_going, sp_going_co_5, if_pos z, if_pos z]
    exact Or.inr ⟨rfl, Or.inr (Or.inr (Or.inl ⟨rfl, rfl⟩))⟩
  · rw [if_neg c]
    have : ¬ x.toInt = 0 := fun e => c (i_eq (k := 0) rfl e)
    exact nr_going hn (by omega)
theorem going_ne {x : Int32} (hx : 0 ≤ x.toInt) : ¬ sp_going np x = -1 := by
  unfold sp_going
  split
  · decide
  · exact i_ne (k := -1) rfl (by omega)
set_option maxHeartbeats 4000000 in
/-- one paragraph: doing, performing, what comes behind -/
theorem q_step (HG : PRG np ns dd gd σ vdoes vgos vfrom vto vkind vtimes vcond vlev vask vcc vvar vleast vfirst vstep) {h hi mo Y x : Int32} (en : Int32) (f : Nat → Int64) (H : PRel np ns σ lo pd ud pl cl lf h) (hm : hi.toInt = max Y.toInt mo.toInt) (h1 : 1 ≤ h.toInt) (hx : ¬ sp_isParagraph np x = 0) :
    (sp_performedBy np dd x = -1 → (sp_doing np dd f x = -1 → SS np ns Y σ (lp_behindDoing np gd lo pd σ 101 x 0 (sp_doing_va np dd f x) h ud) (lp_behindDoing_co_5 (sp_doing_co_5 en np dd f x) np gd lo pd σ 101 x 0 (sp_doing_va np dd f x) h ud) (lp_behindDoing_va np gd lo pd σ 101 x 0 (sp_doing_va np dd f x) h ud) (lp_behindDoing_pi_3 np gd lo pd σ 101 x 0 (sp_doing_va np dd f x) h ud) hi (lp_behindDoing_tu np gd lo pd σ 101 x 0 (sp_doing_va np dd f x) h ud) pd lo
        (sp_M_doing np ns h f vdoes vgos vfrom vto vkind vtimes vcond vlev vask vcc vvar vleast vfirst vstep pl cl lf x) (sp_M_doing_ad1 ns h f vdoes vgos vfrom vto vkind vtimes vcond vlev vask vcc vvar vleast vfirst vstep pl cl lf x) (sp_M_doing_mo_22 ns h f vdoes vgos vfrom vto vkind vtimes vcond vlev vask vcc vvar vleast vfirst vstep pl cl lf x) (sp_M_doing_mo_23 ns h mo f vdoes vfrom vkind vtimes vcond vlev vask vcc vvar vleast vfirst vstep pl lf x) (sp_M_doing_ad19 ns h vdoes vkind vcond vlev pl x) (sp_M_doing_ad20 ns h vdoes vkind vcond vlev cl x) (sp_M_doing_ad21 ns h f vdoes vgos vfrom vto vkind vtimes vcond vlev vask vcc vvar vleast vfirst vstep pl cl lf x)) ∧
      (¬ sp_doing np dd f x = -1 → SS np ns Y σ (sp_doing np dd f x) (sp_doing_co_5 en np dd f x) (sp_doing_va np dd f x) h hi ud pd lo
        (sp_M_doing np ns h f vdoes vgos vfrom vto vkind vtimes vcond vlev vask vcc vvar vleast vfirst vstep pl cl lf x) (sp_M_doing_ad1 ns h f vdoes vgos vfrom vto vkind vtimes vcond vlev vask vcc vvar vleast vfirst vstep pl cl lf x) (sp_M_doing_mo_22 ns h f vdoes vgos vfrom vto vkind vtimes vcond vlev vask vcc vvar vleast vfirst vstep pl cl lf x) (sp_M_doing_mo_23 ns h mo f vdoes vfrom vkind vtimes vcond vlev vask vcc vvar vleast vfirst vstep pl lf x) (sp_M_doing_ad19 ns h vdoes vkind vcond vlev pl x) (sp_M_doing_ad20 ns h vdoes vkind vcond vlev cl x) (sp_M_doing_ad21 ns h f vdoes vgos vfrom vto vkind vtimes vcond vlev vask vcc vvar vleast vfirst vstep pl cl lf x))) ∧
    (¬ sp_performedBy np dd x = -1 → (sp_performing ns h f (sp_performedBy np dd x) σ = -1 → SS np ns Y σ (lp_behindDoing np gd (sp_performing_la ns h lo (sp_performedBy np dd x) σ) (sp_performing_pe ns h pd (sp_performedBy np dd x) x σ) σ 101 x 0 (sp_performing_va ns h f (sp_performedBy np dd x) σ) (sp_performing_pi_3 ns h f (sp_performedBy np dd x) σ) (sp_performing_tu ns h ud (sp_performedBy np dd x) σ)) (lp_behindDoing_co_5 (sp_performing_co_5 en ns h (sp_performedBy np dd x) σ) np gd (sp_performing_la ns h lo (sp_performedBy np dd x) σ) (sp_performing_pe ns h pd (sp_performedBy np dd x) x σ) σ 101 x 0 (sp_performing_va ns h f (sp_performedBy np dd x) σ) (sp_performing_pi_3 ns h f (sp_performedBy np dd x) σ) (sp_performing_tu ns h ud (sp_performedBy np dd x) σ)) (lp_behindDoing_va np gd (sp_performing_la ns h lo (sp_performedBy np dd x) σ) (sp_performing_pe ns h pd (sp_performedBy np dd x) x σ) σ 101 x 0 (sp_performing_va ns h f (sp_performedBy np dd x) σ) (sp_performing_pi_3 ns h f (sp_performedBy np dd x) σ) (sp_performing_tu ns h ud (sp_performedBy np dd x) σ)) (lp_behindDoing_pi_3 np gd (sp_performing_la ns h lo (sp_performedBy np dd x) σ) (sp_performing_pe ns h pd (sp_performedBy np dd x) x σ) σ 101 x 0 (sp_performing_va ns h f (sp_performedBy np dd x) σ) (sp_performing_pi_3 ns h f (sp_performedBy np dd x) σ) (sp_performing_tu ns h ud (sp_performedBy np dd x) σ)) (sp_performing_pi_4 ns h hi f (sp_performedBy np dd x) σ) (lp_behindDoing_tu np gd (sp_performing_la ns h lo (sp_performedBy np dd x) σ) (sp_performing_pe ns h pd (sp_performedBy np dd x) x σ) σ 101 x 0 (sp_performing_va ns h f (sp_performedBy np dd x) σ) (sp_performing_pi_3 ns h f (sp_performedBy np dd x) σ) (sp_performing_tu ns h ud (sp_performedBy np dd x) σ)) (sp_performing_pe ns h pd (sp_performedBy np dd x) x σ) (sp_performing_la ns h lo (sp_performedBy np dd x) σ)
        (sp_M_doing np ns h f vdoes vgos vfrom vto vkind vtimes vcond vlev vask vcc vvar vleast vfirst vstep pl cl lf x) (sp_M_doing_ad1 ns h f vdoes vgos vfrom vto vkind vtimes vcond vlev vask vcc vvar vleast vfirst vstep pl cl lf x) (sp_M_doing_mo_22 ns h f vdoes vgos vfrom vto vkind vtimes vcond vlev vask vcc vvar vleast vfirst vstep pl cl lf x) (sp_M_doing_mo_23 ns h mo f vdoes vfrom vkind vtimes vcond vlev vask vcc vvar vleast vfirst vstep pl lf x) (sp_M_doing_ad19 ns h vdoes vkind vcond vlev pl x) (sp_M_doing_ad20 ns h vdoes vkind vcond vlev cl x) (sp_M_doing_ad21 ns h f vdoes vgos vfrom vto vkind vtimes vcond vlev vask vcc vvar vleast vfirst vstep pl cl lf x)) ∧
      (¬ sp_performing ns h f (sp_performedBy np dd x) σ = -1 → SS np ns Y σ (sp_performing ns h f (sp_performedBy np dd x) σ) (sp_performing_co_5 en ns h (sp_performedBy np dd x) σ) (sp_performing_va ns h f (sp_performedBy np dd x) σ) (sp_performing_pi_3 ns h f (sp_performedBy np dd x) σ) (sp_performing_pi_4 ns h hi f (sp_performedBy np dd x) σ) (sp_performing_tu ns h ud (sp_performedBy np dd x) σ) (sp_performing_pe ns h pd (sp_performedBy np dd x) x σ) (sp_performing_la ns h lo (sp_performedBy np dd x) σ)
        (sp_M_doing np ns h f vdoes vgos vfrom vto vkind vtimes vcond vlev vask vcc vvar vleast vfirst vstep pl cl lf x) (sp_M_doing_ad1 ns h f vdoes vgos vfrom vto vkind vtimes vcond vlev vask vcc vvar vleast vfirst vstep pl cl lf x) (sp_M_doing_mo_22 ns h f vdoes vgos vfrom vto vkind vtimes vcond vlev vask vcc vvar vleast vfirst vstep pl cl lf x) (sp_M_doing_mo_23 ns h mo f vdoes vfrom vkind vtimes vcond vlev vask vcc vvar vleast vfirst vstep pl lf x) (sp_M_doing_ad19 ns h vdoes vkind vcond vlev pl x) (sp_M_doing_ad20 ns h vdoes vkind vcond vlev cl x) (sp_M_doing_ad21 ns h f vdoes vgos vfrom vto vkind vtimes vcond vlev vask vcc vvar vleast vfirst vstep pl cl lf x))) := by
  obtain ⟨⟨hn0, hn6, hs0, hs6⟩, hpar, hsta⟩ := id HG
  obtain ⟨x1, x2, x3⟩ := isPar_ne hx
  have H0 := H.1
  have H1 := H.2.1
  have e1 : (x - 1).toInt = x.toInt - 1 := i32_sub1 (by omega)
  have b1 := clampI (x := x - 1) (by omega)
  have b2 := clampI (x := x) (by omega)
  have zx : x.toNatClampNeg = (x - 1).toNatClampNeg + 1 := by omega
  obtain ⟨d1, -, d3, -, -⟩ := hpar (x - 1).toNatClampNeg (by omega)
  have hd : vdoes x.toNatClampNeg = sp_doingOf np dd x := by
    rw [sp_doingOf, if_neg hx, zx, d1]
  have hd0 : 0 ≤ (sp_doingOf np dd x).toInt := by
    rw [sp_doingOf, if_neg hx]
    exact d3
  unfold sp_performedBy sp_doing sp_doing_va sp_doing_co_5 sp_M_doing sp_M_doing_ad1 sp_M_doing_mo_22 sp_M_doing_mo_23 sp_M_doing_ad19 sp_M_doing_ad20 sp_M_doing_ad21
  rw [hd]
  generalize sp_doingOf np dd x = d at hd0
  have r8 := i32_rem8 hd0
  have v8 := i32_div8 hd0
  have v128 := i32_div128 hd0
  have r16 := i32_rem16 (x := d / 8) (by omega)
  have ne8 : ¬ d / 8 = -1 := i_ne (k := -1) rfl (by omega)
  have i0 : ¬ ((d / 8) - (d / 8) / 16 * 16) < 0 := i_nlt (k := 0) rfl (by omega)
  have i16 : ¬ 16 ≤ ((d / 8) - (d / 8) / 16 * 16) := i_nge (k := 16) rfl (by omega)
  have k0 : (0 : Int32).toInt = 0 := rfl
  have beh : ∀ (en9 : Int32) (g9 : Nat → Int64), _ := fun en9 g9 => q_behind (dd := dd) (vdoes := vdoes) (vtimes := vtimes) (vcond := vcond) HG en9 101 102 x 0 h g9 ud lf (by omega) (by omega) (by omega) (by omega) H (Or.inr ⟨x1, x2, h1⟩)
  by_cases c2 : (d - d / 8 * 8) = 2
  · have c1 : ¬ (d - d / 8 * 8) = 1 := fun e => absurd (c2.symm.trans e) (by decide)
    simp only [if_pos c2, if_neg c1]
    refine ⟨fun e => absurd e ne8, fun _ => ?_⟩
    obtain ⟨E1, E2, E3, E4, E5⟩ := q_enter HG (h := h) (hi := hi) (mo := mo) (Y := Y) en (d / 8) x f H (Or.inr ⟨h1, x1, x2⟩) hm
    rcases E1 with ⟨a1, a2, a3⟩ | ⟨a1, a2, a4, a5⟩
    · simp only [a1, if_pos a2]
      refine ⟨fun _ => ?_, fun e => absurd trivial e⟩
      rw [← E2, ← E3]
      have B := q_behind (dd := dd) (vdoes := vdoes) (vtimes := vtimes) (vcond := vcond) HG (sp_performing_co_5 en ns h (d / 8) σ) 101 102 x 0 (sp_performing_pi_3 ns h f (d / 8) σ) (sp_performing_va ns h f (d / 8) σ) _ _ (by omega) (by omega) (by rw [a3]; omega) (by rw [a3]; omega) E4 (Or.inr ⟨x1, x2, by rw [a3]; exact h1⟩)
      exact ⟨B.1, B.2.1, B.2.2.1, B.2.2.2.1, E5, B.2.2.2.2⟩
    · simp only [if_neg a2]
      exact ⟨fun e => absurd e a1, fun _ => ⟨a4, E2, E3, E4, E5, a5⟩⟩
  · simp only [if_neg c2]
    refine ⟨fun _ => ?_, fun e => absurd trivial e⟩
    by_cases c1 : (d - d / 8 * 8) = 1
    · simp only [if_pos c1]
      refine ⟨fun _ => ?_, fun e => absurd trivial e⟩
      rw [sp_Cells_grow_va, if_neg i0, if_neg i16]
      have B := beh en (vp_updL f ((d / 8) - (d / 8) / 16 * 16).toNatClampNeg ((f ((d / 8) - (d / 8) / 16 * 16).toNatClampNeg) + (d / 128).toInt64))
      exact ⟨B.1, B.2.1, B.2.2.1, B.2.2.2.1, hm, B.2.2.2.2⟩
    · simp only [if_neg c1]
      by_cases c3 : (d - d / 8 * 8) = 3
      · simp only [if_pos c3]
        exact ⟨fun e => absurd e (going_ne (by omega)), fun _ => ⟨nr_going0 hn6 (by omega), rfl, rfl, H, hm, fun _ => h1⟩⟩
      · simp only [if_neg c3]
        by_cases c4 : (d - d / 8 * 8) = 4
        · simp only [if_pos c4]
          rw [sp_Cells_value, if_neg i0, if_neg i16]
          by_cases c5 : 0 < lg_cmp (f ((d / 8) - (d / 8) / 16 * 16).toNatClampNeg) 0
          · simp only [if_pos c5]
            rw [sp_Cells_grow_va, if_neg i0, if_neg i16]
            exact ⟨fun e => absurd e (going_ne (by omega)), fun _ => ⟨nr_going0 hn6 (by omega), by rw [Int64.sub_eq_add_neg], rfl, H, hm, fun _ => h1⟩⟩
          · simp only [if_neg c5]
            refine ⟨fun _ => ?_, fun e => absurd trivial e⟩
            have B := beh en f
            exact ⟨B.1, B.2.1, B.2.2.1, B.2.2.2.1, hm, B.2.2.2.2⟩
        · simp only [if_neg c4]
          refine ⟨fun _ => ?_, fun e => absurd trivial e⟩
          have B := beh en f
          exact ⟨B.1, B.2.1, B.2.2.1, B.2.2.2.1, hm, B.2.2.2.2⟩
end EQ8
