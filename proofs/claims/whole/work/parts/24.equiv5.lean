section EQ5
variable {np ns : Int32} {dd gd : Nat → Int32} {σ : Nat → Stm} {vdoes vgos vfrom vto vkind vtimes vcond vlev vask vcc vvar : Nat → Int32} {vleast vfirst vstep : Nat → Int64} {lo : Nat → Option Nat} {pd pl cl : Nat → Int32}
set_option maxHeartbeats 4000000 in
/-- behindDoing is behind -/
theorem q_behind (HG : PRG np ns dd gd σ vdoes vgos vfrom vto vkind vtimes vcond vlev vask vcc vvar vleast vfirst vstep) (en : Int32) : ∀ (n m : Nat) (hr k h : Int32) (g : Nat → Int64) (ud lf : Nat → Int32), k.toInt + n = 101 → 0 ≤ k.toInt → k.toInt + h.toInt ≤ 100 → h.toInt + 2 ≤ m → PRel np ns σ lo pd ud pl cl lf h → (hr.toInt = 0 ∨ (1 ≤ hr.toInt ∧ hr.toInt ≤ np.toInt ∧ 1 ≤ h.toInt)) →
    NR np (lp_behindDoing np gd lo pd σ n hr k g h ud) (lp_behindDoing_co_5 en np gd lo pd σ n hr k g h ud) (lp_M_behind np vgos vfrom vto vkind vlev vask vcc vvar vleast vfirst vstep pl cl m hr g lf h) ∧
    lp_behindDoing_va np gd lo pd σ n hr k g h ud = lp_M_behind_ad1 vgos vfrom vto vkind vlev vask vcc vvar vleast vfirst vstep pl cl m hr g lf h ∧
    lp_behindDoing_pi_3 np gd lo pd σ n hr k g h ud = lp_M_behind_mo_22 vgos vfrom vto vkind vlev vask vcc vvar vleast vfirst vstep pl cl m hr g lf h ∧
    PRel np ns σ lo pd (lp_behindDoing_tu np gd lo pd σ n hr k g h ud) pl cl (lp_M_behind_ad21 vgos vfrom vto vkind vlev vask vcc vvar vleast vfirst vstep pl cl m hr g lf h) (lp_behindDoing_pi_3 np gd lo pd σ n hr k g h ud) ∧
    (¬ lp_behindDoing np gd lo pd σ n hr k g h ud = 0 → 1 ≤ (lp_behindDoing_pi_3 np gd lo pd σ n hr k g h ud).toInt)
  | 0, m, hr, k, h, g, ud, lf, a, b, c, d, H, q => by
    have := H.1
    omega
  | n + 1, 0, hr, k, h, g, ud, lf, a, b, c, d, H, q => by
    have := H.1
    omega
  | n + 1, m + 1, hr, k, h, g, ud, lf, a, b, c, d, H, q => by
    obtain ⟨⟨hn0, hn6, hs0, hs6⟩, hpar, hsta⟩ := id HG
    have H0 := H.1
    rw [lp_behindDoing, lp_behindDoing_co_5, lp_behindDoing_va, lp_behindDoing_pi_3, lp_behindDoing_tu, lp_M_behind, lp_M_behind_ad1, lp_M_behind_mo_22, lp_M_behind_ad21]
    rcases q with q | ⟨q1, q2, q3⟩
    · have z1 : hr = 0 := i_eq (k := 0) rfl q
      have z2 : hr ≤ 0 := i_le (k := 0) rfl (by omega)
      simp only [if_pos z1, if_pos z2, ite_self]
      refine ⟨Or.inr ⟨rfl, Or.inl ⟨rfl, rfl⟩⟩, trivial, trivial, H, fun e => absurd trivial e⟩
    · have n1 : ¬ (100 : Int32) ≤ k := i_nge (k := 100) rfl (by omega)
      have n2 : ¬ hr = 0 := i_ne (k := 0) rfl (by omega)
      have n3 : ¬ hr ≤ 0 := i_nle (k := 0) rfl (by omega)
      have e1 : (hr - 1).toInt = hr.toInt - 1 := i32_sub1 (by omega)
      have b1 := clampI (x := hr - 1) (by omega)
      have b2 := clampI (x := hr) (by omega)
      obtain ⟨-, g2, -, g4, g5⟩ := hpar (hr - 1).toNatClampNeg (by omega)
      have gg : sp_goingOf np gd hr = vgos hr.toNatClampNeg := by
        rw [sp_goingOf, if_neg (par_ok q1 q2 (by omega)), ← g2]
        congr 1
        omega
      have g4' : 0 ≤ (vgos hr.toNatClampNeg).toInt := by
        rw [show hr.toNatClampNeg = (hr - 1).toNatClampNeg + 1 by omega, g2]
        exact g4
      simp only [if_neg n1, if_neg n2, if_neg n3, gg]
      by_cases cg : vgos hr.toNatClampNeg = 0
      · have cg' : vgos hr.toNatClampNeg ≤ 0 := by rw [cg]; decide
        simp only [if_pos cg, if_pos cg']
        have hne : ¬ h = 0 := i_ne (k := 0) rfl (by omega)
        have eh : (h - 1).toInt = h.toInt - 1 := i32_sub1 (by omega)
        have bh1 := clampI (x := h - 1) (by omega)
        have bh2 := clampI (x := h) (by omega)
        have zh : h.toNatClampNeg = (h - 1).toNatClampNeg + 1 := by omega
        obtain ⟨j, p1, p2, p3, p4, p5, p6, p7⟩ := H.2.2 (h - 1).toNatClampNeg (by omega)
        rw [← zh] at p3 p4 p5
        obtain ⟨hS, f1, f2, -, -⟩ := hsta j p2
        have hj : j < 60 := by omega
        have cl3 : (pl h.toNatClampNeg).toNatClampNeg = j + 1 := q_clamp p3
        have tp : sp_top h lo = some j := by
          rw [sp_top, if_neg (i_nle (k := 0) rfl (by omega)), if_neg (i_ngt (k := 100) rfl H.2.1), p1]
        have vt : vto (pl h.toNatClampNeg).toNatClampNeg = st_t (σ j) := by rw [cl3]; exact hS.2.1
        have vk : vkind (pl h.toNatClampNeg).toNatClampNeg = st_k (σ j) := by rw [cl3]; exact hS.2.2.1
        have vf : vfrom (pl h.toNatClampNeg).toNatClampNeg = st_f (σ j) := by rw [cl3]; exact hS.1
        simp only [tp, oc_some, if_neg hne, vt]
        by_cases ct : st_t (σ j) = hr
        · simp only [if_pos ct]
          have lt1 : ¬ h < 1 := i_nlt (k := 1) rfl (by omega)
          have le100 : h ≤ 100 := i_le (k := 100) rfl H.2.1
          have cu : sp_Pile_countTurn h ud = ud (h - 1).toNatClampNeg + 1 := by
            rw [sp_Pile_countTurn, if_neg lt1, if_pos le100, pk_us]
          have cu2 : sp_Pile_countTurn_tu h ud = upd ud (h - 1).toNatClampNeg (ud (h - 1).toNatClampNeg + 1) := by
            rw [sp_Pile_countTurn_tu, if_neg lt1, if_pos le100]
          have to1 : sp_Pile_takeOff h pd = pd (h - 1).toNatClampNeg := by
            rw [sp_Pile_takeOff, if_neg lt1, if_pos le100]
          have to2 : sp_Pile_takeOff_pi_3 h = h - 1 := by
            rw [sp_Pile_takeOff_pi_3, if_neg lt1, if_pos le100]
          have hu : st_k (σ j) = 1 → ((ud (h - 1).toNatClampNeg) + 1).toInt = (ud (h - 1).toNatClampNeg).toInt + 1 := fun ck => by
            obtain ⟨x1, x2, x3⟩ := p5 ck
            have bb := Int32.toInt_lt (st_n (σ j))
            exact i32_add1 (by omega)
          obtain ⟨m1, m2⟩ := q_more (xsize := h) (vpile := pl) (vleft := lf) hS hj p3 p6 g (u := ud (h - 1).toNatClampNeg + 1) (fun ck => by
            obtain ⟨x1, x2, x3⟩ := p5 ck
            have := hu ck
            omega)
          simp only [cu, cu2, to1, to2, m1, m2, sp_M_again, sp_M_again_mo_22, vf]
          by_cases ca : sp_M_goesAgain h g vkind vlev vask vcc vvar vleast vfirst vstep pl lf 0 = 0
          · simp only [if_pos ca, if_true]
            rw [p4]
            have e2 : (k + 1).toInt = k.toInt + 1 := i32_add1 (by omega)
            refine q_behind HG en n m (pd (h - 1).toNatClampNeg) (k + 1) (h - 1) _ _ _ (by omega) (by omega) (by omega) (by omega) (q_lower H eh (by omega)) ?_
            rcases p7 with ⟨x1, x2⟩ | ⟨x1, x2, x3⟩
            · left
              rw [x2]
              rfl
            · right
              exact ⟨x2, x3, by omega⟩
          · have nf : ¬ st_f (σ j) = 0 := i_ne (k := 0) rfl (by omega)
            simp only [if_neg ca, if_neg nf]
            refine ⟨Or.inl ⟨f1, par_ok f1 f2 (by omega), rfl⟩, trivial, trivial, q_same H (by omega) (fun j2 hj2 => ?_), fun _ => by omega⟩
            rw [p1] at hj2
            cases hj2
            refine ⟨vk, fun ck => ?_⟩
            rw [← m1, sp_goesOnceMore, if_neg (by rw [ck]; decide), if_pos ck] at ca
            by_cases cc : st_n (σ j) ≤ ud (h - 1).toNatClampNeg + 1
            · rw [if_pos cc] at ca
              exact absurd rfl ca
            · have := mt Int32.le_iff_toInt_le.mpr cc
              omega
        · simp only [if_neg ct]
          exact ⟨nr_fall hn6 q1 q2, trivial, trivial, H, fun _ => q3⟩
      · have cg' : ¬ vgos hr.toNatClampNeg ≤ 0 := fun e => by
          have e9 := Int32.le_iff_toInt_le.mp e
          rw [show (0 : Int32).toInt = 0 from rfl] at e9
          exact cg (i_eq (k := 0) rfl (by omega))
        have cg2 := mt Int32.le_iff_toInt_le.mpr cg'
        rw [show (0 : Int32).toInt = 0 from rfl] at cg2
        simp only [if_neg cg, if_neg cg']
        exact ⟨nr_going hn6 (by omega), trivial, trivial, H, fun _ => q3⟩
end EQ5
