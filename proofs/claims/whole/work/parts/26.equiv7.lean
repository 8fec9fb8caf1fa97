section EQ7
variable {np ns : Int32} {dd gd : Nat → Int32} {σ : Nat → Stm} {vdoes vgos vfrom vto vkind vtimes vcond vlev vask vcc vvar : Nat → Int32} {vleast vfirst vstep : Nat → Int64} {lo : Nat → Option Nat} {pd ud pl cl lf : Nat → Int32}
set_option maxHeartbeats 4000000 in
/-- performing is enter -/
theorem q_enter (HG : PRG np ns dd gd σ vdoes vgos vfrom vto vkind vtimes vcond vlev vask vcc vvar vleast vfirst vstep) {h hi mo Y : Int32} (en x y : Int32) (f : Nat → Int64) (H : PRel np ns σ lo pd ud pl cl lf h) (hy : (h.toInt = 0 ∧ y = 0) ∨ (1 ≤ h.toInt ∧ 1 ≤ y.toInt ∧ y.toInt ≤ np.toInt)) (hm : hi.toInt = max Y.toInt mo.toInt) :
    ((sp_performing ns h f x σ = -1 ∧ sp_M_enter ns h f vfrom vkind vtimes vcond vlev vask vcc vvar vleast vfirst vstep pl lf x = 0 ∧ sp_performing_pi_3 ns h f x σ = h) ∨ (¬ sp_performing ns h f x σ = -1 ∧ ¬ sp_M_enter ns h f vfrom vkind vtimes vcond vlev vask vcc vvar vleast vfirst vstep pl lf x = 0 ∧ NR np (sp_performing ns h f x σ) (sp_performing_co_5 en ns h x σ) (sp_M_enter ns h f vfrom vkind vtimes vcond vlev vask vcc vvar vleast vfirst vstep pl lf x) ∧ (¬ sp_performing ns h f x σ = 0 → 1 ≤ (sp_performing_pi_3 ns h f x σ).toInt))) ∧
    sp_performing_va ns h f x σ = sp_M_enter_ad1 ns h f vkind vcond vlev vask vcc vvar vleast vfirst vstep pl x ∧
    sp_performing_pi_3 ns h f x σ = sp_M_enter_mo_22 ns h f vkind vtimes vcond vlev vask vcc vvar vleast vfirst vstep pl lf x ∧
    PRel np ns σ (sp_performing_la ns h lo x σ) (sp_performing_pe ns h pd x y σ) (sp_performing_tu ns h ud x σ) (sp_M_enter_ad19 ns h vkind vcond vlev pl x) (sp_M_enter_ad20 ns h vkind vcond vlev cl x y) (sp_M_enter_ad21 ns h vkind vtimes vcond vlev pl lf x) (sp_performing_pi_3 ns h f x σ) ∧
    (sp_performing_pi_4 ns h hi f x σ).toInt = max Y.toInt (sp_M_enter_mo_23 ns h mo vkind vcond vlev x).toInt := by
  obtain ⟨⟨hn0, hn6, hs0, hs6⟩, hpar, hsta⟩ := id HG
  have H0 := H.1
  have H1 := H.2.1
  unfold sp_performing sp_performing_co_5 sp_performing_va sp_performing_pi_3 sp_performing_pi_4 sp_performing_la sp_performing_pe sp_performing_tu sp_M_enter sp_M_enter_ad1 sp_M_enter_mo_22 sp_M_enter_ad19 sp_M_enter_ad20 sp_M_enter_ad21 sp_M_enter_mo_23
  rcases q_whole HG x with ⟨w1, w2⟩ | ⟨j, w1, w2, w3, w4, w5⟩
  · simp only [w1, oc_none, if_pos w2]
    exact ⟨Or.inr ⟨by decide, by decide, Or.inr ⟨rfl, Or.inr (Or.inr (Or.inl ⟨rfl, rfl⟩))⟩, fun e => absurd trivial e⟩, trivial, trivial, H, hm⟩
  · simp only [w1, oc_some, if_neg w2]
    by_cases c : h = 100
    · have nf : ¬ sp_Pile_isFull h = 0 := by
        rw [sp_Pile_isFull, if_neg (by rw [c]; decide)]
        decide
      simp only [if_pos c, if_neg nf]
      exact ⟨Or.inr ⟨by decide, by decide, Or.inr ⟨rfl, Or.inr (Or.inr (Or.inr (Or.inl ⟨rfl, rfl⟩)))⟩, fun e => absurd trivial e⟩, trivial, trivial, H, hm⟩
    · have c' : ¬ h.toInt = 100 := fun e => c (i_eq (k := 100) rfl e)
      have h99 : h < 100 := i_lt (k := 100) rfl (by omega)
      have fl : sp_Pile_isFull h = 0 := by rw [sp_Pile_isFull, if_pos h99]
      have h0 : (0 : Int32) ≤ h := i_ge (k := 0) rfl H0
      have e1 : (h + 1).toInt = h.toInt + 1 := i32_add1 (by omega)
      obtain ⟨hS, f1, f2, -, -⟩ := hsta j w4
      have hj : j < 60 := by omega
      have cx : x.toNatClampNeg = j + 1 := q_clamp w3
      have vt : vtimes x.toNatClampNeg = st_n (σ j) := by rw [cx]; exact hS.2.2.2.1
      have vk : vkind x.toNatClampNeg = st_k (σ j) := by rw [cx]; exact hS.2.2.1
      have vf : vfrom x.toNatClampNeg = st_f (σ j) := by rw [cx]; exact hS.1
      have l1 : sp_lay_la h lo j = va_up lo h.toNatClampNeg (some j) := by rw [sp_lay_la, if_pos fl, if_pos h0]
      have l2 : sp_lay_pe h pd y = upd pd h.toNatClampNeg y := by rw [sp_lay_pe, if_pos fl, if_pos h0]
      have l3 : sp_lay_tu h ud = upd ud h.toNatClampNeg 0 := by rw [sp_lay_tu, if_pos fl, if_pos h0]
      have l4 : sp_lay_pi_3 h = h + 1 := by rw [sp_lay_pi_3, if_pos fl, if_pos h0]
      have l5 : sp_lay_pi_4 h hi = imax hi (h + 1) := by rw [sp_lay_pi_4, if_pos fl, if_pos h0]
      have l6 : sp_Pile_takeOff_pi_3 (h + 1) = h := by
        rw [sp_Pile_takeOff_pi_3, if_neg (i_nlt (k := 1) rfl (by omega)), if_pos (i_le (k := 100) rfl (by omega))]
        exact Int32.toInt_inj.mp (by rw [i32_sub1 (by omega)]; omega)
      have mx : (imax hi (h + 1)).toInt = max Y.toInt (if h + 1 ≤ mo then mo else h + 1).toInt := by
        unfold imax
        by_cases a : h + 1 ≤ mo
        · have a' := Int32.le_iff_toInt_le.mp a
          rw [if_pos a]
          by_cases b : hi < h + 1
          · have b' := Int32.lt_iff_toInt_lt.mp b
            omega
          · rw [if_neg b]
            exact hm
        · have a' := mt Int32.le_iff_toInt_le.mpr a
          rw [if_neg a]
          by_cases b : hi < h + 1
          · have b' := Int32.lt_iff_toInt_lt.mp b
            rw [if_pos b]
            omega
          · have b' := mt Int32.lt_iff_toInt_lt.mpr b
            rw [if_neg b]
            omega
      have sm1 : (h + 1) - 1 = h := Int32.toInt_inj.mp (by rw [i32_sub1 (by omega)]; omega)
      have pt : upd pl (h + 1).toNatClampNeg x (h + 1).toNatClampNeg = x := pk_us
      /- the two ways in which the number of turns is laid -/
      have key : ∀ t0 : Int32, t0.toInt = (if 0 ≤ (st_n (σ j)).toInt then (st_n (σ j)).toInt else 0) →
          sp_goesAtFirst (st_k (σ j)) (st_n (σ j)) (st_a (σ j)) (st_l (σ j)) (st_kc (σ j)) (st_kv (σ j)) (st_lc (σ j)) (st_fv (σ j)) (st_lz (σ j)) f = sp_M_goesAgain (h + 1) f vkind vlev vask vcc vvar vleast vfirst vstep (upd pl (h + 1).toNatClampNeg x) (upd lf (h + 1).toNatClampNeg t0) 1 ∧
          sp_goesAtFirst_va (st_k (σ j)) (st_a (σ j)) (st_l (σ j)) (st_kc (σ j)) (st_kv (σ j)) (st_lc (σ j)) (st_fv (σ j)) (st_lz (σ j)) f = sp_M_goesAgain_ad1 (h + 1) f vkind vlev vask vcc vvar vleast vfirst vstep (upd pl (h + 1).toNatClampNeg x) 1 :=
        fun t0 ht => q_at hS hj (by rw [pt]; exact w3) w5 f (fun _ => by rw [pk_us]; exact ht)
      have lfo : ∀ (t0 : Int32) (q : Nat), q ≠ (h + 1).toNatClampNeg → sp_M_goesAgain_ad21 (h + 1) vkind (upd pl (h + 1).toNatClampNeg x) (upd lf (h + 1).toNatClampNeg t0) q = lf q := fun t0 q hq => by
        rw [q_left_ne hq, pk_un hq]
      have fin : ∀ t0 : Int32, t0.toInt = (if 0 ≤ (st_n (σ j)).toInt then (st_n (σ j)).toInt else 0) →
          ¬ sp_goesAtFirst (st_k (σ j)) (st_n (σ j)) (st_a (σ j)) (st_l (σ j)) (st_kc (σ j)) (st_kv (σ j)) (st_lc (σ j)) (st_fv (σ j)) (st_lz (σ j)) f = 0 →
          PRel np ns σ (va_up lo h.toNatClampNeg (some j)) (upd pd h.toNatClampNeg y) (upd ud h.toNatClampNeg 0) (upd pl (h + 1).toNatClampNeg x) (upd cl (h + 1).toNatClampNeg y) (sp_M_goesAgain_ad21 (h + 1) vkind (upd pl (h + 1).toNatClampNeg x) (upd lf (h + 1).toNatClampNeg t0)) (h + 1) := fun t0 ht hne => by
        refine q_push H e1 (by omega) w4 w3 w5 hy (v := sp_M_goesAgain_ad21 (h + 1) vkind (upd pl (h + 1).toNatClampNeg x) (upd lf (h + 1).toNatClampNeg t0) (h + 1).toNatClampNeg) (w := 0) (fun ck => ?_) rfl (lfo t0)
        rw [sp_goesAtFirst, if_neg (by rw [ck]; decide), if_pos ck] at hne
        by_cases cn : st_n (σ j) ≤ 0
        · rw [if_pos cn] at hne
          exact absurd rfl hne
        · have cn' := mt Int32.le_iff_toInt_le.mpr cn
          rw [show (0 : Int32).toInt = 0 from rfl] at cn'
          rw [if_pos (by omega)] at ht
          rw [q_left_1 (by rw [pt, vk, ck]), pk_us, i32_sub1 (by omega)]
          omega
      have nfz : ¬ st_f (σ j) = 0 := i_ne (k := 0) rfl (by omega)
      have nfm : ¬ st_f (σ j) = -1 := i_ne (k := -1) rfl (by omega)
      simp only [if_neg c, if_pos fl, l1, l2, l3, l4, l5, l6, vt, sp_M_again, sp_M_again_mo_22, pt, vf, sm1, ite_self]
      by_cases ct : (0 : Int32) ≤ st_n (σ j)
      · have ct' := Int32.le_iff_toInt_le.mp ct
        rw [show (0 : Int32).toInt = 0 from rfl] at ct'
        have ht : (st_n (σ j)).toInt = (if 0 ≤ (st_n (σ j)).toInt then (st_n (σ j)).toInt else 0) := by rw [if_pos ct']
        obtain ⟨k1, k2⟩ := key (st_n (σ j)) ht
        have fin := fin (st_n (σ j)) ht
        simp only [if_pos ct]
        rw [k1] at fin
        rw [k1, k2]
        by_cases ca : sp_M_goesAgain (h + 1) f vkind vlev vask vcc vvar vleast vfirst vstep (upd pl (h + 1).toNatClampNeg x) (upd lf (h + 1).toNatClampNeg (st_n (σ j))) 1 = 0
        · simp only [if_pos ca]
          exact ⟨Or.inl ⟨trivial, trivial, trivial⟩, trivial, trivial, q_above H e1 (lfo _), mx⟩
        · simp only [if_neg ca]
          exact ⟨Or.inr ⟨nfm, nfz, Or.inl ⟨f1, par_ok f1 f2 (by omega), rfl⟩, fun _ => by omega⟩, trivial, trivial, fin ca, mx⟩
      · have ct' := mt Int32.le_iff_toInt_le.mpr ct
        rw [show (0 : Int32).toInt = 0 from rfl] at ct'
        have ht : (0 : Int32).toInt = (if 0 ≤ (st_n (σ j)).toInt then (st_n (σ j)).toInt else 0) := by rw [if_neg ct']; rfl
        obtain ⟨k1, k2⟩ := key 0 ht
        have fin := fin 0 ht
        simp only [if_neg ct]
        rw [k1] at fin
        rw [k1, k2]
        by_cases ca : sp_M_goesAgain (h + 1) f vkind vlev vask vcc vvar vleast vfirst vstep (upd pl (h + 1).toNatClampNeg x) (upd lf (h + 1).toNatClampNeg 0) 1 = 0
        · simp only [if_pos ca]
          exact ⟨Or.inl ⟨trivial, trivial, trivial⟩, trivial, trivial, q_above H e1 (lfo _), mx⟩
        · simp only [if_neg ca]
          exact ⟨Or.inr ⟨nfm, nfz, Or.inl ⟨f1, par_ok f1 f2 (by omega), rfl⟩, fun _ => by omega⟩, trivial, trivial, fin ca, mx⟩
end EQ7
