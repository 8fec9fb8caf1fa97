/-! EQUIVALENCE call by call: until, vary -/
def mkS (f t k n a c l : Int32) (kc : Nat → Int32) (kv : Nat → Int64) (lc : Nat → Int32) (fv lz : Nat → Int64) : Stm := (f, t, k, n, a, c, l, kc, kv, lc, fv, lz)
theorem sup_same {σ : Nat → Stm} {i : Nat} {v : Stm} (h : v = σ i) : sup σ i v = σ := by
  funext k
  by_cases c : k = i
  · rw [c, sup_self, h]
  · rw [sup_ne c]
section EQ12
variable {np ns ln hh hi hi2 : Int32} {dd gd rd : Nat → Int32} {σ : Nat → Stm} {lo lo2 : Nat → Option Nat} {vdoes vgos vfrom vto vkind vtimes vcond vlev vask vcc vvar vpile vcall vlord vlpile : Nat → Int32} {vleast vfirst vstep : Nat → Int64}
theorem e_stN (hs : ns.toInt ≤ 60) {x : Int32} (h : sp_stAt ns x = none) : sp_M_isStatement ns x = 0 := by
  unfold sp_stAt at h
  unfold sp_M_isStatement
  by_cases c1 : x < 1
  · have c' := Int32.lt_iff_toInt_lt.mp c1
    rw [show (1 : Int32).toInt = 1 from rfl] at c'
    rw [if_pos (i_le (k := 0) rfl (by omega))]
  · rw [if_neg c1] at h
    have c' := mt Int32.lt_iff_toInt_lt.mpr c1
    rw [show (1 : Int32).toInt = 1 from rfl] at c'
    rw [if_neg (i_nle (k := 0) rfl (by omega))]
    by_cases c2 : ns < x
    · rw [if_pos c2]
    · have c2' := mt Int32.lt_iff_toInt_lt.mpr c2
      rw [if_neg c2, if_pos (i_le (k := 60) rfl (by omega))] at h
      cases h
theorem e_stS {x : Int32} {i : Nat} (h : sp_stAt ns x = some i) : x.toInt = (i : Int) + 1 ∧ (i : Int) < ns.toInt ∧ ¬ sp_M_isStatement ns x = 0 := by
  unfold sp_stAt at h
  unfold sp_M_isStatement
  by_cases c1 : x < 1
  · rw [if_pos c1] at h
    cases h
  · rw [if_neg c1] at h
    have c' := mt Int32.lt_iff_toInt_lt.mpr c1
    rw [show (1 : Int32).toInt = 1 from rfl] at c'
    rw [if_neg (i_nle (k := 0) rfl (by omega))]
    by_cases c2 : ns < x
    · rw [if_pos c2] at h
      cases h
    · have c2' := mt Int32.lt_iff_toInt_lt.mpr c2
      rw [if_neg c2] at h
      rw [if_neg c2]
      by_cases c3 : x ≤ 60
      · rw [if_pos c3] at h
        have e1 : (x - 1).toInt = x.toInt - 1 := i32_sub1 (by omega)
        have b1 := clampI (x := x - 1) (by omega)
        have := Option.some.inj h
        exact ⟨by omega, by omega, by decide⟩
      · rw [if_neg c3] at h
        cases h
theorem e_cell {x : Int32} : sp_M_isCell x = sp_isCell x := rfl
theorem e_cell_ne {x : Int32} (h : ¬ sp_isCell x = 0) : 0 ≤ x.toInt ∧ x.toInt ≤ 15 := by
  unfold sp_isCell at h
  by_cases c1 : x < 0
  · rw [if_pos c1] at h
    exact absurd rfl h
  · rw [if_neg c1] at h
    by_cases c2 : 16 ≤ x
    · rw [if_pos c2] at h
      exact absurd rfl h
    · have a1 := mt Int32.lt_iff_toInt_lt.mpr c1
      have a2 := mt Int32.le_iff_toInt_le.mpr c2
      rw [show (0 : Int32).toInt = 0 from rfl] at a1
      rw [show (16 : Int32).toInt = 16 from rfl] at a2
      omega
theorem e_untilN (hs : ns.toInt ≤ 60) {x cx b : Int32} {w : Int64} (h : sp_stAt ns x = none) : sp_M_until ns vkind vcond x cx = -1 ∧ sp_M_until_ad13 ns vkind vcond vask x cx b = vask ∧ sp_M_until_ad14 ns vkind vcond vcc x cx = vcc ∧ sp_M_until_ad16 ns vkind vcond vleast x cx w = vleast ∧ sp_M_until_ad11 ns vkind vcond x cx = vcond := by
  have c := e_stN hs h
  simp only [sp_M_until, sp_M_until_ad13, sp_M_until_ad14, sp_M_until_ad16, sp_M_until_ad11, if_pos c]
  trivial
theorem e_varyN (hs : ns.toInt ≤ 60) {x y cx : Int32} {w w2 : Int64} (h : sp_stAt ns x = none) : sp_M_vary ns vkind vlev x y cx = -1 ∧ sp_M_vary_ad15 ns vkind vlev vvar x y cx = vvar ∧ sp_M_vary_ad17 ns vkind vlev vfirst x y cx w = vfirst ∧ sp_M_vary_ad18 ns vkind vlev vstep x y cx w2 = vstep ∧ sp_M_vary_ad12 ns vkind vlev x y cx = vlev := by
  have c := e_stN hs h
  simp only [sp_M_vary, sp_M_vary_ad15, sp_M_vary_ad17, sp_M_vary_ad18, sp_M_vary_ad12, if_pos c]
  trivial
/-- the statement i0, told a condition -/
def stU (s : Stm) (cx b : Int32) (y : Int64) : Stm := mkS (st_f s) (st_t s) (st_k s) (st_n s) (sp_PR_until_sai0_4 (st_k s) (st_a s) (st_c s) cx b) (sp_PR_until_sai0_5 (st_k s) (st_c s) cx) (st_l s) (sp_PR_until_acc (st_k s) (st_c s) (st_kc s) cx) (sp_PR_until_acv (st_k s) (st_c s) (st_kv s) cx y) (st_lc s) (st_fv s) (st_lz s)
set_option maxHeartbeats 1000000 in
theorem e_until (H : RP np ns dd gd σ vdoes vgos vfrom vto vkind vtimes vcond vlev vask vcc vvar vleast vfirst vstep) {x cx b : Int32} {y : Int64} {i0 : Nat} (hst : sp_stAt ns x = some i0) :
    sp_PR_until (st_k (σ i0)) (st_c (σ i0)) cx = sp_M_until ns vkind vcond x cx ∧
    RP np ns dd gd (sup σ i0 (stU (σ i0) cx b y)) vdoes vgos vfrom vto vkind vtimes (sp_M_until_ad11 ns vkind vcond x cx) vlev (sp_M_until_ad13 ns vkind vcond vask x cx b) (sp_M_until_ad14 ns vkind vcond vcc x cx) vvar (sp_M_until_ad16 ns vkind vcond vleast x cx y) vfirst vstep := by
  obtain ⟨x1, i1, c0⟩ := e_stS hst
  obtain ⟨⟨⟨hn0, hn6, hs0, hs6⟩, hpar, hsta⟩, ⟨g1, g2, g3, g4, g5, g6⟩, hz1, hz2⟩ := id H
  obtain ⟨⟨s1, s2, s3, s4, s5, s6, s7, s8, s9, s10, s11, s12⟩, f1, f2, f3, f4⟩ := hsta i0 i1
  have cx0 : x.toNatClampNeg = i0 + 1 := q_clamp x1
  have same : ∀ (v : Stm), v = σ i0 → RP np ns dd gd (sup σ i0 v) vdoes vgos vfrom vto vkind vtimes vcond vlev vask vcc vvar vleast vfirst vstep := fun v hv => by rw [sup_same hv]; exact H
  unfold stU sp_PR_until sp_PR_until_sai0_4 sp_PR_until_sai0_5 sp_PR_until_acc sp_PR_until_acv sp_M_until sp_M_until_ad11 sp_M_until_ad13 sp_M_until_ad14 sp_M_until_ad16
  simp only [if_neg c0, cx0, s3, s5, e_cell]
  by_cases c1 : sp_isCell cx = 0
  · simp only [if_pos c1]
    exact ⟨trivial, same _ rfl⟩
  · simp only [if_neg c1]
    obtain ⟨cx1, cx2⟩ := e_cell_ne c1
    unfold sp_addCondition sp_addCondition_sm_4 sp_addCondition_sm_5 sp_addCondition_acc sp_addCondition_acv
    by_cases c2 : st_k (σ i0) < 2
    · have c2' := Int32.lt_iff_toInt_lt.mp c2
      rw [show (2 : Int32).toInt = 2 from rfl] at c2'
      have d2 : ¬ st_k (σ i0) = 2 := i_ne (k := 2) rfl (by omega)
      have d3 : ¬ st_k (σ i0) = 3 := i_ne (k := 3) rfl (by omega)
      simp only [if_pos c2, if_neg d2, if_neg d3]
      exact ⟨trivial, same _ rfl⟩
    · have c2' := mt Int32.lt_iff_toInt_lt.mpr c2
      rw [show (2 : Int32).toInt = 2 from rfl] at c2'
      have two : ∀ {α : Type} (A B : α), (if st_k (σ i0) = 2 then A else if st_k (σ i0) = 3 then A else B) = A := fun A B => by
        by_cases d2 : st_k (σ i0) = 2
        · rw [if_pos d2]
        · have d2' : ¬ (st_k (σ i0)).toInt = 2 := fun e => d2 (i_eq (k := 2) rfl e)
          rw [if_neg d2, if_pos (i_eq (k := 3) rfl (by omega))]
      simp only [if_neg c2, two]
      by_cases c3 : st_c (σ i0) = 7
      · have d : ¬ st_c (σ i0) < 7 := by rw [c3]; decide
        simp only [if_pos c3, if_neg d]
        exact ⟨trivial, same _ rfl⟩
      · have c3' : ¬ (st_c (σ i0)).toInt = 7 := fun e => c3 (i_eq (k := 7) rfl e)
        have d : st_c (σ i0) < 7 := i_lt (k := 7) rfl (by omega)
        simp only [if_neg c3, if_pos d, pk_us]
        have bc := clampI (x := st_c (σ i0)) f3
        have e1 : (st_c (σ i0) + 1).toInt = (st_c (σ i0)).toInt + 1 := i32_add1 (by omega)
        have a2 : (8 * x).toInt = 8 * x.toInt := i32_mul8 (by omega) (by omega)
        have a3 : ((8 * x) + st_c (σ i0)).toInt = (8 * x).toInt + (st_c (σ i0)).toInt := i32_add (by omega) (by omega)
        have a4 : (((8 * x) + st_c (σ i0)) - 8).toInt = ((8 * x) + st_c (σ i0)).toInt - 8 := i32_subl (c := 8) rfl (by omega) (by omega)
        have b4 := clampI (x := ((8 * x) + st_c (σ i0)) - 8) (by omega)
        have ix : (((8 * x) + st_c (σ i0)) - 8).toNatClampNeg = 8 * i0 + (st_c (σ i0)).toNatClampNeg := by omega
        rw [ix]
        generalize hcn : (st_c (σ i0)).toNatClampNeg = cn at bc ix
        refine ⟨trivial, ⟨⟨hn0, hn6, hs0, hs6⟩, hpar, fun j hj => ?_⟩, ⟨g1, g2, fun i => upd_all (P := fun v => 0 ≤ v.toInt ∧ v.toInt ≤ 7) g3 ⟨by omega, by omega⟩ i, g4, fun i => upd_all (P := fun v => 0 ≤ v.toInt ∧ v.toInt ≤ 15) g5 ⟨cx1, cx2⟩ i, g6⟩, hz1, fun i hi => ?_⟩
        · by_cases cj : j = i0
          · rw [cj, sup_self]
            refine ⟨⟨s1, s2, s3, s4, pk_us, s6, ?_, ⟨fun k hk => ?_, fun k => ⟨upd_all (P := fun v => 0 ≤ v.toInt ∧ v.toInt ≤ 15) (fun k => (s8.2 k).1) ⟨cx1, cx2⟩ k, (s8.2 k).2⟩⟩, s9, s10, s11, s12⟩, f1, f2, by show 0 ≤ (st_c (σ i0) + 1).toInt; omega, by show (st_c (σ i0) + 1).toInt ≤ 7; omega⟩
            · show (if st_c (σ i0) = 0 then upd vask (i0 + 1) b else vask) (i0 + 1) = (if st_c (σ i0) = 0 then b else st_a (σ i0))
              by_cases c4 : st_c (σ i0) = 0
              · rw [if_pos c4, if_pos c4, pk_us]
              · rw [if_neg c4, if_neg c4]
                exact s7
            · obtain ⟨t1, t2, t3, t4, t5⟩ := s8.1 k hk
              by_cases ck : k = cn
              · subst ck
                exact ⟨pk_us.trans pk_us.symm, pk_uls.trans pk_uls.symm, t3, t4, t5⟩
              · have ck2 : 8 * i0 + k ≠ 8 * i0 + cn := by omega
                exact ⟨(pk_un ck2).trans (t1.trans (pk_un ck).symm), (pk_uln ck2).trans (t2.trans (pk_uln ck).symm), t3, t4, t5⟩
          · obtain ⟨⟨u1, u2, u3, u4, u5, u6, u7, u8, u9⟩, u10⟩ := hsta j hj
            have cj1 : j + 1 ≠ i0 + 1 := by omega
            rw [sup_ne cj]
            refine ⟨⟨u1, u2, u3, u4, (pk_un cj1).trans u5, u6, ?_, ⟨fun k hk => ?_, u8.2⟩, u9⟩, u10⟩
            · by_cases c4 : st_c (σ i0) = 0
              · rw [if_pos c4]
                exact (pk_un cj1).trans u7
              · rw [if_neg c4]
                exact u7
            · obtain ⟨t1, t2, t3, t4, t5⟩ := u8.1 k hk
              have ck2 : 8 * j + k ≠ 8 * i0 + cn := by omega
              exact ⟨(pk_un ck2).trans t1, (pk_uln ck2).trans t2, t3, t4, t5⟩
        · obtain ⟨u1, u2, u3, u4⟩ := hz2 i hi
          have cj1 : i + 1 ≠ i0 + 1 := by omega
          refine ⟨(pk_un cj1).trans u1, u2, ?_, fun k hk => ?_⟩
          · by_cases c4 : st_c (σ i0) = 0
            · rw [if_pos c4]
              exact (pk_un cj1).trans u3
            · rw [if_neg c4]
              exact u3
          · obtain ⟨t1, t2, t3, t4, t5⟩ := u4 k hk
            have ck2 : 8 * i + k ≠ 8 * i0 + cn := by omega
            exact ⟨(pk_un ck2).trans t1, (pk_uln ck2).trans t2, t3, t4, t5⟩
/-- the statement i0, told a level -/
def stV (s : Stm) (lv cx : Int32) (y y2 : Int64) : Stm := mkS (st_f s) (st_t s) (st_k s) (st_n s) (st_a s) (st_c s) (sp_PR_vary_sai0_6 (st_k s) (st_l s) lv cx) (st_kc s) (st_kv s) (sp_PR_vary_alc (st_k s) (st_l s) (st_lc s) lv cx) (sp_PR_vary_afv (st_k s) (st_l s) (st_fv s) lv cx y) (sp_PR_vary_als (st_k s) (st_l s) (st_lz s) lv cx y2)
set_option maxHeartbeats 1000000 in
theorem e_vary (H : RP np ns dd gd σ vdoes vgos vfrom vto vkind vtimes vcond vlev vask vcc vvar vleast vfirst vstep) (HQ : RQ ns vfrom vkind vlev vpile vcall) {x lv cx : Int32} {y y2 : Int64} {i0 : Nat} (hst : sp_stAt ns x = some i0) :
    sp_PR_vary (st_k (σ i0)) (st_l (σ i0)) lv cx = sp_M_vary ns vkind vlev x lv cx ∧
    RP np ns dd gd (sup σ i0 (stV (σ i0) lv cx y y2)) vdoes vgos vfrom vto vkind vtimes vcond (sp_M_vary_ad12 ns vkind vlev x lv cx) vask vcc (sp_M_vary_ad15 ns vkind vlev vvar x lv cx) vleast (sp_M_vary_ad17 ns vkind vlev vfirst x lv cx y) (sp_M_vary_ad18 ns vkind vlev vstep x lv cx y2) ∧
    RQ ns vfrom vkind (sp_M_vary_ad12 ns vkind vlev x lv cx) vpile vcall := by
  obtain ⟨x1, i1, c0⟩ := e_stS hst
  obtain ⟨⟨⟨hn0, hn6, hs0, hs6⟩, hpar, hsta⟩, ⟨g1, g2, g3, g4, g5, g6⟩, hz1, hz2⟩ := id H
  obtain ⟨⟨s1, s2, s3, s4, s5, s6, s7, s8, s9, s10, s11, s12⟩, f1, f2, f3, f4⟩ := hsta i0 i1
  have cx0 : x.toNatClampNeg = i0 + 1 := q_clamp x1
  have same : ∀ (v : Stm), v = σ i0 → RP np ns dd gd (sup σ i0 v) vdoes vgos vfrom vto vkind vtimes vcond vlev vask vcc vvar vleast vfirst vstep ∧ RQ ns vfrom vkind vlev vpile vcall := fun v hv => by rw [sup_same hv]; exact ⟨H, HQ⟩
  unfold stV sp_PR_vary sp_PR_vary_sai0_6 sp_PR_vary_alc sp_PR_vary_afv sp_PR_vary_als sp_M_vary sp_M_vary_ad12 sp_M_vary_ad15 sp_M_vary_ad17 sp_M_vary_ad18
  simp only [if_neg c0, cx0, s3, s6, e_cell]
  by_cases c1 : sp_isCell cx = 0
  · simp only [if_pos c1]
    exact ⟨trivial, same _ rfl⟩
  · simp only [if_neg c1]
    obtain ⟨cx1, cx2⟩ := e_cell_ne c1
    unfold sp_tellLevel sp_tellLevel_sm_6 sp_tellLevel_alc sp_tellLevel_afv sp_tellLevel_als
    by_cases c2 : st_k (σ i0) = 3
    · simp only [if_pos c2]
      by_cases c3 : lv < 1
      · simp only [if_pos c3]
        exact ⟨trivial, same _ rfl⟩
      · simp only [if_neg c3]
        have e1 : (st_l (σ i0) + 1).toInt = (st_l (σ i0)).toInt + 1 := i32_add1 (by omega)
        have l1 : 1 ≤ lv.toInt := by
          have := mt Int32.lt_iff_toInt_lt.mpr c3
          rw [show (1 : Int32).toInt = 1 from rfl] at this
          omega
        by_cases c4 : 7 < lv
        · have c4' := Int32.lt_iff_toInt_lt.mp c4
          rw [show (7 : Int32).toInt = 7 from rfl] at c4'
          have d : ¬ lv ≤ 7 := i_nle (k := 7) rfl (by omega)
          simp only [if_pos c4, if_neg d, ite_self]
          exact ⟨trivial, same _ rfl⟩
        · have c4' := mt Int32.lt_iff_toInt_lt.mpr c4
          rw [show (7 : Int32).toInt = 7 from rfl] at c4'
          have d : lv ≤ 7 := i_le (k := 7) rfl (by omega)
          simp only [if_neg c4, if_pos d]
          by_cases c5 : (st_l (σ i0) + 1) < lv
          · have c5' := Int32.lt_iff_toInt_lt.mp c5
            have d5 : ¬ lv ≤ st_l (σ i0) + 1 := fun e => by have := Int32.le_iff_toInt_le.mp e; omega
            simp only [if_pos c5, if_neg d5]
            exact ⟨trivial, same _ rfl⟩
          · have c5' := mt Int32.lt_iff_toInt_lt.mpr c5
            have d5 : lv ≤ st_l (σ i0) + 1 := Int32.le_iff_toInt_le.mpr (by omega)
            simp only [if_neg c5, if_pos d5, pk_us]
            have ml : (if lv ≤ st_l (σ i0) then st_l (σ i0) else lv) = imax (st_l (σ i0)) lv := by
              unfold imax
              by_cases c6 : lv ≤ st_l (σ i0)
              · have := Int32.le_iff_toInt_le.mp c6
                rw [if_pos c6, if_neg (fun e => by have := Int32.lt_iff_toInt_lt.mp e; omega)]
              · have := mt Int32.le_iff_toInt_le.mpr c6
                rw [if_neg c6, if_pos (Int32.lt_iff_toInt_lt.mpr (by omega))]
            have mv : (if lv ≤ st_l (σ i0) then upd vlev (i0 + 1) (st_l (σ i0)) else upd vlev (i0 + 1) lv) = upd vlev (i0 + 1) (imax (st_l (σ i0)) lv) := by
              rw [← ml]
              by_cases c6 : lv ≤ st_l (σ i0)
              · rw [if_pos c6, if_pos c6]
              · rw [if_neg c6, if_neg c6]
            have m1 : 1 ≤ (imax (st_l (σ i0)) lv).toInt ∧ (imax (st_l (σ i0)) lv).toInt ≤ 7 := by
              unfold imax
              by_cases c6 : st_l (σ i0) < lv
              · rw [if_pos c6]
                omega
              · have := mt Int32.lt_iff_toInt_lt.mpr c6
                rw [if_neg c6]
                omega
            rw [ml, mv]
            obtain ⟨ix, ixl⟩ := q_ix x1 (by omega) l1 (by omega)
            rw [ix]
            generalize (lv - 1).toNatClampNeg = cn at ix ixl
            generalize imax (st_l (σ i0)) lv = mx at m1
            refine ⟨rfl, ⟨⟨⟨hn0, hn6, hs0, hs6⟩, hpar, fun j hj => ?_⟩, ⟨g1, g2, g3, fun i => upd_all (P := fun v => 0 ≤ v.toInt ∧ v.toInt ≤ 7) g4 ⟨by omega, by omega⟩ i, g5, fun i => upd_all (P := fun v => 0 ≤ v.toInt ∧ v.toInt ≤ 15) g6 ⟨cx1, cx2⟩ i⟩, hz1, fun i hi => ?_⟩, fun k => ?_, HQ.2⟩
            · by_cases cj : j = i0
              · rw [cj, sup_self]
                refine ⟨⟨s1, s2, s3, s4, s5, pk_us, s7, ⟨fun k hk => ?_, fun k => ⟨(s8.2 k).1, upd_all (P := fun v => 0 ≤ v.toInt ∧ v.toInt ≤ 15) (fun k => (s8.2 k).2) ⟨cx1, cx2⟩ k⟩⟩, by show 0 ≤ mx.toInt; omega, m1.2, s11, s12⟩, f1, f2, f3, f4⟩
                obtain ⟨t1, t2, t3, t4, t5⟩ := s8.1 k hk
                by_cases ck : k = cn
                · subst ck
                  exact ⟨t1, t2, pk_us.trans pk_us.symm, pk_uls.trans pk_uls.symm, pk_uls.trans pk_uls.symm⟩
                · have ck2 : 8 * i0 + k ≠ 8 * i0 + cn := by omega
                  exact ⟨t1, t2, (pk_un ck2).trans (t3.trans (pk_un ck).symm), (pk_uln ck2).trans (t4.trans (pk_uln ck).symm), (pk_uln ck2).trans (t5.trans (pk_uln ck).symm)⟩
              · obtain ⟨⟨u1, u2, u3, u4, u5, u6, u7, u8, u9⟩, u10⟩ := hsta j hj
                have cj1 : j + 1 ≠ i0 + 1 := by omega
                rw [sup_ne cj]
                refine ⟨⟨u1, u2, u3, u4, u5, (pk_un cj1).trans u6, u7, ⟨fun k hk => ?_, u8.2⟩, u9⟩, u10⟩
                obtain ⟨t1, t2, t3, t4, t5⟩ := u8.1 k hk
                have ck2 : 8 * j + k ≠ 8 * i0 + cn := by omega
                exact ⟨t1, t2, (pk_un ck2).trans t3, (pk_uln ck2).trans t4, (pk_uln ck2).trans t5⟩
            · obtain ⟨u1, u2, u3, u4⟩ := hz2 i hi
              have cj1 : i + 1 ≠ i0 + 1 := by omega
              refine ⟨u1, (pk_un cj1).trans u2, u3, fun k hk => ?_⟩
              obtain ⟨t1, t2, t3, t4, t5⟩ := u4 k hk
              have ck2 : 8 * i + k ≠ 8 * i0 + cn := by omega
              exact ⟨t1, t2, (pk_un ck2).trans t3, (pk_uln ck2).trans t4, (pk_uln ck2).trans t5⟩
            · obtain ⟨⟨p1, p2, p3⟩, p4⟩ := HQ.1 k
              refine ⟨⟨p1, p2, fun h => ⟨(p3 h).1, fun a b c => ?_⟩⟩, p4⟩
              by_cases cq : (vpile k).toNatClampNeg = i0 + 1
              · rw [cq, pk_us]
                exact m1.1
              · rw [pk_un cq]
                exact (p3 h).2 a b c
    · simp only [if_neg c2]
      exact ⟨trivial, same _ rfl⟩
end EQ12
