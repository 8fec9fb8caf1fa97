/-! EQUIVALENCE call by call: statements -/
def sup (σ : Nat → Stm) (i : Nat) (v : Stm) : Nat → Stm := fun k => if k = i then v else σ k
theorem sup_self {σ : Nat → Stm} {i : Nat} {v : Stm} : sup σ i v i = v := if_pos rfl
theorem sup_ne {σ : Nat → Stm} {i k : Nat} {v : Stm} (h : k ≠ i) : sup σ i v k = σ k := if_neg h
theorem pk_uls {f : Nat → Int64} {k : Nat} {v : Int64} : vp_updL f k v k = v := by simp [vp_updL]
theorem pk_uln {f : Nat → Int64} {k q : Nat} {v : Int64} (h : q ≠ k) : vp_updL f k v q = f q := by simp [vp_updL, h]
section EQ11
variable {np ns ln hh hi hi2 : Int32} {dd gd rd : Nat → Int32} {σ : Nat → Stm} {lo lo2 : Nat → Option Nat} {vdoes vgos vfrom vto vkind vtimes vcond vlev vask vcc vvar vpile vcall vlord vlpile : Nat → Int32} {vleast vfirst vstep : Nat → Int64}
/-- perform: refused -/
theorem e_performN (hn : np.toInt ≤ 60) (hs : ns.toInt ≤ 60) {x y kd : Int32} (hN : (sp_isParagraph np x) = 0 ∨ (sp_isParagraph np y) = 0 ∨ kd < 0 ∨ 3 < kd ∨ ¬ (sp_isFullOfStatements ns) = 0) (tm : Int32) :
    sp_M_perform np ns x y kd = -1 ∧ sp_M_perform_mo_4 np ns x y kd = ns ∧ sp_M_perform_ad7 np ns vfrom x y kd = vfrom ∧ sp_M_perform_ad8 np ns vto x y kd = vto ∧ sp_M_perform_ad9 np ns vkind x y kd = vkind ∧ sp_M_perform_ad10 np ns vtimes x y kd tm = vtimes := by
  unfold sp_M_perform sp_M_perform_mo_4 sp_M_perform_ad7 sp_M_perform_ad8 sp_M_perform_ad9 sp_M_perform_ad10
  by_cases c1 : sp_M_isParagraph np x = 0
  · simp only [if_pos c1]
    trivial
  · by_cases c2 : sp_M_isParagraph np y = 0
    · simp only [if_neg c1, if_pos c2]
      trivial
    · by_cases c3 : kd < 0
      · simp only [if_neg c1, if_neg c2, if_pos c3]
        trivial
      · by_cases c4 : 3 < kd
        · simp only [if_neg c1, if_neg c2, if_neg c3, if_pos c4]
          trivial
        · have c5 : ns = 60 := by
            rcases hN with h | h | h | h | h
            · exact absurd ((q_isPar hn).mpr h) c1
            · exact absurd ((q_isPar hn).mpr h) c2
            · exact absurd h c3
            · exact absurd h c4
            · unfold sp_isFullOfStatements at h
              by_cases d : ns < 60
              · rw [if_pos d] at h
                exact absurd rfl h
              · have d' := mt Int32.lt_iff_toInt_lt.mpr d
                rw [show (60 : Int32).toInt = 60 from rfl] at d'
                exact i_eq (k := 60) rfl (by omega)
          simp only [if_neg c1, if_neg c2, if_neg c3, if_neg c4, if_pos c5]
          trivial
def newStm (x y kd tm : Int32) : Stm := (x, y, kd, tm, 0, 0, 0, fun _ => 0, fun _ => 0, fun _ => 0, fun _ => 0, fun _ => 0)
/-- perform: a new statement -/
theorem e_perform (H : RP np ns dd gd σ vdoes vgos vfrom vto vkind vtimes vcond vlev vask vcc vvar vleast vfirst vstep) (HQ : RQ ns vfrom vkind vlev vpile vcall) (HR : RR ns ln hh hi hi2 rd lo lo2 vlord vlpile) {x y kd tm : Int32} (hx1 : ¬ (sp_isParagraph np x) = 0) (hx2 : ¬ (sp_isParagraph np y) = 0) (hx3 : ¬ kd < 0) (hx4 : ¬ 3 < kd) (hx5 : (sp_isFullOfStatements ns) = 0) :
    ns + 1 = sp_M_perform np ns x y kd ∧ sp_M_perform_mo_4 np ns x y kd = ns + 1 ∧ ns.toNatClampNeg < 60 ∧ (ns.toNatClampNeg : Int) = ns.toInt ∧ (ns + 1).toInt = ns.toInt + 1 ∧
    RP np (ns + 1) dd gd (sup σ ns.toNatClampNeg (newStm x y kd tm)) vdoes vgos (sp_M_perform_ad7 np ns vfrom x y kd) (sp_M_perform_ad8 np ns vto x y kd) (sp_M_perform_ad9 np ns vkind x y kd) (sp_M_perform_ad10 np ns vtimes x y kd tm) vcond vlev vask vcc vvar vleast vfirst vstep ∧
    RQ (ns + 1) (sp_M_perform_ad7 np ns vfrom x y kd) (sp_M_perform_ad9 np ns vkind x y kd) vlev vpile vcall ∧ RR (ns + 1) ln hh hi hi2 rd lo lo2 vlord vlpile := by
  obtain ⟨⟨⟨hn0, hn6, hs0, hs6⟩, hpar, hsta⟩, ⟨g1, g2, g3, g4, g5, g6⟩, hz1, hz2⟩ := id H
  have n60 := isFullS_0 hx5
  have c1 : ¬ sp_M_isParagraph np x = 0 := fun e => hx1 ((q_isPar hn6).mp e)
  have c2 : ¬ sp_M_isParagraph np y = 0 := fun e => hx2 ((q_isPar hn6).mp e)
  have c5 : ¬ ns = 60 := i_ne (k := 60) rfl (by omega)
  obtain ⟨x1, x2, x3⟩ := isPar_ne hx1
  have k0 : 0 ≤ kd.toInt := by
    have := mt Int32.lt_iff_toInt_lt.mpr hx3
    rw [show (0 : Int32).toInt = 0 from rfl] at this
    omega
  have k3 : kd.toInt ≤ 3 := by
    have := mt Int32.lt_iff_toInt_lt.mpr hx4
    rw [show (3 : Int32).toInt = 3 from rfl] at this
    omega
  have e1 : (ns + 1).toInt = ns.toInt + 1 := i32_add1 (by omega)
  have b1 := clampI (x := ns) (by omega)
  have b2 := clampI (x := ns + 1) (by omega)
  have zn : (ns + 1).toNatClampNeg = ns.toNatClampNeg + 1 := by omega
  simp only [sp_M_perform, sp_M_perform_mo_4, sp_M_perform_ad7, sp_M_perform_ad8, sp_M_perform_ad9, sp_M_perform_ad10, if_neg c1, if_neg c2, if_neg hx3, if_neg hx4, if_neg c5]
  rw [zn]
  generalize hi0 : ns.toNatClampNeg = i0 at b1 zn
  refine ⟨trivial, trivial, by omega, by omega, e1, ⟨⟨⟨hn0, hn6, by omega, by omega⟩, hpar, fun j hj => ?_⟩, ⟨g1, fun i => upd_all (P := fun v => 0 ≤ v.toInt ∧ v.toInt ≤ 3) g2 ⟨k0, k3⟩ i, g3, g4, g5, g6⟩, hz1, fun i hi => hz2 i (by omega)⟩, ⟨fun k => ?_, HQ.2⟩, ?_⟩
  · by_cases cj : j = i0
    · rw [cj, sup_self]
      obtain ⟨z1, z2, z3, z4⟩ := hz2 i0 (by omega)
      refine ⟨⟨pk_us, pk_us, pk_us, pk_us, z1, z2, z3, ⟨fun k hk => z4 k hk, fun k => ⟨⟨(show (0 : Int) ≤ (0 : Int32).toInt by decide), (show (0 : Int32).toInt ≤ 15 by decide)⟩, (show (0 : Int) ≤ (0 : Int32).toInt by decide), (show (0 : Int32).toInt ≤ 15 by decide)⟩⟩, (show (0 : Int) ≤ (0 : Int32).toInt by decide), (show (0 : Int32).toInt ≤ 7 by decide), k0, k3⟩, x1, x2, (show (0 : Int) ≤ (0 : Int32).toInt by decide), (show (0 : Int32).toInt ≤ 7 by decide)⟩
    · have cj1 : j + 1 ≠ i0 + 1 := by omega
      rw [sup_ne cj]
      obtain ⟨⟨a1, a2, a3, a4, a5⟩, a6⟩ := hsta j (by omega)
      exact ⟨⟨by rw [pk_un cj1]; exact a1, by rw [pk_un cj1]; exact a2, by rw [pk_un cj1]; exact a3, by rw [pk_un cj1]; exact a4, a5⟩, a6⟩
  · obtain ⟨⟨p1, p2, p3⟩, p4⟩ := HQ.1 k
    have bv := clampI (x := vpile k) p1
    have ne : (vpile k).toNatClampNeg ≠ i0 + 1 := by omega
    exact ⟨⟨p1, p2, fun h => by rw [pk_un ne, pk_un ne]; exact p3 h⟩, by omega⟩
  · obtain ⟨r1, ⟨r2, r3, r4⟩, r5, r6, r7, r8⟩ := HR
    refine ⟨r1, ⟨r2, r3, fun k hk => ?_⟩, r5, fun k j h => ?_, fun k j h => ?_, r8⟩
    · obtain ⟨j, a1, a2, a3⟩ := r4 k hk
      exact ⟨j, a1, by omega, a3⟩
    · have := r6 k j h
      omega
    · have := r7 k j h
      omega
end EQ11
