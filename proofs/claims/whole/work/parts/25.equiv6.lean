theorem q_wh {k c l : Int32} (k0 : 0 ≤ k.toInt) (k3 : k.toInt ≤ 3) : (sp_isWhole k c l = 0 ∧ (if k < 2 then (1 : Int32) else if k = 2 then (if 0 < c then 1 else if k = 3 then (if l ≤ 0 then 0 else if c < l then 0 else 1) else 0) else if k = 3 then (if l ≤ 0 then 0 else if c < l then 0 else 1) else 0) = 0) ∨ (sp_isWhole k c l = 1 ∧ (if k < 2 then (1 : Int32) else if k = 2 then (if 0 < c then 1 else if k = 3 then (if l ≤ 0 then 0 else if c < l then 0 else 1) else 0) else if k = 3 then (if l ≤ 0 then 0 else if c < l then 0 else 1) else 0) = 1 ∧ (¬ k = 0 → ¬ k = 1 → ¬ k = 2 → 1 ≤ l.toInt)) := by
  unfold sp_isWhole
  by_cases k2 : k = 2
  · subst k2
    have n2 : ¬ (2 : Int32) < 2 := by decide
    have n3 : ¬ (2 : Int32) = 3 := by decide
    by_cases cc : c ≤ 0
    · have ng : ¬ 0 < c := i_ngt (k := 0) rfl (by have := Int32.le_iff_toInt_le.mp cc; rw [show (0 : Int32).toInt = 0 from rfl] at this; exact this)
      exact Or.inl ⟨by rw [if_pos rfl, if_pos cc], by rw [if_neg n2, if_pos rfl, if_neg ng, if_neg n3]⟩
    · have cc' := mt Int32.le_iff_toInt_le.mpr cc
      rw [show (0 : Int32).toInt = 0 from rfl] at cc'
      have ng : 0 < c := i_gt (k := 0) rfl (by omega)
      exact Or.inr ⟨by rw [if_pos rfl, if_neg cc], by rw [if_neg n2, if_pos rfl, if_pos ng], fun _ _ h => absurd rfl h⟩
  · by_cases k33 : k = 3
    · subst k33
      have n2 : ¬ (3 : Int32) < 2 := by decide
      by_cases cl0 : l ≤ 0
      · exact Or.inl ⟨by rw [if_neg k2, if_pos rfl, if_pos cl0], by rw [if_neg n2, if_neg k2, if_pos rfl, if_pos cl0]⟩
      · have cl' := mt Int32.le_iff_toInt_le.mpr cl0
        rw [show (0 : Int32).toInt = 0 from rfl] at cl'
        by_cases cd : c < l
        · exact Or.inl ⟨by rw [if_neg k2, if_pos rfl, if_neg cl0, if_pos cd], by rw [if_neg n2, if_neg k2, if_pos rfl, if_neg cl0, if_pos cd]⟩
        · exact Or.inr ⟨by rw [if_neg k2, if_pos rfl, if_neg cl0, if_neg cd], by rw [if_neg n2, if_neg k2, if_pos rfl, if_neg cl0, if_neg cd], fun _ _ _ => by omega⟩
    · have n2 : ¬ k.toInt = 2 := fun e => k2 (i_eq (k := 2) rfl e)
      have n3 : ¬ k.toInt = 3 := fun e => k33 (i_eq (k := 3) rfl e)
      refine Or.inr ⟨by rw [if_neg k2, if_neg k33], by rw [if_pos (i_lt (k := 2) rfl (by omega))], fun a b _ => ?_⟩
      have n0 : ¬ k.toInt = 0 := fun e => a (i_eq (k := 0) rfl e)
      have n1 : ¬ k.toInt = 1 := fun e => b (i_eq (k := 1) rfl e)
      omega
section EQ6
variable {np ns : Int32} {dd gd : Nat → Int32} {σ : Nat → Stm} {vdoes vgos vfrom vto vkind vtimes vcond vlev vask vcc vvar : Nat → Int32} {vleast vfirst vstep : Nat → Int64} {lo : Nat → Option Nat} {pd ud pl cl lf : Nat → Int32}
/-- which statement is whole -/
theorem q_whole (HG : PRG np ns dd gd σ vdoes vgos vfrom vto vkind vtimes vcond vlev vask vcc vvar vleast vfirst vstep) (x : Int32) : (sp_whole ns x σ = none ∧ sp_M_isWhole ns vkind vcond vlev x = 0) ∨ ∃ j : Nat, sp_whole ns x σ = some j ∧ ¬ sp_M_isWhole ns vkind vcond vlev x = 0 ∧ x.toInt = (j : Int) + 1 ∧ (j : Int) < ns.toInt ∧ (¬ st_k (σ j) = 0 → ¬ st_k (σ j) = 1 → ¬ st_k (σ j) = 2 → 1 ≤ (st_l (σ j)).toInt) := by
  obtain ⟨⟨hn0, hn6, hs0, hs6⟩, hpar, hsta⟩ := id HG
  unfold sp_whole sp_M_isWhole sp_M_isStatement sp_stAt
  by_cases c1 : x < 1
  · have c1' := Int32.lt_iff_toInt_lt.mp c1
    rw [show (1 : Int32).toInt = 1 from rfl] at c1'
    left
    rw [if_pos c1, if_pos (i_le (k := 0) rfl (by omega) : x ≤ 0), if_pos rfl, oc_none]
    exact ⟨rfl, rfl⟩
  · have c1' := mt Int32.lt_iff_toInt_lt.mpr c1
    rw [show (1 : Int32).toInt = 1 from rfl] at c1'
    have z1 : ¬ x ≤ 0 := i_nle (k := 0) rfl (by omega)
    by_cases c2 : ns < x
    · left
      rw [if_neg c1, if_pos c2, if_neg z1, if_pos c2, if_pos rfl, oc_none]
      exact ⟨rfl, rfl⟩
    · have c2' := mt Int32.lt_iff_toInt_lt.mpr c2
      have e1 : (x - 1).toInt = x.toInt - 1 := i32_sub1 (by omega)
      have b1 := clampI (x := x - 1) (by omega)
      have b2 := clampI (x := x) (by omega)
      have zx : x.toNatClampNeg = (x - 1).toNatClampNeg + 1 := by omega
      obtain ⟨hS, -, -, c0, c7⟩ := hsta (x - 1).toNatClampNeg (by omega)
      obtain ⟨-, -, e3, -, e5, e6, -, -, l0, l7, k0, k3⟩ := hS
      rw [if_neg c1, if_neg c2, if_pos (i_le (k := 60) rfl (by omega) : x ≤ 60), oc_some, if_neg z1, if_neg c2, if_neg (show ¬ (1 : Int32) = 0 by decide), zx, e3, e5, e6]
      generalize (x - 1).toNatClampNeg = j at *
      rcases q_wh (c := st_c (σ j)) (l := st_l (σ j)) k0 k3 with ⟨a, b⟩ | ⟨a, b, d⟩
      · left
        rw [a, if_pos rfl]
        exact ⟨rfl, b⟩
      · right
        rw [a, if_neg (show ¬ (1 : Int32) = 0 by decide)]
        refine ⟨j, rfl, ?_, by omega, by omega, d⟩
        have b : (if st_k (σ j) < 2 then (1 : Int32) else if st_k (σ j) = 2 then (if 0 < st_c (σ j) then 1 else if st_k (σ j) = 3 then (if st_l (σ j) ≤ 0 then 0 else if st_c (σ j) < st_l (σ j) then 0 else 1) else 0) else if st_k (σ j) = 3 then (if st_l (σ j) ≤ 0 then 0 else if st_c (σ j) < st_l (σ j) then 0 else 1) else 0) = 1 := b
        rw [b]
        decide
/-- the pile one higher -/
theorem q_push {h h' x y v w : Int32} {j : Nat} (H : PRel np ns σ lo pd ud pl cl lf h) (e : h'.toInt = h.toInt + 1) (h1 : h.toInt < 100) (hj : (j : Int) < ns.toInt) (hx : x.toInt = (j : Int) + 1) (hw : ¬ st_k (σ j) = 0 → ¬ st_k (σ j) = 1 → ¬ st_k (σ j) = 2 → 1 ≤ (st_l (σ j)).toInt) (hy : (h.toInt = 0 ∧ y = 0) ∨ (1 ≤ h.toInt ∧ 1 ≤ y.toInt ∧ y.toInt ≤ np.toInt)) (hv : st_k (σ j) = 1 → v.toInt = (st_n (σ j)).toInt - 1 ∧ 0 ≤ v.toInt) {lf' : Nat → Int32} (hl1 : lf' h'.toNatClampNeg = v) (hl2 : ∀ q : Nat, q ≠ h'.toNatClampNeg → lf' q = lf q) : PRel np ns σ (va_up lo h.toNatClampNeg (some j)) (upd pd h.toNatClampNeg y) (upd ud h.toNatClampNeg 0) (upd pl h'.toNatClampNeg x) (upd cl h'.toNatClampNeg y) lf' h' := by
  have b1 := clampI (x := h) H.1
  have b2 := clampI (x := h') (by have := H.1; omega)
  have H1 := H.1
  refine ⟨by omega, by omega, fun k hk => ?_⟩
  by_cases ck : k = h.toNatClampNeg
  · subst ck
    have z : h.toNatClampNeg + 1 = h'.toNatClampNeg := by omega
    refine ⟨j, va_up_self _ _ _, hj, ?_, ?_, fun c => ?_, hw, ?_⟩
    · rw [z, pk_us]
      exact hx
    · rw [z, pk_us, pk_us]
    · rw [z, hl1, pk_us, show (0 : Int32).toInt = 0 from rfl]
      have := hv c
      omega
    · rw [pk_us]
      rcases hy with ⟨a, b⟩ | ⟨a, b, c⟩
      · exact Or.inl ⟨by omega, b⟩
      · exact Or.inr ⟨by omega, b, c⟩
  · obtain ⟨j2, p1, p2, p3, p4, p5, p6, p7⟩ := H.2.2 k (by omega)
    refine ⟨j2, by rw [va_up_ne _ _ ck]; exact p1, p2, by rw [pk_un (by omega)]; exact p3, by rw [pk_un (by omega), pk_un ck]; exact p4, fun c => ?_, p6, by rw [pk_un ck]; exact p7⟩
    rw [hl2 _ (by omega), pk_un ck]
    exact p5 c
/-- what lies above the pile doesn't matter -/
theorem q_above {h h' x y v w : Int32} {o : Option Nat} (H : PRel np ns σ lo pd ud pl cl lf h) (e : h'.toInt = h.toInt + 1) {lf' : Nat → Int32} (hl2 : ∀ q : Nat, q ≠ h'.toNatClampNeg → lf' q = lf q) : PRel np ns σ (va_up lo h.toNatClampNeg o) (upd pd h.toNatClampNeg y) (upd ud h.toNatClampNeg w) (upd pl h'.toNatClampNeg x) (upd cl h'.toNatClampNeg v) lf' h := by
  have b1 := clampI (x := h) H.1
  have b2 := clampI (x := h') (by have := H.1; omega)
  refine ⟨H.1, H.2.1, fun k hk => ?_⟩
  obtain ⟨j2, p1, p2, p3, p4, p5, p6, p7⟩ := H.2.2 k hk
  have ck : k ≠ h.toNatClampNeg := by omega
  refine ⟨j2, by rw [va_up_ne _ _ ck]; exact p1, p2, by rw [pk_un (by omega)]; exact p3, by rw [pk_un (by omega), pk_un ck]; exact p4, fun c => ?_, p6, by rw [pk_un ck]; exact p7⟩
  rw [hl2 _ (by omega), pk_un ck]
  exact p5 c
end EQ6
