/-! EQUIVALENCE of the run: the pile, what comes behind a paragraph -/
/-- how class and reference say where a run goes on -/
def NR (np r en p : Int32) : Prop := (1 ≤ p.toInt ∧ ¬ sp_isParagraph np p = 0 ∧ r = p) ∨ (r = 0 ∧ ((p.toInt = 0 ∧ en.toInt = 0) ∨ (p.toInt = -12 ∧ en.toInt = 2) ∨ (p.toInt = -13 ∧ en.toInt = 3) ∨ (p.toInt = -14 ∧ en.toInt = 4) ∨ (1 ≤ p.toInt ∧ sp_isParagraph np p = 0 ∧ en.toInt = 3)))
/-- one place of the pile -/
def PE (np ns : Int32) (σ : Nat → Stm) (lo : Nat → Option Nat) (pd ud pl cl lf : Nat → Int32) (k : Nat) : Prop := ∃ j : Nat, lo k = some j ∧ (j : Int) < ns.toInt ∧ (pl (k + 1)).toInt = (j : Int) + 1 ∧ cl (k + 1) = pd k ∧
  (st_k (σ j) = 1 → (lf (k + 1)).toInt = (st_n (σ j)).toInt - (ud k).toInt - 1 ∧ 0 ≤ (lf (k + 1)).toInt ∧ 0 ≤ (ud k).toInt) ∧ (¬ st_k (σ j) = 0 → ¬ st_k (σ j) = 1 → ¬ st_k (σ j) = 2 → 1 ≤ (st_l (σ j)).toInt) ∧ ((k = 0 ∧ pd k = 0) ∨ (1 ≤ k ∧ 1 ≤ (pd k).toInt ∧ (pd k).toInt ≤ np.toInt))
def PRel (np ns : Int32) (σ : Nat → Stm) (lo : Nat → Option Nat) (pd ud pl cl lf : Nat → Int32) (h : Int32) : Prop := 0 ≤ h.toInt ∧ h.toInt ≤ 100 ∧ ∀ k : Nat, (k : Int) < h.toInt → PE np ns σ lo pd ud pl cl lf k
/-- the program as both hold it -/
def PRG (np ns : Int32) (dd gd : Nat → Int32) (σ : Nat → Stm) (vdoes vgos vfrom vto vkind vtimes vcond vlev vask vcc vvar : Nat → Int32) (vleast vfirst vstep : Nat → Int64) : Prop :=
  (0 ≤ np.toInt ∧ np.toInt ≤ 60 ∧ 0 ≤ ns.toInt ∧ ns.toInt ≤ 60) ∧ (∀ k : Nat, (k : Int) < np.toInt → vdoes (k + 1) = dd k ∧ vgos (k + 1) = gd k ∧ 0 ≤ (dd k).toInt ∧ 0 ≤ (gd k).toInt ∧ (gd k).toInt ≤ 60) ∧
  ∀ j : Nat, (j : Int) < ns.toInt → SRel (σ j) j vfrom vto vkind vtimes vcond vlev vask vcc vvar vleast vfirst vstep ∧ 1 ≤ (st_f (σ j)).toInt ∧ (st_f (σ j)).toInt ≤ np.toInt ∧ 0 ≤ (st_c (σ j)).toInt ∧ (st_c (σ j)).toInt ≤ 7
theorem par_ok {np x : Int32} (h1 : 1 ≤ x.toInt) (h2 : x.toInt ≤ np.toInt) (h3 : x.toInt ≤ 60) : ¬ sp_isParagraph np x = 0 := by
  unfold sp_isParagraph
  rw [if_neg (i_nlt (k := 1) rfl h1), if_neg (fun e => by have := Int32.lt_iff_toInt_lt.mp e; omega), if_neg (i_ngt (k := 60) rfl h3)]
  decide
theorem par_no {np x : Int32} (h : np.toInt < x.toInt) : sp_isParagraph np x = 0 := by
  unfold sp_isParagraph
  by_cases c : x < 1
  · rw [if_pos c]
  · rw [if_neg c, if_pos (Int32.lt_iff_toInt_lt.mpr h)]
section EQ4
variable {np ns : Int32} {dd gd : Nat → Int32} {σ : Nat → Stm} {vdoes vgos vfrom vto vkind vtimes vcond vlev vask vcc vvar : Nat → Int32} {vleast vfirst vstep : Nat → Int64} {lo : Nat → Option Nat} {pd ud pl cl lf : Nat → Int32}
theorem nr_going (hn : np.toInt ≤ 60) {x en : Int32} (hx : 1 ≤ x.toInt) : NR np (sp_going np x) (sp_going_co_5 en np x) x := by
  unfold sp_going sp_going_co_5
  by_cases c : sp_isParagraph np x = 0
  · rw [if_pos c, if_pos c]
    exact Or.inr ⟨rfl, Or.inr (Or.inr (Or.inr (Or.inr ⟨hx, c, rfl⟩)))⟩
  · rw [if_neg c, if_neg c]
    exact Or.inl ⟨hx, c, rfl⟩
theorem nr_fall (hn : np.toInt ≤ 60) {x en : Int32} (hx : 1 ≤ x.toInt) (hx2 : x.toInt ≤ np.toInt) : NR np (sp_falling np x) (sp_falling_co_5 en np x) (if x = np then (-12) else x + 1) := by
  have e : (x + 1).toInt = x.toInt + 1 := i32_add1 (by omega)
  unfold sp_falling sp_falling_co_5
  by_cases c : x = np
  · subst c
    rw [if_pos rfl, if_pos (par_no (by omega)), if_pos (par_no (by omega))]
    exact Or.inr ⟨rfl, Or.inr (Or.inl ⟨rfl, rfl⟩)⟩
  · have c' : ¬ x.toInt = np.toInt := mt Int32.toInt_inj.mp c
    have ok := par_ok (np := np) (x := x + 1) (by omega) (by omega) (by omega)
    rw [if_neg c, if_neg ok, if_neg ok]
    exact Or.inl ⟨by omega, ok, rfl⟩
theorem q_left_ne {sz : Int32} {q : Nat} (h : q ≠ sz.toNatClampNeg) : sp_M_goesAgain_ad21 sz vkind pl lf q = lf q := by
  unfold sp_M_goesAgain_ad21
  split
  · rfl
  · split
    · exact pk_un h
    · rfl
theorem q_left_1 {sz : Int32} (h : vkind (pl sz.toNatClampNeg).toNatClampNeg = 1) : sp_M_goesAgain_ad21 sz vkind pl lf sz.toNatClampNeg = lf sz.toNatClampNeg - 1 := by
  unfold sp_M_goesAgain_ad21
  rw [if_neg (by rw [h]; decide), if_pos h, pk_us]
/-- the pile one lower -/
theorem q_lower {h h' : Int32} (H : PRel np ns σ lo pd ud pl cl lf h) (e : h'.toInt = h.toInt - 1) (h1 : 1 ≤ h.toInt) {w : Int32} : PRel np ns σ lo pd (upd ud (h - 1).toNatClampNeg w) pl cl (sp_M_goesAgain_ad21 h vkind pl lf) h' := by
  have e1 : (h - 1).toInt = h.toInt - 1 := i32_sub1 (by omega)
  have b1 := clampI (x := h - 1) (by have := H.2.1; omega)
  have b2 := clampI (x := h) (by omega)
  refine ⟨by omega, by have := H.2.1; omega, fun k hk => ?_⟩
  obtain ⟨j, p1, p2, p3, p4, p5, p6, p7⟩ := H.2.2 k (by omega)
  refine ⟨j, p1, p2, p3, p4, fun c => ?_, p6, p7⟩
  rw [pk_un (by omega), q_left_ne (by omega)]
  exact p5 c
/-- the pile as high as before, its top has had one turn more -/
theorem q_same {h : Int32} (H : PRel np ns σ lo pd ud pl cl lf h) (h1 : 1 ≤ h.toInt) (hk : ∀ j : Nat, lo (h - 1).toNatClampNeg = some j → vkind (pl h.toNatClampNeg).toNatClampNeg = st_k (σ j) ∧ (st_k (σ j) = 1 → ((ud (h - 1).toNatClampNeg) + 1).toInt < (st_n (σ j)).toInt)) : PRel np ns σ lo pd (upd ud (h - 1).toNatClampNeg ((ud (h - 1).toNatClampNeg) + 1)) pl cl (sp_M_goesAgain_ad21 h vkind pl lf) h := by
  have e1 : (h - 1).toInt = h.toInt - 1 := i32_sub1 (by omega)
  have b1 := clampI (x := h - 1) (by have := H.2.1; omega)
  have b2 := clampI (x := h) (by omega)
  refine ⟨H.1, H.2.1, fun k hk2 => ?_⟩
  obtain ⟨j, p1, p2, p3, p4, p5, p6, p7⟩ := H.2.2 k hk2
  refine ⟨j, p1, p2, p3, p4, fun c => ?_, p6, p7⟩
  by_cases ck : k = (h - 1).toNatClampNeg
  · subst ck
    obtain ⟨q1, q2⟩ := hk j p1
    have z : h.toNatClampNeg = (h - 1).toNatClampNeg + 1 := by omega
    obtain ⟨p51, p52, p53⟩ := p5 c
    rw [← z] at p51 p52 ⊢
    have bb := Int32.toInt_lt (st_n (σ j))
    have e3 : ((ud (h - 1).toNatClampNeg) + 1).toInt = (ud (h - 1).toNatClampNeg).toInt + 1 := i32_add1 (by omega)
    have q2 := q2 c
    have e4 : (lf h.toNatClampNeg - 1).toInt = (lf h.toNatClampNeg).toInt - 1 := i32_sub1 (by omega)
    rw [pk_us, q_left_1 (by rw [q1, c])]
    omega
  · rw [pk_un ck, q_left_ne (by omega)]
    exact p5 c
end EQ4
