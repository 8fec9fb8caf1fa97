section VZ
variable {p : Program} {l : Launch} {e : Env} {R : Room} {s : State} {m : MethodId} {args : Array Value} {below : List Frame} {meth : Method} {c : Code} {H0 : Heap} {D : va_G} {cl : List vw_C} {tys : List (ClassId × FieldType)} {NW : List Cond} {Q : State → Prop} {nL : Nat} {M : mp} {cells slots pc pc' : Nat} {lv : List (Nat × Value)} {st : List Value} {cc : ByteArray} {own : String} {Ts : List Cond}
theorem V.zald (X : CallFix p m c cc nL s args Ts own) (hK : KK D cl tys NW s) (t0 : Nat) {cA : ClassId} {a n : Nat} {f : Nat → Int32} (ha : M a = some (.inl (cA, n, .inl f))) (ht : tys[t0]? = some (cA, .boolean)) {i : Int32} (hin : vp_in i n) (hdg : decode cc pc = .ok (.baload, 1)) (hpc : pc + 1 = pc')
    (kk : V p l e R s m args below meth c H0 D cl Q nL M cells slots pc' lv (.int (f i.toNatClampNeg) :: st)) : V p l e R s m args below meth c H0 D cl Q nL M cells slots pc lv (.int i :: .ref a :: st) := by
  subst hpc
  intro H locs ls hH hL hl
  exact va_zald X.1 X.2.1 hK.1 (hH.one ha) 0 t0 rfl ht hin hdg (kk H locs ls hH hL hl)
theorem V.zast (X : CallFix p m c cc nL s args Ts own) (hK : KK D cl tys NW s) (t0 : Nat) {cA : ClassId} {a n : Nat} {f : Nat → Int32} (ha : M a = some (.inl (cA, n, .inl f))) (ht : tys[t0]? = some (cA, .boolean)) {i x : Int32} (hin : vp_in i n) (hx : x = 0 ∨ x = 1) (hdg : decode cc pc = .ok (.bastore, 1)) (hpc : pc + 1 = pc')
    (kk : ∀ M' : mp, M' a = some (.inl (cA, n, .inl (upd f i.toNatClampNeg x))) → (∀ q, q ≠ a → M' q = M q) → V p l e R s m args below meth c H0 D cl Q nL M' cells slots pc' lv st) : V p l e R s m args below meth c H0 D cl Q nL M cells slots pc lv (.int x :: .int i :: .ref a :: st) := by
  subst hpc
  intro H locs ls hH hL hl
  obtain ⟨hB, hat⟩ := hH.2.2 a _ ha
  refine W.zast X.1 X.2.1 hat ((hK.1.2 t0 _ ht).1 n (fun j => .int (f j))) (fun q => by cases q) (by show ¬ (i < 0 ∨ (arrV _ _ _).slots.size ≤ _); rw [arrV_size]; exact hin) rfl rfl hdg fun H1 e1 z oq => ?_
  refine kk _ (va_up_self _ _ _) (fun q h => va_up_ne _ _ h) H1 _ ls (hH.set ha z oq ?_) (hL_app hL hB) hl
  show H1[a]? = some (vp_cell _ _)
  rw [e1, nb_ok hx]
  rw [vp_cell_i, vp_cell_i, arrV_store]
  congr 2
  funext q
  by_cases hq : q = i.toNatClampNeg
  · subst hq
    simp [updV, upd]
  · simp [updV, upd, hq]
end VZ
theorem ad_ne {ad : Nat → Nat} (h : ∀ i j : Nat, i < 33 → j < 33 → ad i = ad j → i = j) {i j : Nat} (hi : i < 33) (hj : j < 33) (n : i ≠ j) : ad i ≠ ad j := fun e => n (h i j hi hj e)
theorem i32_add {x y : Int32} (h1 : -2147483648 ≤ x.toInt + y.toInt) (h2 : x.toInt + y.toInt ≤ 2147483647) : (x + y).toInt = x.toInt + y.toInt := by
  rw [Int32.toInt_add]
  exact Int.bmod_eq_of_le (by omega) (by omega)
theorem i32_sub {x y : Int32} (h1 : -2147483648 ≤ x.toInt - y.toInt) (h2 : x.toInt - y.toInt ≤ 2147483647) : (x - y).toInt = x.toInt - y.toInt := by
  rw [Int32.toInt_sub]
  exact Int.bmod_eq_of_le (by omega) (by omega)
theorem i32_mul8 {x : Int32} (h1 : -268435456 ≤ x.toInt) (h2 : x.toInt ≤ 268435455) : (8 * x).toInt = 8 * x.toInt := by
  rw [Int32.toInt_mul, show (8 : Int32).toInt = 8 from rfl]
  exact Int.bmod_eq_of_le (by omega) (by omega)
theorem i32_divk {x y : Int32} (h : 0 ≤ x.toInt) (hy : 0 < y.toInt) : (x / y).toInt = x.toInt / y.toInt := lg_idiv_nonneg h hy
theorem i32_remk {x y : Int32} (h : 0 ≤ x.toInt) (hy : 0 < y.toInt) : (x - x / y * y).toInt = x.toInt % y.toInt := by
  have h1 := Int32.toInt_lt x
  have e1 := i32_divk h hy
  have e3 : x.toInt / y.toInt * y.toInt ≤ x.toInt := Int.ediv_mul_le _ (by omega)
  have e4 : 0 ≤ x.toInt / y.toInt * y.toInt := Int.mul_nonneg (Int.ediv_nonneg h (by omega)) (by omega)
  have e2 : (x / y * y).toInt = x.toInt / y.toInt * y.toInt := by
    rw [Int32.toInt_mul, e1]
    exact Int.bmod_eq_of_le (by omega) (by omega)
  rw [i32_sub (by omega) (by omega), e2, Int.emod_def, Int.mul_comm]
theorem i32_rem16 {x : Int32} (h : 0 ≤ x.toInt) : (x - x / 16 * 16).toInt = x.toInt % 16 := i32_remk h (by decide)
theorem i32_rem8 {x : Int32} (h : 0 ≤ x.toInt) : (x - x / 8 * 8).toInt = x.toInt % 8 := i32_remk h (by decide)
theorem i32_div8 {x : Int32} (h : 0 ≤ x.toInt) : (x / 8).toInt = x.toInt / 8 := i32_divk h (by decide)
theorem i32_div128 {x : Int32} (h : 0 ≤ x.toInt) : (x / 128).toInt = x.toInt / 128 := i32_divk h (by decide)
theorem i32_subl {x y : Int32} {c : Int} (hc : y.toInt = c) (h1 : -2147483648 ≤ x.toInt - c) (h2 : x.toInt - c ≤ 2147483647) : (x - y).toInt = x.toInt - c := by
  subst hc
  exact i32_sub h1 h2
theorem i32_addl {x y : Int32} {c : Int} (hc : y.toInt = c) (h1 : -2147483648 ≤ x.toInt + c) (h2 : x.toInt + c ≤ 2147483647) : (x + y).toInt = x.toInt + c := by
  subst hc
  exact i32_add h1 h2
theorem i32_subr {x y : Int32} {c : Int} (hc : x.toInt = c) (h1 : -2147483648 ≤ c - y.toInt) (h2 : c - y.toInt ≤ 2147483647) : (x - y).toInt = c - y.toInt := by
  subst hc
  exact i32_sub h1 h2
