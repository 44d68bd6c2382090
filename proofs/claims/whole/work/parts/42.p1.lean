/-! The invariant is kept. -/
theorem l_nat {x : Int64} {N : Nat} (h0 : 0 ≤ x.toInt) (h : x.toInt ≤ (N : Int)) : ∃ K : Nat, K ≤ N ∧ x = lN K ∧ x.toInt = (K : Int) := ⟨x.toInt.toNat, by omega, lN_self h0, by omega⟩
theorem lN_nn {a : Nat} (h : a < 2 ^ 63) : 0 ≤ (lN a).toInt := by rw [pk_lT h]; omega
theorem mul_le3 {a b d A B D : Nat} (h1 : a ≤ A) (h2 : b ≤ B) (h3 : d ≤ D) : a * b * d ≤ A * B * D := Nat.mul_le_mul (Nat.mul_le_mul h1 h2) h3
theorem ya_nn {a b d : Int64} {k : Nat} (h1 : 0 ≤ a.toInt ∧ a.toInt ≤ 1000000) (h2 : 0 ≤ b.toInt) (h3 : 0 ≤ d.toInt) (h4 : b.toInt + d.toInt ≤ 10000) : 0 ≤ (yaF a b d k).toInt := by
  obtain ⟨K, hK, rfl, -⟩ := l_nat (N := 1000000) h1.1 h1.2
  obtain ⟨F, hF, rfl, eF⟩ := l_nat (N := 10000) h2 (by omega)
  obtain ⟨S, hS, rfl, eS⟩ := l_nat (N := 10000) h3 (by omega)
  unfold yaF
  by_cases e0 : k = 0
  · rw [if_pos e0]
    have e : lN K * (93 * lN F + 75 * lN S) * 109 = lN (K * (93 * F + 75 * S) * 109) := by
      show lN K * (lN 93 * lN F + lN 75 * lN S) * lN 109 = _
      rw [lN_mul, lN_mul, lN_add, lN_mul, lN_mul]
    rw [e]
    have := mul_le3 hK (show 93 * F + 75 * S ≤ 1680000 by omega) (Nat.le_refl 109)
    exact lN_nn (by omega)
  · rw [if_neg e0]
    by_cases e1 : k = 1
    · rw [if_pos e1, lN_mul]
      have := Nat.mul_le_mul hK hF
      exact lN_nn (by omega)
    · rw [if_neg e1, lN_add, lN_mul]
      have := Nat.mul_le_mul hK (show F + S ≤ 20000 by omega)
      exact lN_nn (by omega)
theorem pa_nn {a b d : Int64} (h1 : 0 ≤ a.toInt ∧ a.toInt ≤ 1000000) (h2 : 0 ≤ b.toInt) (h3 : 0 ≤ d.toInt) (h4 : b.toInt + d.toInt ≤ 10000) : 0 ≤ (pa0 a b d).toInt := by
  obtain ⟨K, hK, rfl, -⟩ := l_nat (N := 1000000) h1.1 h1.2
  obtain ⟨F, hF, rfl, eF⟩ := l_nat (N := 10000) h2 (by omega)
  obtain ⟨S, hS, rfl, eS⟩ := l_nat (N := 10000) h3 (by omega)
  unfold pa0
  have := Nat.mul_le_mul hK (show 4 * F + 3 * S ≤ 70000 by omega)
  have e : lN K * (4 * lN F + 3 * lN S) / 1000 = lN (K * (4 * F + 3 * S) / 1000) := by
    show lN K * (lN 4 * lN F + lN 3 * lN S) / lN 1000 = _
    rw [lN_mul, lN_mul, lN_add, lN_mul, pk_lDiv (by omega) (by decide) (by decide)]
  rw [e]
  have h9 : K * (4 * F + 3 * S) / 1000 ≤ K * (4 * F + 3 * S) := Nat.div_le_self _ _
  exact lN_nn (by omega)
theorem updL_s {f : Nat → Int64} {k : Nat} {x : Int64} : vp_updL f k x k = x := pk_uLs
theorem updL_n {f : Nat → Int64} {k j : Nat} {x : Int64} (h : j ≠ k) : vp_updL f k x j = f j := pk_uLn h
/-- a row of sorted rows, one put in between -/
theorem shf_lo {f : Nat → Int64} {i n j : Nat} (h : j ≤ i) : shf f i n j = f j := if_neg (by omega)
theorem shf_hi {f : Nat → Int64} {i n j : Nat} (h : i < j) (h2 : j ≤ n) : shf f i n j = f (j - 1) := if_pos ⟨h, h2⟩
/-- division rounded down, of numbers that are not below 0 or may be -/
theorem fdiv_toInt {x y : Int64} (hy : 0 < y.toInt) (hx : -(2 ^ 62) < x.toInt) : (fdiv x y).toInt = x.toInt / y.toInt := by
  have hy' : 0 < y := by rw [Int64.lt_iff_toInt_lt]; exact hy
  rw [fdiv_pos hy']
  have hdiv : (x / y).toInt = x.toInt.tdiv y.toInt := by
    rw [Int64.toInt_div_of_ne_right]
    intro h
    rw [h] at hy
    revert hy
    decide
  have hE := Int.tdiv_mul_add_tmod x.toInt y.toInt
  have hl := Int.tmod_lt_of_pos x.toInt hy
  have hg := Int.lt_tmod_of_pos x.toInt hy
  have hp : 0 ≤ x.toInt → 0 ≤ x.toInt.tmod y.toInt := fun h => Int.tmod_nonneg _ h
  have b2 := Int64.toInt_lt x
  have b3 := Int64.toInt_lt y
  have hq : (x.toInt.tdiv y.toInt).natAbs ≤ x.toInt.natAbs := by
    rw [Int.natAbs_tdiv]
    exact Nat.div_le_self _ _
  have hmul : (x / y * y).toInt = x.toInt.tdiv y.toInt * y.toInt := by
    rw [Int64.toInt_mul, hdiv]
    have hn : x.toInt ≤ 0 → x.toInt.tmod y.toInt ≤ 0 := fun h => by
      have := Int.tmod_nonneg (a := -x.toInt) y.toInt (by omega)
      rw [Int.neg_tmod] at this
      omega
    rw [Int.bmod_eq_of_le] <;> omega
  have hsub : (x - x / y * y).toInt = x.toInt.tmod y.toInt := by
    rw [Int64.toInt_sub, hmul, show x.toInt - x.toInt.tdiv y.toInt * y.toInt = x.toInt.tmod y.toInt by omega]
    rw [Int.bmod_eq_of_le] <;> omega
  have e0 : (0 : Int64).toInt = 0 := rfl
  by_cases h : x - x / y * y < 0
  · rw [if_pos h]
    rw [Int64.lt_iff_toInt_lt, hsub, e0] at h
    rw [Int64.toInt_sub, hdiv]
    have e1 : (1 : Int64).toInt = 1 := rfl
    rw [e1, Int.bmod_eq_of_le (by omega) (by omega)]
    refine (Int.ediv_emod_unique (r := x.toInt.tmod y.toInt + y.toInt) hy).mpr ⟨?_, by omega, by omega⟩ |>.1.symm
    have : y.toInt * (x.toInt.tdiv y.toInt - 1) = x.toInt.tdiv y.toInt * y.toInt - y.toInt := by
      rw [Int.mul_sub, Int.mul_one, Int.mul_comm]
    omega
  · rw [if_neg h]
    rw [Int64.lt_iff_toInt_lt, hsub, e0] at h
    rw [hdiv]
    refine (Int.ediv_emod_unique (r := x.toInt.tmod y.toInt) hy).mpr ⟨?_, by omega, by omega⟩ |>.1.symm
    have : y.toInt * x.toInt.tdiv y.toInt = x.toInt.tdiv y.toInt * y.toInt := Int.mul_comm _ _
    omega
theorem t_sub {a b : Int64} (h1 : -(2 ^ 63) ≤ a.toInt - b.toInt) (h2 : a.toInt - b.toInt < 2 ^ 63) : (a - b).toInt = a.toInt - b.toInt := by
  rw [Int64.toInt_sub, Int.bmod_eq_of_le] <;> omega
theorem t_add {a b : Int64} (h1 : -(2 ^ 63) ≤ a.toInt + b.toInt) (h2 : a.toInt + b.toInt < 2 ^ 63) : (a + b).toInt = a.toInt + b.toInt := by
  rw [Int64.toInt_add, Int.bmod_eq_of_le] <;> omega
theorem t_mul {a b : Int64} (h1 : -(2 ^ 63) ≤ a.toInt * b.toInt) (h2 : a.toInt * b.toInt < 2 ^ 63) : (a * b).toInt = a.toInt * b.toInt := by
  rw [Int64.toInt_mul, Int.bmod_eq_of_le] <;> omega
theorem mul_bd {x y : Int} {X Y : Nat} (hx : x.natAbs ≤ X) (hy : y.natAbs ≤ Y) : (x * y).natAbs ≤ X * Y := by
  rw [Int.natAbs_mul]
  exact Nat.mul_le_mul hx hy
theorem sk_nn {ra rf : Nat → Int64} {nr : Nat} {w : Int64} (hrw : ∀ j, j < nr → (0 ≤ (ra j).toInt ∧ (ra j).toInt ≤ 1000000) ∧ (0 ≤ (rf j).toInt ∧ (rf j).toInt ≤ 10000)) (hw : 0 ≤ w.toInt ∧ w.toInt ≤ 1000000) : 0 ≤ (skF ra rf nr w).toInt := by
  unfold skF
  by_cases h0 : nr = 0
  · rw [if_pos h0]; decide
  rw [if_neg h0]
  have hle := rowF_le ra w nr
  by_cases h1 : rowF ra w nr = nr
  · rw [if_pos h1]; exact (hrw _ (by omega)).2.1
  rw [if_neg h1]
  by_cases h2 : rowF ra w nr = 0 ∨ ra (rowF ra w nr) = w
  · rw [if_pos h2]; exact (hrw _ (by omega)).2.1
  rw [if_neg h2]
  have hr0 : rowF ra w nr ≠ 0 := fun z => h2 (Or.inl z)
  have ha : ra (rowF ra w nr - 1) < w := rowF_before (n := nr) (by omega)
  have hb := rowF_at (ra := ra) (w := w) (n := nr) (by omega)
  have p1 := hrw (rowF ra w nr - 1) (by omega)
  have p2 := hrw (rowF ra w nr) (by omega)
  rw [Int64.lt_iff_toInt_lt] at ha
  rw [Int64.le_iff_toInt_le] at hb
  unfold btwF
  generalize ra (rowF ra w nr - 1) = a0 at *
  generalize ra (rowF ra w nr) = a1 at *
  generalize rf (rowF ra w nr - 1) = f0 at *
  generalize rf (rowF ra w nr) = f1 at *
  have e1 : (f1 - f0).toInt = f1.toInt - f0.toInt := t_sub (by omega) (by omega)
  have e2 : (w - a0).toInt = w.toInt - a0.toInt := t_sub (by omega) (by omega)
  have e3 : (a1 - a0).toInt = a1.toInt - a0.toInt := t_sub (by omega) (by omega)
  have bd := mul_bd (x := f1.toInt - f0.toInt) (y := w.toInt - a0.toInt) (X := 10000) (Y := 1000000) (by omega) (by omega)
  have e4 : ((f1 - f0) * (w - a0)).toInt = (f1.toInt - f0.toInt) * (w.toInt - a0.toInt) := by
    rw [t_mul] <;> rw [e1, e2]
    · omega
    · omega
  have e5 := fdiv_toInt (x := (f1 - f0) * (w - a0)) (y := a1 - a0) (by rw [e3]; omega) (by rw [e4]; omega)
  rw [e4, e3] at e5
  have lo : -f0.toInt ≤ (f1.toInt - f0.toInt) * (w.toInt - a0.toInt) / (a1.toInt - a0.toInt) := by
    rw [Int.le_ediv_iff_mul_le (by omega)]
    have h3 : -f0.toInt * (a1.toInt - a0.toInt) ≤ -f0.toInt * (w.toInt - a0.toInt) := Int.mul_le_mul_of_nonpos_left (by omega) (by omega)
    have h4 : -f0.toInt * (w.toInt - a0.toInt) ≤ (f1.toInt - f0.toInt) * (w.toInt - a0.toInt) := Int.mul_le_mul_of_nonneg_right (by omega) (by omega)
    omega
  have hi : (f1.toInt - f0.toInt) * (w.toInt - a0.toInt) / (a1.toInt - a0.toInt) ≤ 10000000000 := by
    have h5 : (f1.toInt - f0.toInt) * (w.toInt - a0.toInt) ≤ 10000000000 := by omega
    refine Int.ediv_le_of_le_mul (by omega) ?_
    have h6 : (10000000000 : Int) * 1 ≤ 10000000000 * (a1.toInt - a0.toInt) := Int.mul_le_mul_of_nonneg_left (by omega) (by omega)
    omega
  rw [t_add (by rw [e5]; omega) (by rw [e5]; omega), e5]
  omega
section LI
variable {n sc np nc nr : Nat} {kg ft so : Nat → Int64} {sp : Nat → Int32} {cn : Nat → Nat} {ra rf : Nat → Int64}
theorem li_yv (h : LInv n sc np nc nr kg ft so sp cn ra rf) : ∀ j k, j < n → k ≤ 2 → 0 ≤ (yaF (kg j) (ft j) (so j) k).toInt := fun j k hj _ => ya_nn (h.2.1 j hj).1 (h.2.1 j hj).2.1 (h.2.1 j hj).2.2.1 (h.2.1 j hj).2.2.2
theorem li_p0 (h : LInv n sc np nc nr kg ft so sp cn ra rf) : ∀ j, j < n → 0 ≤ (pa0 (kg j) (ft j) (so j)).toInt := fun j hj => pa_nn (h.2.1 j hj).1 (h.2.1 j hj).2.1 (h.2.1 j hj).2.2.1 (h.2.1 j hj).2.2.2
theorem li_lot (h : LInv n sc np nc nr kg ft so sp cn ra rf) (w a b : Int64) : LInv (bN (loY n w a b) (n + 1) n) sc np nc nr (bL (loY n w a b) (vp_updL kg n w) kg) (bL (loY n w a b) (vp_updL ft n (wpF a b)) ft) (bL (loY n w a b) (vp_updL so n 0) so) sp cn ra rf := by
  cases hY : loY n w a b with
  | false => exact h
  | true =>
    obtain ⟨⟨h1, h2, h3, h4, h5⟩, h6, h7, h8, h9, h10, h11⟩ := h
    unfold loY loR nP at hY
    simp only [Bool.and_eq_true, Bool.not_eq_true', decide_eq_false_iff_not, decide_eq_true_eq] at hY
    obtain ⟨⟨hw, hp⟩, hn⟩ := hY
    rw [inB_iff] at hw
    have hp2 := wpF_le hp
    have e1 : (1 : Int64).toInt = 1 := rfl
    have e2 : (1000000 : Int64).toInt = 1000000 := rfl
    have e3 : (0 : Int64).toInt = 0 := rfl
    refine ⟨⟨?_, ?_, h3, h4, h5⟩, fun j hj => ?_, fun j hj => h7 j ?_, fun i hi => ?_, h9, h10, h11⟩
    · show n + 1 ≤ 60; omega
    · show 2 * sc ≤ n + 1; omega
    · show (0 ≤ (vp_updL kg n w j).toInt ∧ (vp_updL kg n w j).toInt ≤ 1000000) ∧ (0 ≤ (vp_updL ft n (wpF a b) j).toInt ∧ 0 ≤ (vp_updL so n 0 j).toInt ∧ (vp_updL ft n (wpF a b) j).toInt + (vp_updL so n 0 j).toInt ≤ 10000)
      have hj : j < n + 1 := hj
      by_cases e : j = n
      · subst e
        rw [updL_s, updL_s, updL_s, e3]
        omega
      · rw [updL_n e, updL_n e, updL_n e]
        exact h6 j (by omega)
    · have hj : n + 1 ≤ j := hj
      omega
    · have := h8 i hi
      show cn i < n + 1
      omega
theorem li_sol (h : LInv n sc np nc nr kg ft so sp cn ra rf) (x : Int32) (a b : Int64) : LInv n sc np nc nr kg ft (bL (soY n sp ft x a b) (vp_updL so x.toNatClampNeg (wpF a b)) so) sp cn ra rf := by
  cases hY : soY n sp ft x a b with
  | false => exact h
  | true =>
    obtain ⟨h0, h6, h7, h8, h9, h10, h11⟩ := h
    unfold soY nP at hY
    simp only [Bool.and_eq_true, Bool.not_eq_true', decide_eq_false_iff_not, decide_eq_true_eq] at hY
    obtain ⟨hu, hp, hle⟩ := hY
    obtain ⟨j0, hj0, rfl, -⟩ := unB_nat (by omega) hu
    rw [nI_clamp (by omega)] at hle ⊢
    have hp2 := wpF_le hp
    refine ⟨h0, fun j hj => ?_, h7, h8, h9, h10, h11⟩
    show (0 ≤ (kg j).toInt ∧ (kg j).toInt ≤ 1000000) ∧ (0 ≤ (ft j).toInt ∧ 0 ≤ (vp_updL so j0 (wpF a b) j).toInt ∧ (ft j).toInt + (vp_updL so j0 (wpF a b) j).toInt ≤ 10000)
    have hb := h6 j hj
    by_cases e : j = j0
    · subst e
      rw [updL_s]
      rw [Int64.le_iff_toInt_le, t_add (by omega) (by omega)] at hle
      have e2 : (10000 : Int64).toInt = 10000 := rfl
      omega
    · rw [updL_n e]
      exact hb
theorem li_pen (h : LInv n sc np nc nr kg ft so sp cn ra rf) (fr ce : Int64) : LInv n sc (bN (peY np fr ce) (np + 1) np) nc nr kg ft so sp cn ra rf := by
  cases hY : peY np fr ce with
  | false => exact h
  | true =>
    obtain ⟨⟨h1, h2, h3, h4, h5⟩, hr⟩ := h
    unfold peY at hY
    simp only [Bool.and_eq_true, decide_eq_true_eq] at hY
    exact ⟨⟨h1, h2, hY.2.2, h4, h5⟩, hr⟩
theorem li_clr (h : LInv n sc np nc nr kg ft so sp cn ra rf) : LInv n sc np 0 nr kg ft so sp cn ra rf := by
  obtain ⟨⟨h1, h2, h3, h4, h5⟩, h6, h7, h8, h9, h10, h11⟩ := h
  exact ⟨⟨h1, h2, h3, by omega, h5⟩, h6, h7, fun i hi => absurd hi (Nat.not_lt_zero i), fun i k hi => absurd hi (Nat.not_lt_zero i), h10, h11⟩
theorem li_cho (h : LInv n sc np nc nr kg ft so sp cn ra rf) (x : Int32) : LInv n sc np (bN (chY n sp cn nc x) (nc + 1) nc) nr kg ft so sp (bC (chY n sp cn nc x) (va_up cn nc x.toNatClampNeg) cn) ra rf := by
  cases hY : chY n sp cn nc x with
  | false => exact h
  | true =>
    obtain ⟨⟨h1, h2, h3, h4, h5⟩, h6, h7, h8, h9, h10, h11⟩ := h
    unfold chY at hY
    simp only [Bool.and_eq_true, decide_eq_true_eq] at hY
    obtain ⟨hu, hp, h4n⟩ := hY
    obtain ⟨j0, hj0, rfl, -⟩ := unB_nat (by omega) hu
    rw [nI_clamp (by omega)] at hp ⊢
    have hno : ∀ i, i < nc → cn i ≠ j0 := fun i hi e => by
      have h2 := pl_le cn nc j0
      exact of_decide_eq_false (fd_before (P := fun i => decide (cn i = j0)) (show i < pl cn nc j0 by omega)) e
    refine ⟨⟨h1, h2, h3, h4n, h5⟩, h6, h7, fun i hi => ?_, fun i k hi hk he => ?_, h10, h11⟩
    · show va_up cn nc j0 i < n
      have hi : i < nc + 1 := hi
      by_cases e : i = nc
      · rw [e, va_up_self]; exact hj0
      · rw [va_up_ne _ _ e]; exact h8 i (by omega)
    · have hi : i < nc + 1 := hi
      have hk : k < nc + 1 := hk
      have he : va_up cn nc j0 i = va_up cn nc j0 k := he
      by_cases e : i = nc
      · by_cases e2 : k = nc
        · omega
        · rw [e, va_up_self, va_up_ne _ _ e2] at he
          exact absurd he.symm (hno k (by omega))
      · by_cases e2 : k = nc
        · rw [e2, va_up_self, va_up_ne _ _ e] at he
          exact absurd he (hno i (by omega))
        · rw [va_up_ne _ _ e, va_up_ne _ _ e2] at he
          exact h9 i k (by omega) (by omega) he
theorem li_eff (h : LInv n sc np nc nr kg ft so sp cn ra rf) (w a b : Int64) : LInv n sc np nc (bN (efR w a b) (putN ra nr w) nr) kg ft so sp cn (bL (efR w a b) (putA ra nr w) ra) (bL (efR w a b) (putF ra rf nr w (wpF a b)) rf) := by
  cases hY : efR w a b with
  | false => exact h
  | true =>
    obtain ⟨⟨h1, h2, h3, h4, h5⟩, h6, h7, h8, h9, h10, h11⟩ := h
    unfold efR nP at hY
    simp only [Bool.and_eq_true, Bool.not_eq_true', decide_eq_false_iff_not] at hY
    obtain ⟨hw, hp⟩ := hY
    rw [inB_iff] at hw
    have hp2 := wpF_le hp
    have e1 : (1 : Int64).toInt = 1 := rfl
    have e2 : (1000000 : Int64).toInt = 1000000 := rfl
    have hle := rowF_le ra w nr
    show LInv n sc np nc (putN ra nr w) kg ft so sp cn (putA ra nr w) (putF ra rf nr w (wpF a b))
    unfold putN putA putF
    by_cases hc : rowF ra w nr < nr ∧ ra (rowF ra w nr) = w
    · rw [if_pos hc, if_pos hc, if_pos hc]
      refine ⟨⟨h1, h2, h3, h4, h5⟩, h6, h7, h8, h9, fun j hj => ⟨(h10 j hj).1, ?_⟩, h11⟩
      by_cases e : j = rowF ra w nr
      · rw [e, updL_s]; omega
      · rw [updL_n e]; exact (h10 j hj).2
    · rw [if_neg hc, if_neg hc, if_neg hc]
      by_cases h20 : 20 ≤ nr
      · rw [if_pos h20, if_pos h20, if_pos h20]
        exact ⟨⟨h1, h2, h3, h4, h5⟩, h6, h7, h8, h9, h10, h11⟩
      · rw [if_neg h20, if_neg h20, if_neg h20]
        have hlt : ∀ j, j < rowF ra w nr → ra j < w := fun j hj => rowF_before hj
        have hgt : rowF ra w nr < nr → w < ra (rowF ra w nr) := fun hr => l_lt_of (rowF_at hr) (fun e => hc ⟨hr, e.symm⟩)
        refine ⟨⟨h1, h2, h3, h4, by omega⟩, h6, h7, h8, h9, fun j hj => ?_, fun i hi => ?_⟩
        · by_cases e : j = rowF ra w nr
          · rw [e, updL_s, updL_s]; omega
          · rw [updL_n e, updL_n e]
            by_cases e3 : j < rowF ra w nr
            · rw [shf_lo (by omega), shf_lo (by omega)]; exact h10 j (by omega)
            · rw [shf_hi (by omega) (by omega), shf_hi (by omega) (by omega)]; exact h10 (j - 1) (by omega)
        · by_cases e : i = rowF ra w nr
          · rw [e, updL_s, updL_n (by omega), shf_hi (by omega) (by omega), show rowF ra w nr + 1 - 1 = rowF ra w nr by omega]
            exact hgt (by omega)
          · rw [updL_n e]
            by_cases e3 : i + 1 = rowF ra w nr
            · rw [e3, updL_s, shf_lo (by omega)]; exact hlt i (by omega)
            · rw [updL_n e3]
              by_cases e4 : i < rowF ra w nr
              · rw [shf_lo (by omega), shf_lo (by omega)]; exact h11 i (by omega)
              · rw [shf_hi (by omega) (by omega), shf_hi (by omega) (by omega), show i + 1 - 1 = (i - 1) + 1 by omega]
                exact h11 (i - 1) (by omega)
end LI
