/-! Separating keeps the invariant. -/
theorem cr_le {K F E C : Nat} (h1 : E < F) (h2 : F < C) (hC : C ≤ 10000) (hK : K ≤ 1000000) : crF (lN K) (lN F) (lN E) (lN C) = lN (K * (F - E) / (C - E)) ∧ K * (F - E) / (C - E) ≤ K := by
  have hb := Nat.mul_le_mul hK (show F - E ≤ 10000 by omega)
  refine ⟨?_, ?_⟩
  · unfold crF
    rw [lN_sub (by omega), lN_sub (by omega), lN_mul, pk_lDiv (by omega) (by omega) (by omega)]
  · refine Nat.div_le_of_le_mul ?_
    rw [Nat.mul_comm (C - E)]
    exact Nat.mul_le_mul (Nat.le_refl K) (by omega)
theorem sq_le {K F E C : Nat} (h1 : E < F) (h2 : F < C) (hC : C ≤ 10000) (hK : K ≤ 1000000) : sqF (lN K) (lN F) (lN E) (lN C) = lN (K * (C - F) / (C - E)) ∧ K * (C - F) / (C - E) ≤ K := by
  have hb := Nat.mul_le_mul hK (show C - F ≤ 10000 by omega)
  refine ⟨?_, ?_⟩
  · unfold sqF
    rw [lN_sub (by omega), lN_sub (by omega), lN_mul, pk_lDiv (by omega) (by omega) (by omega)]
  · refine Nat.div_le_of_le_mul ?_
    rw [Nat.mul_comm (C - E)]
    exact Nat.mul_le_mul (Nat.le_refl K) (by omega)
theorem sl_le {S C F : Nat} (h1 : F + S ≤ 10000) (hC : C ≤ 10000) (hF : F < 10000) : slF (lN S) (lN C) (lN F) = lN (S * (10000 - C) / (10000 - F)) ∧ S * (10000 - C) / (10000 - F) ≤ 10000 - C := by
  have hb := Nat.mul_le_mul (show S ≤ 10000 by omega) (show 10000 - C ≤ 10000 by omega)
  refine ⟨?_, ?_⟩
  · unfold slF
    show lN S * (lN 10000 - lN C) / (lN 10000 - lN F) = _
    rw [lN_sub hC, lN_sub (by omega), lN_mul, pk_lDiv (by omega) (by omega) (by omega)]
  · refine Nat.div_le_of_le_mul ?_
    exact Nat.mul_le_mul (by omega) (Nat.le_refl _)
theorem uc_at {cn : Nat → Nat} {nc x i : Nat} (hi : i < ucN cn nc x) : ∃ t, t < nc ∧ ucC cn nc x i = cn t ∧ ((t = i ∧ (i < pl cn nc x ∨ ¬ pl cn nc x < nc)) ∨ (t = i + 1 ∧ pl cn nc x ≤ i ∧ pl cn nc x < nc)) := by
  unfold ucN at hi
  unfold ucC
  by_cases h : pl cn nc x < nc
  · rw [if_pos h] at hi ⊢
    by_cases h2 : pl cn nc x ≤ i
    · exact ⟨i + 1, by omega, if_pos ⟨h2, by omega⟩, Or.inr ⟨rfl, h2, h⟩⟩
    · exact ⟨i, by omega, if_neg (fun q => h2 q.1), Or.inl ⟨rfl, Or.inl (by omega)⟩⟩
  · rw [if_neg h] at hi ⊢
    exact ⟨i, hi, rfl, Or.inl ⟨rfl, Or.inr h⟩⟩
theorem uc_le (cn : Nat → Nat) (nc x : Nat) : ucN cn nc x ≤ nc := by
  unfold ucN
  by_cases h : pl cn nc x < nc
  · rw [if_pos h]; omega
  · rw [if_neg h]; omega
section LI2
variable {n sc np nc nr : Nat} {kg ft so : Nat → Int64} {sp : Nat → Int32} {cn : Nat → Nat} {ra rf : Nat → Int64}
theorem li_sep (h : LInv n sc np nc nr kg ft so sp cn ra rf) (x : Int32) (a b : Int64) : LInv (bN (seY n sp kg ft ra rf nr x a b) (n + 2) n) (bN (seY n sp kg ft ra rf nr x a b) (sc + 1) sc) np (bN (seY n sp kg ft ra rf nr x a b) (ucN cn nc x.toNatClampNeg) nc) nr
    (bL (seY n sp kg ft ra rf nr x a b) (seK n kg (kg x.toNatClampNeg) (ft x.toNatClampNeg) (skF ra rf nr (kg x.toNatClampNeg)) (wpF a b)) kg)
    (bL (seY n sp kg ft ra rf nr x a b) (seF n ft (skF ra rf nr (kg x.toNatClampNeg)) (wpF a b)) ft)
    (bL (seY n sp kg ft ra rf nr x a b) (seS n x.toNatClampNeg so (ft x.toNatClampNeg) (skF ra rf nr (kg x.toNatClampNeg)) (wpF a b)) so)
    (bI (seY n sp kg ft ra rf nr x a b) (upd sp x.toNatClampNeg (nI 1)) sp) (bC (seY n sp kg ft ra rf nr x a b) (ucC cn nc x.toNatClampNeg) cn) ra rf := by
  cases hY : seY n sp kg ft ra rf nr x a b with
  | false => exact h
  | true =>
    obtain ⟨⟨h1, h2, h3, h4, h5⟩, h6, h7, h8, h9, h10, h11⟩ := h
    unfold seY seR nP at hY
    simp only [Bool.and_eq_true, Bool.not_eq_true', decide_eq_false_iff_not, decide_eq_true_eq] at hY
    obtain ⟨⟨hu, hk, hp, he, hf⟩, hn2⟩ := hY
    obtain ⟨j0, hj0, rfl, -⟩ := unB_nat (by omega) hu
    rw [nI_clamp (show j0 < 2 ^ 31 by omega)] at *
    have hb := h6 j0 hj0
    have hE0 := sk_nn h10 hb.1
    have hp2 := wpF_le hp
    have q0 : ∀ j, j < n → (0 ≤ (kg j).toInt ∧ (kg j).toInt ≤ 1000000) ∧ (0 ≤ (ft j).toInt ∧ 0 ≤ (so j).toInt ∧ (ft j).toInt + (so j).toInt ≤ 10000) := h6
    rw [Int64.lt_iff_toInt_lt] at he hf
    obtain ⟨K, hK, eK, vK⟩ := l_nat (N := 1000000) hb.1.1 hb.1.2
    obtain ⟨Fv, hF, eF, vF⟩ := l_nat (x := ft j0) (N := 10000) hb.2.1 (by omega)
    obtain ⟨S, hS, eS, vS⟩ := l_nat (x := so j0) (N := 10000) hb.2.2.1 (by omega)
    obtain ⟨C, hC, eC, vC⟩ := l_nat (x := wpF a b) (N := 10000) hp2.2 hp2.1
    obtain ⟨E, hE, eE, vE⟩ := l_nat (x := skF ra rf nr (kg j0)) (N := 10000) hE0 (by omega)
    obtain ⟨q1, c1⟩ : ∃ q, crF (lN K) (lN Fv) (lN E) (lN C) = lN q ∧ q ≤ K := ⟨_, cr_le (by omega) (by omega) hC hK⟩
    obtain ⟨q2, c2⟩ : ∃ q, sqF (lN K) (lN Fv) (lN E) (lN C) = lN q ∧ q ≤ K := ⟨_, sq_le (by omega) (by omega) hC hK⟩
    obtain ⟨q3, c3⟩ : ∃ q, slF (lN S) (lN C) (lN Fv) = lN q ∧ q ≤ 10000 - C := ⟨_, sl_le (by omega) hC (by omega)⟩
    obtain ⟨q4, c4⟩ : ∃ q, slF (lN S) (lN E) (lN Fv) = lN q ∧ q ≤ 10000 - E := ⟨_, sl_le (by omega) (by omega) (by omega)⟩
    refine ⟨⟨?_, ?_, h3, ?_, h5⟩, fun j hj => ?_, fun j hj => ?_, fun i hi => ?_, fun i k hi hk9 heq => ?_, h10, h11⟩
    · show n + 2 ≤ 60; exact hn2
    · show 2 * (sc + 1) ≤ n + 2; omega
    · show ucN cn nc j0 ≤ 4
      have := uc_le cn nc j0
      omega
    · have hj : j < n + 2 := hj
      show (0 ≤ (seK n kg (kg j0) (ft j0) (skF ra rf nr (kg j0)) (wpF a b) j).toInt ∧ (seK n kg (kg j0) (ft j0) (skF ra rf nr (kg j0)) (wpF a b) j).toInt ≤ 1000000) ∧ (0 ≤ (seF n ft (skF ra rf nr (kg j0)) (wpF a b) j).toInt ∧ 0 ≤ (seS n j0 so (ft j0) (skF ra rf nr (kg j0)) (wpF a b) j).toInt ∧ (seF n ft (skF ra rf nr (kg j0)) (wpF a b) j).toInt + (seS n j0 so (ft j0) (skF ra rf nr (kg j0)) (wpF a b) j).toInt ≤ 10000)
      unfold seK seF seS
      by_cases e1 : j = n + 1
      · subst e1
        rw [updL_s, updL_s, updL_s, eE, eC, eF, eK, eS, c2.1, c4.1, pk_lT (by omega), pk_lT (by omega), pk_lT (by omega)]
        omega
      · rw [updL_n e1, updL_n e1, updL_n e1]
        by_cases e2 : j = n
        · subst e2
          rw [updL_s, updL_s, updL_s, eE, eC, eF, eK, eS, c1.1, c3.1, pk_lT (by omega), pk_lT (by omega), pk_lT (by omega)]
          omega
        · rw [updL_n e2, updL_n e2, updL_n e2]
          exact q0 j (by omega)
    · have hj : n + 2 ≤ j := hj
      show upd sp j0 (nI 1) j = nI 0
      rw [pk_un (by omega)]
      exact h7 j (by omega)
    · obtain ⟨t, ht, et, -⟩ := uc_at (show i < ucN cn nc j0 from hi)
      show ucC cn nc j0 i < n + 2
      rw [et]
      have := h8 t ht
      omega
    · obtain ⟨t1, ht1, et1, o1⟩ := uc_at (show i < ucN cn nc j0 from hi)
      obtain ⟨t2, ht2, et2, o2⟩ := uc_at (show k < ucN cn nc j0 from hk9)
      have heq : ucC cn nc j0 i = ucC cn nc j0 k := heq
      rw [et1, et2] at heq
      have := h9 t1 t2 ht1 ht2 heq
      omega
end LI2
/-- reduced fractions of equal fractions are the same -/
theorem red_eq {a b c d : Nat} (hb : 0 < b) (hd : 0 < d) (h : a * d = c * b) : a / Nat.gcd a b = c / Nat.gcd c d ∧ b / Nat.gcd a b = d / Nat.gcd c d := by
  have g1 : 0 < Nat.gcd a b := Nat.gcd_pos_of_pos_right a hb
  have g2 : 0 < Nat.gcd c d := Nat.gcd_pos_of_pos_right c hd
  have k1 := Nat.coprime_div_gcd_div_gcd g1
  have k2 := Nat.coprime_div_gcd_div_gcd g2
  have ea : a = a / Nat.gcd a b * Nat.gcd a b := (Nat.div_mul_cancel (Nat.gcd_dvd_left a b)).symm
  have eb : b = b / Nat.gcd a b * Nat.gcd a b := (Nat.div_mul_cancel (Nat.gcd_dvd_right a b)).symm
  have ec : c = c / Nat.gcd c d * Nat.gcd c d := (Nat.div_mul_cancel (Nat.gcd_dvd_left c d)).symm
  have ed : d = d / Nat.gcd c d * Nat.gcd c d := (Nat.div_mul_cancel (Nat.gcd_dvd_right c d)).symm
  generalize a / Nat.gcd a b = A at *
  generalize b / Nat.gcd a b = B at *
  generalize c / Nat.gcd c d = C at *
  generalize d / Nat.gcd c d = D at *
  generalize Nat.gcd a b = g at *
  generalize Nat.gcd c d = k at *
  have hx : A * D = C * B := by
    rw [ea, eb, ec, ed] at h
    have : (A * D) * (g * k) = (C * B) * (g * k) := by
      calc (A * D) * (g * k) = A * g * (D * k) := by simp [Nat.mul_comm, Nat.mul_left_comm, Nat.mul_assoc]
        _ = C * k * (B * g) := h
        _ = (C * B) * (g * k) := by simp [Nat.mul_comm, Nat.mul_left_comm, Nat.mul_assoc]
    exact Nat.eq_of_mul_eq_mul_right (Nat.mul_pos g1 g2) this
  have d1 : B ∣ D := by
    refine Nat.Coprime.dvd_of_dvd_mul_left (Nat.Coprime.symm k1) ?_
    rw [hx]
    exact Nat.dvd_mul_left B C
  have d2 : D ∣ B := by
    refine Nat.Coprime.dvd_of_dvd_mul_left (Nat.Coprime.symm k2) ?_
    rw [← hx]
    exact Nat.dvd_mul_left D A
  have eBD := Nat.dvd_antisymm d1 d2
  refine ⟨?_, eBD⟩
  rw [eBD] at hx
  have hD : 0 < D := by
    rcases Nat.eq_zero_or_pos D with z | z
    · rw [z, Nat.zero_mul] at ed; omega
    · exact z
  exact Nat.eq_of_mul_eq_mul_right hD hx
theorem rp_eq {a b c d : Nat} (hb : 0 < b) (hd : 0 < d) (h : a * d = c * b) (part : Int32) : rpF a b part = rpF c d part := by
  have g1 : 0 < Nat.gcd a b := Nat.gcd_pos_of_pos_right a hb
  have g2 : 0 < Nat.gcd c d := Nat.gcd_pos_of_pos_right c hd
  obtain ⟨h1, h2⟩ := red_eq hb hd h
  unfold rpF
  rw [show max 1 (Nat.gcd a b) = Nat.gcd a b by omega, show max 1 (Nat.gcd c d) = Nat.gcd c d by omega, h1, h2]
theorem rp_0 {b : Nat} (hb : 0 < b) {part : Int32} (hp : inB part.toInt64 0 1 = true) : rpF 0 b part = part.toInt64 := by
  unfold rpF
  rw [Nat.gcd_zero_left, show max 1 b = b by omega, Nat.zero_div, Nat.div_self hb]
  rw [inB_iff, Int32.toInt_toInt64] at hp
  have e1 : (0 : Int64).toInt = 0 := rfl
  have e2 : (1 : Int64).toInt = 1 := rfl
  by_cases h : part = 0
  · rw [if_pos h, h]; rfl
  · rw [if_neg h]
    refine Int64.toInt_inj.mp ?_
    rw [Int32.toInt_toInt64]
    have : ¬ part.toInt = 0 := fun z => h (Int32.toInt_inj.mp z)
    have e3 : (lN 1).toInt = 1 := rfl
    omega
theorem fd_congr {P Q : Nat → Bool} {n : Nat} (h : ∀ j, j < n → P j = Q j) : fd P n = fd Q n := by
  have h1 := fd_le P n
  have h2 := fd_le Q n
  rcases Nat.lt_trichotomy (fd P n) (fd Q n) with q | q | q
  · have a := fd_at (P := P) (n := n) (by omega)
    rw [h _ (by omega), fd_before q] at a
    exact absurd a (by decide)
  · exact q
  · have a := fd_at (P := Q) (n := n) (by omega)
    rw [← h _ (by omega), fd_before q] at a
    exact absurd a (by decide)
theorem lm_sha {n : Nat} {ml ml2 : Nat → Int32} {mn mc : Nat} {u : MixS} {v : ModS} (hM : LMix ml mn u ml2 mc v) (x part : Int32) : shA n ml mn u x part = rsA n ml2 mc v x part := by
  obtain ⟨h1, h2, h3, h4⟩ := hM
  unfold shA rsA shR
  rw [h3]
  by_cases hc : (v.2.2.2 && (lotB n x && inB part.toInt64 0 1)) = true
  · rw [if_pos hc, if_pos hc]
    simp only [Bool.and_eq_true] at hc
    obtain ⟨em, hl, hf, ⟨b1, -⟩, b2, -⟩ := h4 hc.1
    subst em
    have ef : fd (fun j => decide (ml j = x)) mn = fd (fun j => decide (ml2 j = x)) mn := fd_congr (fun j hj => by rw [hl j hj])
    unfold abF
    rw [ef]
    by_cases hq : fd (fun j => decide (ml2 j = x)) mn < mn
    · rw [if_pos hq, if_pos hq]
      obtain ⟨p1, p2, p3⟩ := hf _ hq
      generalize u.2.2.1 (fd (fun j => decide (ml2 j = x)) mn) = s1 at *
      generalize v.2.1 (fd (fun j => decide (ml2 j = x)) mn) = s2 at *
      refine rp_eq (by omega) (by omega) ?_ part
      have e1 : (s1.toInt.toNat : Int) = s1.toInt := by omega
      have e2 : (s2.toInt.toNat : Int) = s2.toInt := by omega
      have e3 : (v.2.2.1.toInt.toNat : Int) = v.2.2.1.toInt := by omega
      have e4 : (u.2.2.2.1.toInt.toNat : Int) = u.2.2.2.1.toInt := by omega
      have : ((s1.toInt.toNat * v.2.2.1.toInt.toNat : Nat) : Int) = ((s2.toInt.toNat * u.2.2.2.1.toInt.toNat : Nat) : Int) := by
        rw [Int.natCast_mul, Int.natCast_mul, e1, e2, e3, e4]
        exact p3
      omega
    · rw [if_neg hq, if_neg hq]
      exact rp_0 (by omega) hc.2.2
  · rw [if_neg hc, if_neg hc]
