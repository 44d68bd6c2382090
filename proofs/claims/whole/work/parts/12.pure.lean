/-! Numbers: Euclid with a count, maxima, ranges. -/
theorem lN_0 : lN 0 = 0 := rfl
theorem q_pos {q : Nat} (h : ¬ lN q = 0) : 0 < q := by
  rcases Nat.eq_zero_or_pos q with e | e
  · exact absurd (by rw [e]; rfl) h
  · exact e
theorem q_zero {q : Nat} (hq : q < 2 ^ 63) (h : lN q = 0) : q = 0 := (pk_lEQ hq (by decide)).mp (h.trans lN_0.symm)
theorem cd_mx {p : Nat} (hp : p < 2 ^ 63) : (if lN p < 1 then (1 : Int64) else lN p) = lN (max 1 p) := by
  have key : (lN p < (1 : Int64)) ↔ p < 1 := pk_lLT (b := 1) hp (by decide)
  by_cases h : p < 1
  · rw [if_pos (key.mpr h), Nat.max_eq_left (by omega)]; rfl
  · rw [if_neg (fun z => h (key.mp z)), Nat.max_eq_right (by omega)]
theorem cd_end {p q g : Nat} (hp : p < 2 ^ 63) (hg : Nat.gcd p q = g) (hq : q = 0) : (if lN p < 1 then (1 : Int64) else lN p) = lN (max 1 g) := by
  subst hq
  rw [Nat.gcd_zero_right] at hg
  subst hg
  exact cd_mx hp
/-- what is left of Euclid's steps after st of 100 -/
def cdI (p q st : Nat) : Prop := q < 2 ^ ((101 - st) / 2) ∨ (q < p ∧ p < 2 ^ ((102 - st) / 2))
theorem cdI_q {p q st : Nat} (h : cdI p q st) (hs : 100 ≤ st) : q = 0 := by
  rcases h with h | ⟨h1, h2⟩
  · rw [show (101 - st) / 2 = 0 by omega] at h
    omega
  · have e : 2 ^ ((102 - st) / 2) ≤ 2 ^ 1 := Nat.pow_le_pow_right (by decide) (by omega)
    omega
theorem cdI_step {p q st : Nat} (h : cdI p q st) (hq : 0 < q) (hs : st < 100) : cdI q (p % q) (st + 1) := by
  have hm := Nat.mod_lt p hq
  rcases h with h | ⟨h1, h2⟩
  · refine Or.inr ⟨hm, ?_⟩
    rw [show (102 - (st + 1)) / 2 = (101 - st) / 2 by omega]
    exact h
  · by_cases hb : q < 2 ^ ((101 - st) / 2)
    · refine Or.inr ⟨hm, ?_⟩
      rw [show (102 - (st + 1)) / 2 = (101 - st) / 2 by omega]
      exact hb
    · refine Or.inl ?_
      have hd : p % q ≤ p - q := by
        rw [Nat.mod_eq_sub_mod (Nat.le_of_lt h1)]
        exact Nat.mod_le _ _
      have e1 : 2 ^ ((102 - st) / 2) = 2 * 2 ^ ((100 - st) / 2) := by
        rw [show (102 - st) / 2 = (100 - st) / 2 + 1 by omega, Nat.pow_succ]
        omega
      have e2 : 2 ^ ((100 - st) / 2) ≤ 2 ^ ((101 - st) / 2) := Nat.pow_le_pow_right (by decide) (by omega)
      rw [show (101 - (st + 1)) / 2 = (100 - st) / 2 by omega]
      omega
theorem cdI_0 {p q : Nat} (h : q < 2 ^ 50) : cdI p q 0 := Or.inl h
theorem gcd_step (p q : Nat) : Nat.gcd q (p % q) = Nat.gcd p q := by
  rw [Nat.gcd_comm p q, Nat.gcd_rec q p, Nat.gcd_comm]
theorem lN_nz {q : Nat} (h0 : 0 < q) (hq : q < 2 ^ 63) : ¬ lN q = 0 := fun h => by
  have := q_zero hq h
  omega
def lotB (n : Nat) (x : Int32) : Bool := !decide (x < 0) && !decide (nI n ≤ x)
theorem lotB_nat {n : Nat} {x : Int32} (hn : n < 2 ^ 31) (h : lotB n x = true) : ∃ j : Nat, j < n ∧ x = nI j := by
  unfold lotB at h
  simp only [Bool.and_eq_true, Bool.not_eq_true', decide_eq_false_iff_not] at h
  rcases pk_ix x hn with a | a | a
  · exact absurd a h.1
  · exact absurd a h.2
  · exact a
theorem lotB_nI {n j : Nat} (hn : n < 2 ^ 31) (hj : j < 2 ^ 31) : lotB n (nI j) = decide (j < n) := by
  unfold lotB
  rw [decide_eq_false (nI_pos hj)]
  by_cases h : j < n
  · rw [decide_eq_false (nI_ge h hn), decide_eq_true h]; rfl
  · rw [decide_eq_true (nI_le (by omega) hj), decide_eq_false h]; rfl
def unB (n : Nat) (sp : Nat → Int32) (x : Int32) : Bool := lotB n x && decide (sp x.toNatClampNeg = 0)
theorem unB_nat {n : Nat} {sp : Nat → Int32} {x : Int32} (hn : n < 2 ^ 31) (h : unB n sp x = true) : ∃ j : Nat, j < n ∧ x = nI j ∧ sp j = 0 := by
  unfold unB at h
  rw [Bool.and_eq_true] at h
  obtain ⟨j, hj, rfl⟩ := lotB_nat hn h.1
  have h2 := of_decide_eq_true h.2
  rw [nI_clamp (by omega)] at h2
  exact ⟨j, hj, rfl, h2⟩
def rpF (a b : Nat) (part : Int32) : Int64 := if part = 0 then lN (a / max 1 (Nat.gcd a b)) else lN (b / max 1 (Nat.gcd a b))
def ybF (k : Nat) : Int64 := if k = 0 then 63000000 else if k = 1 then 8200 else 9700
def yaF (kg ft so : Int64) (k : Nat) : Int64 := if k = 0 then kg * (93 * ft + 75 * so) * 109 else if k = 1 then kg * ft else kg * (ft + so)
