/-! Numbers: Euclid with a count, maxima, ranges. -/
theorem lN_0 : lN 0 = 0 := rfl
theorem q_pos {q : Nat} (h : ¬ lN q = 0) : 0 < q := by
  rcases Nat.eq_zero_or_pos q with e | e
  · exact absurd (by rw [e]; rfl) h
  · exact e
theorem q_zero {q : Nat} (hq : q < 2 ^ 63) (h : lN q = 0) : q = 0 := (pk_lEQ hq (by decide)).mp (h.trans lN_0.symm)
theorem cd_mx {p : Nat} (hp : p < 2 ^ 63) : (if lN p < 1 then (1 : Int64) else lN p) = lN (max 1 p) := by
  have key : (lN p < (1 : Int64)) ↔ p < 1 := pk_lLT (b := 1) hp (by decide)
  by_cases h : p < 1
  · rw [if_pos (key.mpr h), Nat.max_eq_left (by omega)]; rfl
  · rw [if_neg (fun z => h (key.mp z)), Nat.max_eq_right (by omega)]
theorem cd_end {p q g : Nat} (hp : p < 2 ^ 63) (hg : Nat.gcd p q = g) (hq : q = 0) : (if lN p < 1 then (1 : Int64) else lN p) = lN (max 1 g) := by
  subst hq
  rw [Nat.gcd_zero_right] at hg
  subst hg
  exact cd_mx hp
/-- what is left of Euclid's steps after st of 100 -/
def cdI (p q st : Nat) : Prop := q < 2 ^ ((101 - st) / 2) ∨ (q < p ∧ p < 2 ^ ((102 - st) / 2))
theorem cdI_q {p q st : Nat} (h : cdI p q st) (hs : 100 ≤ st) : q = 0 := by
  rcases h with h | ⟨h1, h2⟩
  · rw [show (101 - st) / 2 = 0 by omega] at h
    omega
  · have e : 2 ^ ((102 - st) / 2) ≤ 2 ^ 1 := Nat.pow_le_pow_right (by decide) (by omega)
    omega
theorem cdI_step {p q st : Nat} (h : cdI p q st) (hq : 0 < q) (hs : st < 100) : cdI q (p % q) (st + 1) := by
  have hm := Nat.mod_lt p hq
  rcases h with h | ⟨h1, h2⟩
  · refine Or.inr ⟨hm, ?_⟩
    rw [show (102 - (st + 1)) / 2 = (101 - st) / 2 by omega]
    exact h
  · by_cases hb : q < 2 ^ ((101 - st) / 2)
    · refine Or.inr ⟨hm, ?_⟩
      rw [show (102 - (st + 1)) / 2 = (101 - st) / 2 by omega]
      exact hb
    · refine Or.inl ?_
      have hd : p % q ≤ p - q := by
        rw [Nat.mod_eq_sub_mod (Nat.le_of_lt h1)]
        exact Nat.mod_le _ _
      have e1 : 2 ^ ((102 - st) / 2) = 2 * 2 ^ ((100 - st) / 2) := by
        rw [show (102 - st) / 2 = (100 - st) / 2 + 1 by omega, Nat.pow_succ]
        omega
      have e2 : 2 ^ ((100 - st) / 2) ≤ 2 ^ ((101 - st) / 2) := Nat.pow_le_pow_right (by decide) (by omega)
      rw [show (101 - (st + 1)) / 2 = (100 - st) / 2 by omega]
      omega
theorem cdI_0 {p q : Nat} (h : q < 2 ^ 50) : cdI p q 0 := Or.inl h
theorem gcd_step (p q : Nat) : Nat.gcd q (p % q) = Nat.gcd p q := by
  rw [Nat.gcd_comm p q, Nat.gcd_rec q p, Nat.gcd_comm]
theorem lN_nz {q : Nat} (h0 : 0 < q) (hq : q < 2 ^ 63) : ¬ lN q = 0 := fun h => by
  have := q_zero hq h
  omega
def lotB (n : Nat) (x : Int32) : Bool := !decide (x < 0) && !decide (nI n ≤ x)
theorem lotB_nat {n : Nat} {x : Int32} (hn : n < 2 ^ 31) (h : lotB n x = true) : ∃ j : Nat, j < n ∧ x = nI j := by
  unfold lotB at h
  simp only [Bool.and_eq_true, Bool.not_eq_true', decide_eq_false_iff_not] at h
  rcases pk_ix x hn with a | a | a
  · exact absurd a h.1
  · exact absurd a h.2
  · exact a
theorem lotB_nI {n j : Nat} (hn : n < 2 ^ 31) (hj : j < 2 ^ 31) : lotB n (nI j) = decide (j < n) := by
  unfold lotB
  rw [decide_eq_false (nI_pos hj)]
  by_cases h : j < n
  · rw [decide_eq_false (nI_ge h hn), decide_eq_true h]; rfl
  · rw [decide_eq_true (nI_le (by omega) hj), decide_eq_false h]; rfl
def unB (n : Nat) (sp : Nat → Int32) (x : Int32) : Bool := lotB n x && decide (sp x.toNatClampNeg = 0)
theorem unB_nat {n : Nat} {sp : Nat → Int32} {x : Int32} (hn : n < 2 ^ 31) (h : unB n sp x = true) : ∃ j : Nat, j < n ∧ x = nI j ∧ sp j = 0 := by
  unfold unB at h
  rw [Bool.and_eq_true] at h
  obtain ⟨j, hj, rfl⟩ := lotB_nat hn h.1
  have h2 := of_decide_eq_true h.2
  rw [nI_clamp (by omega)] at h2
  exact ⟨j, hj, rfl, h2⟩
def rpF (a b : Nat) (part : Int32) : Int64 := if part = 0 then lN (a / max 1 (Nat.gcd a b)) else lN (b / max 1 (Nat.gcd a b))
def ybF (k : Nat) : Int64 := if k = 0 then 63000000 else if k = 1 then 8200 else 9700
def yaF (kg ft so : Int64) (k : Nat) : Int64 := if k = 0 then kg * (93 * ft + 75 * so) * 109 else if k = 1 then kg * ft else kg * (ft + so)
theorem toInt_lt63 (x : Int64) : x.toInt < 2 ^ 63 := Int64.toInt_lt x
theorem toNat_lt (x : Int64) : x.toInt.toNat < 2 ^ 63 := by
  have := toInt_lt63 x
  omega
theorem lN_self {x : Int64} (h : 0 ≤ x.toInt) : x = lN x.toInt.toNat := by
  refine Int64.toInt_inj.mp ?_
  rw [pk_lT (toNat_lt x)]
  omega
theorem gcd_lt (a : Nat) {b : Nat} (h0 : 0 < b) (hb : b < 2 ^ 50) : max 1 (Nat.gcd a b) < 2 ^ 63 := by
  have := Nat.gcd_le_right a h0
  omega
theorem yb_cases {k : Nat} (hk : k ≤ 2) : ybF k = 63000000 ∨ ybF k = 8200 ∨ ybF k = 9700 := by
  rcases (show k = 0 ∨ k = 1 ∨ k = 2 by omega) with rfl | rfl | rfl
  · exact Or.inl rfl
  · exact Or.inr (Or.inl rfl)
  · exact Or.inr (Or.inr rfl)
theorem yb_ne {k : Nat} (hk : k ≤ 2) : ¬ 2 * ybF k = 0 := by
  rcases yb_cases hk with h | h | h <;> rw [h] <;> decide
theorem yb_self {k : Nat} (hk : k ≤ 2) : ybF k = lN (ybF k).toInt.toNat := by
  rcases yb_cases hk with h | h | h <;> rw [h] <;> decide
theorem yb_lt {k : Nat} (hk : k ≤ 2) : (ybF k).toInt.toNat < 2 ^ 50 := by
  rcases yb_cases hk with h | h | h <;> rw [h] <;> decide
theorem yb_pos {k : Nat} (hk : k ≤ 2) : 0 < (ybF k).toInt.toNat := by
  rcases yb_cases hk with h | h | h <;> rw [h] <;> decide
theorem yb_gcd (a : Nat) {k : Nat} (hk : k ≤ 2) : max 1 (Nat.gcd a (ybF k).toInt.toNat) < 2 ^ 63 := gcd_lt a (yb_pos hk) (yb_lt hk)
theorem in02 {x : Int32} (h : inB x.toInt64 0 2 = true) : ∃ k : Nat, k ≤ 2 ∧ x = nI k := by
  unfold inB at h
  rw [Bool.and_eq_true, decide_eq_true_eq, decide_eq_true_eq, Int64.le_iff_toInt_le, Int64.le_iff_toInt_le, Int32.toInt_toInt64] at h
  have h1 : (0 : Int64).toInt = 0 := rfl
  have h2 : (2 : Int64).toInt = 2 := rfl
  rw [h1, h2] at h
  refine ⟨x.toInt.toNat, by omega, Int32.toInt_inj.mp ?_⟩
  rw [nI_toInt (by omega)]
  omega
theorem nn_i {p : Prop} (h : p) : ¬ ¬ p := fun q => q h
theorem ne_of_lt2 {e f c : Int64} (h1 : e < f) (h2 : f < c) : ¬ c - e = 0 := fun h => by
  have := l_sub0 h
  subst this
  rw [Int64.lt_iff_toInt_lt] at h1 h2
  omega
theorem inB_iff {x a b : Int64} : inB x a b = true ↔ a.toInt ≤ x.toInt ∧ x.toInt ≤ b.toInt := by
  unfold inB
  rw [Bool.and_eq_true, decide_eq_true_eq, decide_eq_true_eq, Int64.le_iff_toInt_le, Int64.le_iff_toInt_le]
/-- parts of 10,000: refused, or from 0 to 10,000 -/
theorem wpF_rng (a b : Int64) : wpF a b = -1 ∨ ∃ v : Nat, v ≤ 10000 ∧ wpF a b = lN v := by
  unfold wpF
  by_cases h : (inB b 1 10000 && inB a 0 b) = true
  · rw [if_pos h]
    by_cases h2 : a * 10000 - a * 10000 / b * b = 0
    · rw [if_pos h2]
      right
      rw [Bool.and_eq_true, inB_iff, inB_iff] at h
      obtain ⟨⟨h3, h4⟩, h5, h6⟩ := h
      have e1 : (1 : Int64).toInt = 1 := rfl
      have e2 : (10000 : Int64).toInt = 10000 := rfl
      have e3 : (0 : Int64).toInt = 0 := rfl
      have ha : a = lN a.toInt.toNat := lN_self (by omega)
      have hb : b = lN b.toInt.toNat := lN_self (by omega)
      refine ⟨a.toInt.toNat * 10000 / b.toInt.toNat, ?_, ?_⟩
      · refine Nat.div_le_of_le_mul ?_
        have : a.toInt.toNat ≤ b.toInt.toNat := by omega
        omega
      · have e4 : (10000 : Int64) = lN 10000 := rfl
        rw [e4]
        conv => lhs; rw [ha, hb]
        rw [lN_mul, pk_lDiv (by omega) (by omega) (by omega)]
    · rw [if_neg h2]
      exact Or.inl rfl
  · rw [if_neg h]
    exact Or.inl rfl
theorem wpF_le {a b : Int64} (h : ¬ wpF a b = -1) : (wpF a b).toInt ≤ 10000 ∧ 0 ≤ (wpF a b).toInt := by
  rcases wpF_rng a b with q | ⟨v, hv, q⟩
  · exact absurd q h
  · rw [q, pk_lT (by omega)]
    omega
theorem wp_ne {a b f : Int64} (h : ¬ wpF a b = -1) (h2 : f < wpF a b) : ¬ 10000 - f = 0 := fun q => by
  have e := l_sub0 q
  have h3 := wpF_le h
  rw [Int64.lt_iff_toInt_lt, ← e] at h2
  have e2 : (10000 : Int64).toInt = 10000 := rfl
  omega
theorem b_nt {b : Bool} (h : b = false) : ¬ b = true := by rw [h]; exact Bool.false_ne_true
