/-! What holds between two calls. -/
/-- a long of two ints of the script -/
def lg (xs : Nat → Int32) (k : Nat) : Int64 := ((xs k).toInt64 <<< ((nI 32).toInt64 &&& 63)) ||| ((xs (k + 1)).toInt64 &&& 4294967295)
def LInv (n sc np nc nr : Nat) (kg ft so : Nat → Int64) (sp : Nat → Int32) (cn : Nat → Nat) (ra rf : Nat → Int64) : Prop :=
  (n ≤ 60 ∧ 2 * sc ≤ n ∧ np ≤ 10 ∧ nc ≤ 4 ∧ nr ≤ 20) ∧
  (∀ j, j < n → (0 ≤ (kg j).toInt ∧ (kg j).toInt ≤ 1000000) ∧ (0 ≤ (ft j).toInt ∧ 0 ≤ (so j).toInt ∧ (ft j).toInt + (so j).toInt ≤ 10000)) ∧
  (∀ j, n ≤ j → sp j = nI 0) ∧ (∀ i, i < nc → cn i < n) ∧ (∀ i k, i < nc → k < nc → cn i = cn k → i = k) ∧
  (∀ j, j < nr → (0 ≤ (ra j).toInt ∧ (ra j).toInt ≤ 1000000) ∧ (0 ≤ (rf j).toInt ∧ (rf j).toInt ≤ 10000)) ∧ (∀ i, i + 1 < nr → ra i < ra (i + 1))
def LMix (ml : Nat → Int32) (mn : Nat) (u : MixS) (ml2 : Nat → Int32) (mc : Nat) (v : ModS) : Prop :=
  mn ≤ 4 ∧ mc ≤ 4 ∧ u.2.2.2.2 = v.2.2.2 ∧ (v.2.2.2 = true → mn = mc ∧ (∀ j, j < mc → ml j = ml2 j) ∧
    (∀ j, j < mc → 0 ≤ (u.2.2.1 j).toInt ∧ 0 ≤ (v.2.1 j).toInt ∧ (u.2.2.1 j).toInt * v.2.2.1.toInt = (v.2.1 j).toInt * u.2.2.2.1.toInt) ∧
    (0 < u.2.2.2.1.toInt ∧ u.2.2.2.1.toInt < 2 ^ 50) ∧ (0 < v.2.2.1.toInt ∧ v.2.2.1.toInt < 2 ^ 50))
theorem lm_x {ml : Nat → Int32} {mn : Nat} {u : MixS} {ml2 : Nat → Int32} {mc : Nat} {v : ModS} (h : LMix ml mn u ml2 mc v) : u.2.2.2.2 = true → (∀ x, 0 ≤ (abF ml mn u.2.2.1 x).toInt) ∧ 0 < u.2.2.2.1.toInt ∧ u.2.2.2.1.toInt < 2 ^ 50 := by
  intro hm
  obtain ⟨h1, h2, h3, h4⟩ := h
  obtain ⟨e, -, h6, h7, -⟩ := h4 (h3.symm.trans hm)
  refine ⟨fun x => ?_, h7⟩
  unfold abF
  by_cases hq : fd (fun j => decide (ml j = x)) mn < mn
  · rw [if_pos hq]
    exact (h6 _ (by omega)).1
  · rw [if_neg hq]
    decide
theorem lm_r {ml : Nat → Int32} {mn : Nat} {u : MixS} {ml2 : Nat → Int32} {mc : Nat} {v : ModS} (h : LMix ml mn u ml2 mc v) : v.2.2.2 = true → (∀ j, j < mc → 0 ≤ (v.2.1 j).toInt) ∧ 0 < v.2.2.1.toInt ∧ v.2.2.1.toInt < 2 ^ 50 := by
  intro hm
  obtain ⟨h1, h2, h3, h4⟩ := h
  obtain ⟨e, -, h6, -, h8⟩ := h4 hm
  exact ⟨fun j hj => (h6 j hj).2.1, h8⟩
theorem std_ans {ml ml2 : Nat → Int32} {mn mc : Nat} {u : MixS} {v : ModS} (h : LMix ml mn u ml2 mc v) {r : Bool} : stA r u.2.2.2.2 = stA r v.2.2.2 := by rw [h.2.2.1]
theorem li_0 : LInv 0 0 0 0 0 (fun _ => 0) (fun _ => 0) (fun _ => 0) (fun _ => 0) (fun _ => 0) (fun _ => 0) (fun _ => 0) :=
  ⟨⟨by omega, by omega, by omega, by omega, by omega⟩, fun j h => absurd h (Nat.not_lt_zero j), fun _ _ => rfl, fun i h => absurd h (Nat.not_lt_zero i), fun i k h => absurd h (Nat.not_lt_zero i), fun j h => absurd h (Nat.not_lt_zero j), fun i h => absurd h (Nat.not_lt_zero _)⟩
theorem lm_0 : LMix (fun _ => 0) 0 (fun _ => 0, 1, fun _ => 0, 1, false) (fun _ => 0) 0 (fun _ => 0, fun _ => 0, 0, false) :=
  ⟨by omega, by omega, rfl, fun h => absurd h (by decide)⟩
