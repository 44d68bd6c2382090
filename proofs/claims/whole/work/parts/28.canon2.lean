/-! More about rows, choosing and Euclid, for the reference. -/
def grF (ra : Nat → Int64) (w : Int64) (n : Nat) : Nat := fd (fun j => decide (w < ra j)) n
theorem grF_le (ra : Nat → Int64) (w : Int64) (n : Nat) : grF ra w n ≤ n := fd_le _ _
theorem grF_before {ra : Nat → Int64} {w : Int64} {n j : Nat} (h : j < grF ra w n) : ra j ≤ w := Int64.not_lt.mp (of_decide_eq_false (fd_before (P := fun j => decide (w < ra j)) h))
theorem grF_at {ra : Nat → Int64} {w : Int64} {n : Nat} (h : grF ra w n < n) : w < ra (grF ra w n) := of_decide_eq_true (fd_at (P := fun j => decide (w < ra j)) h)
theorem rowF_eq {ra : Nat → Int64} {w : Int64} {n i : Nat} (hi : i < n) (h1 : w ≤ ra i) (h2 : ∀ j, j < i → ra j < w) : rowF ra w n = i :=
  fd_eq hi (decide_eq_true h1) (fun j hj => decide_eq_false (Int64.not_le.mpr (h2 j hj)))
theorem rowF_n {ra : Nat → Int64} {w : Int64} {n : Nat} (h2 : ∀ j, j < n → ra j < w) : rowF ra w n = n :=
  fd_n (fun j hj => decide_eq_false (Int64.not_le.mpr (h2 j hj)))
theorem l_lt_le {a b c : Int64} (h : a < b) (h2 : b ≤ c) : a < c := by rw [Int64.lt_iff_toInt_lt] at *; rw [Int64.le_iff_toInt_le] at h2; omega
theorem l_le_lt {a b c : Int64} (h : a ≤ b) (h2 : b < c) : a < c := by rw [Int64.lt_iff_toInt_lt] at *; rw [Int64.le_iff_toInt_le] at h; omega
theorem l_le_of_lt {a b : Int64} (h : a < b) : a ≤ b := by rw [Int64.lt_iff_toInt_lt] at h; rw [Int64.le_iff_toInt_le]; omega
theorem l_lt_of {a b : Int64} (h : a ≤ b) (h2 : ¬ a = b) : a < b := by
  rw [Int64.le_iff_toInt_le] at h
  rw [Int64.lt_iff_toInt_lt]
  rw [← Int64.toInt_inj] at h2
  omega
theorem l_irr {a b : Int64} (h : a < b) (h2 : b ≤ a) : False := by rw [Int64.lt_iff_toInt_lt] at h; rw [Int64.le_iff_toInt_le] at h2; omega
theorem srt_lt {ra : Nat → Int64} {n : Nat} (h : ∀ i, i + 1 < n → ra i < ra (i + 1)) : ∀ (d i : Nat), i + d + 1 < n → ra i < ra (i + d + 1)
  | 0, i, hi => h i hi
  | d + 1, i, hi => l_lt_le (srt_lt h d i (by omega)) (l_le_of_lt (h (i + d + 1) hi))
theorem srt {ra : Nat → Int64} {n i j : Nat} (h : ∀ i, i + 1 < n → ra i < ra (i + 1)) (hij : i < j) (hj : j < n) : ra i < ra j := by
  have := srt_lt h (j - i - 1) i (by omega)
  rw [show i + (j - i - 1) + 1 = j by omega] at this
  exact this
theorem lf_0 {ra rf : Nat → Int64} {w : Int64} {nr : Nat} (h : nr ≠ 0) (hg : grF ra w nr = 0) : skF ra rf nr w = rf 0 := by
  have h0 : 0 < nr := Nat.pos_of_ne_zero h
  have h1 := grF_at (ra := ra) (w := w) (n := nr) (by omega)
  rw [hg] at h1
  have hr : rowF ra w nr = 0 := rowF_eq h0 (l_le_of_lt h1) (fun j hj => absurd hj (Nat.not_lt_zero j))
  unfold skF
  rw [if_neg h, hr, if_neg (by omega), if_pos (Or.inl rfl)]
theorem lf_n {ra rf : Nat → Int64} {w : Int64} {nr : Nat} (hso : ∀ i, i + 1 < nr → ra i < ra (i + 1)) (h : nr ≠ 0) (hg : grF ra w nr = nr) : skF ra rf nr w = rf (nr - 1) := by
  have hb : ∀ j, j < nr → ra j ≤ w := fun j hj => grF_before (n := nr) (by omega)
  by_cases he : ra (nr - 1) = w
  · have hr : rowF ra w nr = nr - 1 := rowF_eq (by omega) (by rw [he]; exact Int64.le_refl w) (fun j hj => by rw [← he]; exact srt hso hj (by omega))
    unfold skF
    rw [if_neg h, hr, if_neg (by omega), if_pos (Or.inr he)]
  · have hr : rowF ra w nr = nr := rowF_n (fun j hj => by
      by_cases e : j = nr - 1
      · subst e
        exact l_lt_of (hb _ hj) he
      · exact l_lt_le (srt hso (show j < nr - 1 by omega) (by omega)) (hb _ (by omega)))
    unfold skF
    rw [if_neg h, hr, if_pos rfl]
theorem lf_ne {ra : Nat → Int64} {w : Int64} {nr : Nat} (h0 : grF ra w nr ≠ 0) (hl : grF ra w nr < nr) : ¬ ra (grF ra w nr) - ra (grF ra w nr - 1) = 0 := fun h => by
  have e := l_sub0 h
  have h1 : ra (grF ra w nr - 1) ≤ w := grF_before (n := nr) (by omega)
  have h2 := grF_at hl
  rw [e] at h2
  exact l_irr h2 h1
theorem updL_same {f : Nat → Int64} {k : Nat} {x : Int64} (h : f k = x) : vp_updL f k x = f := by
  funext j
  unfold vp_updL
  by_cases hj : j = k
  · rw [if_pos hj, hj, h]
  · rw [if_neg hj]
/-- floorDiv by a positive divisor, by the rest's sign -/
theorem xor_neg {x y : Int64} (hy : 0 ≤ y) : (x ^^^ y) < 0 ↔ x < 0 := by
  have hm : ∀ z : Int64, z < 0 ↔ z.toBitVec.msb = true := fun z => by
    rw [Int64.lt_iff_toInt_lt, ← Int64.toInt_toBitVec]
    rw [BitVec.msb_eq_toInt]
    have e : (0 : Int64).toInt = 0 := rfl
    rw [e]
    simp
  have hy2 : y.toBitVec.msb = false := by
    cases h : y.toBitVec.msb with
    | false => rfl
    | true => exact absurd ((hm y).mpr h) (Int64.not_lt.mpr hy)
  rw [hm, hm, Int64.toBitVec_xor, BitVec.msb_xor, hy2]
  simp
theorem fdiv_pos {x y : Int64} (hy : 0 < y) : fdiv x y = if x - x / y * y < 0 then x / y - 1 else x / y := by
  have hy0 : 0 ≤ y := l_le_of_lt hy
  have ey : 0 < y.toInt := by rw [Int64.lt_iff_toInt_lt] at hy; exact hy
  have hdiv : (x / y).toInt = x.toInt.tdiv y.toInt := by
    rw [Int64.toInt_div_of_ne_right]
    intro h
    rw [h] at ey
    revert ey
    decide
  have hE := Int.tdiv_mul_add_tmod x.toInt y.toInt
  have hl := Int.tmod_lt_of_pos x.toInt ey
  have hg := Int.lt_tmod_of_pos x.toInt ey
  have hp : 0 ≤ x.toInt → 0 ≤ x.toInt.tmod y.toInt := fun h => Int.tmod_nonneg _ h
  have hn : x.toInt ≤ 0 → x.toInt.tmod y.toInt ≤ 0 := fun h => by
    have := Int.tmod_nonneg (a := -x.toInt) y.toInt (by omega)
    rw [Int.neg_tmod] at this
    omega
  have b1 := Int64.le_toInt x
  have b2 := Int64.toInt_lt x
  have b3 := Int64.toInt_lt y
  generalize x.toInt.tdiv y.toInt * y.toInt = q at hE
  have hmul : (x / y * y).toInt = x.toInt - x.toInt.tmod y.toInt := by
    rw [Int64.toInt_mul, hdiv]
    have hE2 := Int.tdiv_mul_add_tmod x.toInt y.toInt
    rw [show x.toInt.tdiv y.toInt * y.toInt = x.toInt - x.toInt.tmod y.toInt by omega]
    rw [Int.bmod_eq_of_le] <;> omega
  have hsub : (x - x / y * y).toInt = x.toInt.tmod y.toInt := by
    rw [Int64.toInt_sub, hmul, show x.toInt - (x.toInt - x.toInt.tmod y.toInt) = x.toInt.tmod y.toInt by omega]
    rw [Int.bmod_eq_of_le] <;> omega
  have key : ((x ^^^ y) < 0 ∧ ¬ x / y * y = x) ↔ x - x / y * y < 0 := by
    rw [xor_neg hy0, Int64.lt_iff_toInt_lt, Int64.lt_iff_toInt_lt, hsub, ← Int64.toInt_inj, hmul]
    have e : (0 : Int64).toInt = 0 := rfl
    rw [e]
    constructor
    · rintro ⟨h1, h2⟩
      have h3 := hn (by omega)
      omega
    · intro h1
      refine ⟨?_, by omega⟩
      rcases Int.lt_or_le x.toInt 0 with q | q
      · exact q
      · have := hp q
        omega
  unfold fdiv
  by_cases h : x - x / y * y < 0
  · rw [if_pos (key.mpr h), if_pos h]
  · rw [if_neg (fun z => h (key.mp z)), if_neg h]
theorem lf_mid {ra rf : Nat → Int64} {w : Int64} {nr : Nat} (hso : ∀ i, i + 1 < nr → ra i < ra (i + 1)) (h0 : grF ra w nr ≠ 0) (hl : grF ra w nr < nr) :
    skF ra rf nr w = rf (grF ra w nr - 1) + fdiv ((rf (grF ra w nr) - rf (grF ra w nr - 1)) * (w - ra (grF ra w nr - 1))) (ra (grF ra w nr) - ra (grF ra w nr - 1)) := by
  have hb : ra (grF ra w nr - 1) ≤ w := grF_before (n := nr) (by omega)
  have ha := grF_at hl
  by_cases he : ra (grF ra w nr - 1) = w
  · have hr : rowF ra w nr = grF ra w nr - 1 := rowF_eq (by omega) (by rw [he]; exact Int64.le_refl w) (fun j hj => by rw [← he]; exact srt hso hj (by omega))
    have hz : (rf (grF ra w nr) - rf (grF ra w nr - 1)) * (w - ra (grF ra w nr - 1)) = 0 := by rw [he]; simp
    have hf : ∀ y : Int64, fdiv 0 y = 0 := fun y => by
      unfold fdiv
      have e0 : (0 : Int64) / y = 0 := by simp
      rw [e0, if_neg (fun h => h.2 (by simp))]
    unfold skF
    rw [if_neg (by omega), hr, if_neg (by omega), if_pos (Or.inr he), hz, hf]
    simp
  · have hr : rowF ra w nr = grF ra w nr := rowF_eq hl (l_le_of_lt ha) (fun j hj => by
      by_cases e : j = grF ra w nr - 1
      · rw [e]; exact l_lt_of hb he
      · exact l_lt_le (srt hso (show j < grF ra w nr - 1 by omega) (by omega)) hb)
    unfold skF
    rw [if_neg (by omega), hr, if_neg (by omega), if_neg (fun h => h.elim h0 (fun z => by rw [z] at ha; exact l_irr ha (Int64.le_refl w)))]
    rfl
theorem lf_wide {ra : Nat → Int64} {w : Int64} {nr : Nat} (hA : ∀ j, j < nr → 0 ≤ (ra j).toInt ∧ (ra j).toInt ≤ 1000000) (h0 : grF ra w nr ≠ 0) (hl : grF ra w nr < nr) : 0 < ra (grF ra w nr) - ra (grF ra w nr - 1) := by
  have hb : ra (grF ra w nr - 1) ≤ w := grF_before (n := nr) (by omega)
  have ha := grF_at hl
  have h1 := hA _ hl
  have h2 := hA (grF ra w nr - 1) (by omega)
  have h3 := l_le_lt hb ha
  rw [Int64.lt_iff_toInt_lt] at *
  rw [Int64.toInt_sub]
  have e : (0 : Int64).toInt = 0 := rfl
  rw [e, Int.bmod_eq_of_le] <;> omega
theorem lf_m1 {ra rf : Nat → Int64} {w : Int64} {nr : Nat} (hA : ∀ j, j < nr → 0 ≤ (ra j).toInt ∧ (ra j).toInt ≤ 1000000) (hso : ∀ i, i + 1 < nr → ra i < ra (i + 1)) (h0 : grF ra w nr ≠ 0) (hl : grF ra w nr < nr)
    {x y : Int64} (hx : x = (rf (grF ra w nr) - rf (grF ra w nr - 1)) * (w - ra (grF ra w nr - 1))) (hy : y = ra (grF ra w nr) - ra (grF ra w nr - 1)) (h : x - x / y * y < 0) : skF ra rf nr w = rf (grF ra w nr - 1) + (x / y - 1) := by
  rw [lf_mid hso h0 hl, ← hx, ← hy, fdiv_pos (by rw [hy]; exact lf_wide hA h0 hl), if_pos h]
theorem lf_m0 {ra rf : Nat → Int64} {w : Int64} {nr : Nat} (hA : ∀ j, j < nr → 0 ≤ (ra j).toInt ∧ (ra j).toInt ≤ 1000000) (hso : ∀ i, i + 1 < nr → ra i < ra (i + 1)) (h0 : grF ra w nr ≠ 0) (hl : grF ra w nr < nr)
    {x y : Int64} (hx : x = (rf (grF ra w nr) - rf (grF ra w nr - 1)) * (w - ra (grF ra w nr - 1))) (hy : y = ra (grF ra w nr) - ra (grF ra w nr - 1)) (h : 0 ≤ x - x / y * y) : skF ra rf nr w = rf (grF ra w nr - 1) + (x / y - 0) := by
  rw [lf_mid hso h0 hl, ← hx, ← hy, fdiv_pos (by rw [hy]; exact lf_wide hA h0 hl), if_neg (Int64.not_lt.mpr h), l_sub_0]
theorem q_pos2 {q : Nat} (hq : q < 2 ^ 63) (h : 0 < lN q) : 0 < q := (pk_lLT (a := 0) (by decide) hq).mp h
theorem q_le0 {q : Nat} (hq : q < 2 ^ 63) (h : lN q ≤ 0) : q = 0 := by
  have := (pk_lLE (b := 0) hq (by decide)).mp h
  omega
theorem ch_go {n : Nat} {sp : Nat → Int32} {cn : Nat → Nat} {nc i : Nat} {x : Int32} {bb : Bool} (h1 : bb = true → lotB n x = true ∧ sp x.toNatClampNeg = 0 ∧ nc < 4 ∧ ∀ t, t < i → ¬ nI (cn t) = x) (hb : bb = true) (h : ¬ nI (cn i) = x) : lotB n x = true ∧ sp x.toNatClampNeg = 0 ∧ nc < 4 ∧ ∀ t, t < i + 1 → ¬ nI (cn t) = x := by
  obtain ⟨a, b, d, e⟩ := h1 hb
  refine ⟨a, b, d, fun t ht => ?_⟩
  by_cases q : t = i
  · rw [q]; exact h
  · exact e t (by omega)
theorem ch_f {n : Nat} {sp : Nat → Int32} {cn : Nat → Nat} {nc i : Nat} {x : Int32} (hn : n < 2 ^ 31) (hnc : nc ≤ 4) (hi : i < nc) (h : nI (cn i) = x) (hc : cn i < 60) : chY n sp cn nc x = false := by
  unfold chY
  have hp : pl cn nc x.toNatClampNeg < nc := by
    rw [← h, nI_clamp (by omega)]
    have h1 : ¬ i < pl cn nc (cn i) := fun q => by
      have := fd_before (P := fun t => decide (cn t = cn i)) q
      simp at this
    have h2 := pl_le cn nc (cn i)
    omega
  rw [decide_eq_false (nn_i hp)]
  simp
theorem ch_end {n : Nat} {sp : Nat → Int32} {cn : Nat → Nat} {nc i : Nat} {x : Int32} {bb : Bool} (hn : n < 2 ^ 31) (hnc : nc ≤ 4) (hcn : ∀ i, i < nc → cn i < 60)
    (h1 : bb = true → lotB n x = true ∧ sp x.toNatClampNeg = 0 ∧ nc < 4 ∧ ∀ t, t < i → ¬ nI (cn t) = x) (h2 : bb = false → chY n sp cn nc x = false) (hi : nc ≤ i) : bb = chY n sp cn nc x := by
  cases hb : bb with
  | false => exact (h2 hb).symm
  | true =>
    obtain ⟨a, b, d, e⟩ := h1 hb
    obtain ⟨j, hj, rfl⟩ := lotB_nat hn a
    have hp : ¬ pl cn nc (nI j).toNatClampNeg < nc := fun q => by
      have h3 := fd_at (P := fun t => decide (cn t = (nI j).toNatClampNeg)) q
      have h4 : cn (pl cn nc (nI j).toNatClampNeg) = (nI j).toNatClampNeg := of_decide_eq_true h3
      refine e (pl cn nc (nI j).toNatClampNeg) (by omega) ?_
      rw [h4, nI_clamp (by omega)]
    unfold chY unB
    rw [a, decide_eq_true b, decide_eq_true hp, decide_eq_true d]
    rfl
theorem ch_room {n : Nat} {sp : Nat → Int32} {cn : Nat → Nat} {nc : Nat} {x : Int32} (hn : n < 2 ^ 31) (h : chY n sp cn nc x = true) : nc < 4 ∧ ∃ j, j < n ∧ x = nI j := by
  unfold chY unB at h
  simp only [Bool.and_eq_true, decide_eq_true_eq] at h
  obtain ⟨⟨h1, -⟩, -, h3⟩ := h
  exact ⟨h3, lotB_nat hn h1⟩
