/-! Places among the chosen; small numbers. -/
theorem k1_eq {x : Int64} (h0 : 0 ≤ x.toInt) (h : x < 1) : x = 0 := by
  refine Int64.toInt_inj.mp ?_
  rw [Int64.lt_iff_toInt_lt] at h
  have e : (1 : Int64).toInt = 1 := rfl
  have e2 : (0 : Int64).toInt = 0 := rfl
  omega
theorem pl_val {cn : Nat → Nat} {nc j : Nat} (h : pl cn nc j < nc) : cn (pl cn nc j) = j := of_decide_eq_true (fd_at (P := fun i => decide (cn i = j)) h)
theorem pl_here {cn : Nat → Nat} {nc j i : Nat} (h : i ≤ pl cn nc j) (he : cn i = j) : i = pl cn nc j := by
  rcases Nat.lt_or_ge i (pl cn nc j) with q | q
  · exact absurd he (of_decide_eq_false (fd_before (P := fun i => decide (cn i = j)) q))
  · omega
theorem pl_next {cn : Nat → Nat} {nc j i : Nat} (h : i ≤ pl cn nc j) (hi : i < nc) (he : cn i ≠ j) : i + 1 ≤ pl cn nc j := by
  rcases Nat.lt_or_ge i (pl cn nc j) with q | q
  · exact q
  · have e : i = pl cn nc j := by omega
    exact absurd (by rw [e]; exact pl_val (by omega)) he
theorem shl_hi {cn : Nat → Nat} {g e i : Nat} (h1 : g ≤ i) (h2 : i + 1 < e) : shl cn g e i = cn (i + 1) := if_pos ⟨h1, h2⟩
