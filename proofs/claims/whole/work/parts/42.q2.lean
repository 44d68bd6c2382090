/-! Points of the plane: number 4 is the wanted one. -/
def PR (X Y : Nat → Int) (i j k : Nat) : Int := (X j - X i) * (X k - X i) + (Y j - Y i) * (Y k - Y i)
def AR (X Y : Nat → Int) (i j k : Nat) : Int := (X j - X i) * (Y k - Y i) - (X k - X i) * (Y j - Y i)
def isV (n : Nat) (N : Nat → Int) (d : Int) (c : Nat → Rat) : Prop := ∀ t, t < n → c t = Rat.divInt (N t) d
theorem isV_eq {n : Nat} {N N' : Nat → Int} {d d' : Int} {c : Nat → Rat} (hd : 0 < d) (hd' : 0 < d') (h : ∀ t, t < n → N t * d' = N' t * d) (q : isV n N d c) : isV n N' d' c := fun t ht => (q t ht).trans ((q_eq hd hd').mpr (h t ht))
def n1 (i : Nat) (a : Int) : Nat → Int := fun t => if t = i then a else 0
def n2 (i j : Nat) (a b : Int) : Nat → Int := fun t => if t = i then a else if t = j then b else 0
def n3 (i j k : Nat) (a b d : Int) : Nat → Int := fun t => if t = i then a else if t = j then b else if t = k then d else 0
def CX1 (n : Nat) (X Y : Nat → Int) (i : Nat) (c : Nat → Rat) : Prop := X i = X 4 ∧ Y i = Y 4 ∧ isV n (n1 i 1) 1 c
def CX2 (n : Nat) (X Y : Nat → Int) (i j : Nat) (c : Nat → Rat) : Prop := PR X Y i j j ≠ 0 ∧ AR X Y i j 4 = 0 ∧ 0 ≤ PR X Y i j 4 ∧ PR X Y i j 4 ≤ PR X Y i j j ∧ isV n (n2 i j (PR X Y i j j - PR X Y i j 4) (PR X Y i j 4)) (PR X Y i j j) c
def CX3 (n : Nat) (X Y : Nat → Int) (i j k : Nat) (c : Nat → Rat) : Prop := ∃ e : Int, (e = 1 ∨ e = -1) ∧ 0 < e * AR X Y i j k ∧ 0 ≤ e * AR X Y 4 j k ∧ 0 ≤ e * AR X Y i 4 k ∧ 0 ≤ e * AR X Y i j 4 ∧ isV n (n3 i j k (e * AR X Y 4 j k) (e * AR X Y i 4 k) (e * AR X Y i j 4)) (e * AR X Y i j k) c
def wI (X Y : Nat → Int) (i j : Nat) : Int := if X j - X i = 0 then Y j - Y i else X j - X i
def aI (X Y : Nat → Int) (i j : Nat) : Int := if X j - X i = 0 then Y 4 - Y i else X 4 - X i
def CR2 (n : Nat) (X Y : Nat → Int) (i j : Nat) (c : Nat → Rat) : Prop := ∃ e : Int, (e = 1 ∨ e = -1) ∧ 0 < e * wI X Y i j ∧ AR X Y i j 4 = 0 ∧ 0 < e * aI X Y i j ∧ e * aI X Y i j < e * wI X Y i j ∧ isV n (n2 i j (e * wI X Y i j - e * aI X Y i j) (e * aI X Y i j)) (e * wI X Y i j) c
def CR3 (n : Nat) (X Y : Nat → Int) (i j k : Nat) (c : Nat → Rat) : Prop := ∃ e : Int, (e = 1 ∨ e = -1) ∧ 0 < e * AR X Y i j k ∧ 0 < e * AR X Y i 4 k ∧ 0 < e * AR X Y i j 4 ∧ e * AR X Y i 4 k + e * AR X Y i j 4 < e * AR X Y i j k ∧ isV n (n3 i j k (e * AR X Y i j k - e * AR X Y i 4 k - e * AR X Y i j 4) (e * AR X Y i 4 k) (e * AR X Y i j 4)) (e * AR X Y i j k) c
theorem rg1 (dx dy ux uy : Int) : (dx * dx + dy * dy) * ux = dx * (dx * ux + dy * uy) - dy * (dx * uy - ux * dy) := by grind
theorem rg2 (dx dy ux uy : Int) : (dx * dx + dy * dy) * uy = dy * (dx * ux + dy * uy) + dx * (dx * uy - ux * dy) := by grind
theorem rg3 (dx dy ux uy : Int) : (dx * ux + dy * uy) * dx = ux * (dx * dx + dy * dy) + dy * (dx * uy - ux * dy) := by grind
theorem rI0 (X Y : Nat → Int) (i j k : Nat) : AR X Y 4 j k = AR X Y i j k - AR X Y i 4 k - AR X Y i j 4 := by unfold AR; grind
theorem rI1 (X Y : Nat → Int) (i j k : Nat) : AR X Y i j k * (X 4 - X i) = AR X Y i 4 k * (X j - X i) + AR X Y i j 4 * (X k - X i) := by unfold AR; grind
theorem rI1y (X Y : Nat → Int) (i j k : Nat) : AR X Y i j k * (Y 4 - Y i) = AR X Y i 4 k * (Y j - Y i) + AR X Y i j 4 * (Y k - Y i) := by unfold AR; grind
theorem rI2 (X Y : Nat → Int) (i j k : Nat) : AR X Y i j k * (X 4 - X j) = AR X Y 4 j k * (X i - X j) + AR X Y i j 4 * (X k - X j) := by unfold AR; grind
theorem rI2y (X Y : Nat → Int) (i j k : Nat) : AR X Y i j k * (Y 4 - Y j) = AR X Y 4 j k * (Y i - Y j) + AR X Y i j 4 * (Y k - Y j) := by unfold AR; grind
theorem rI3 (X Y : Nat → Int) (j k : Nat) : AR X Y j k 4 = AR X Y 4 j k := by unfold AR; grind
theorem rI4 (X Y : Nat → Int) (i k : Nat) : AR X Y i k 4 = - AR X Y i 4 k := by unfold AR; grind
theorem sq_nn (a : Int) : 0 ≤ a * a := by
  rcases Int.le_total 0 a with h | h
  · exact Int.mul_nonneg h h
  · exact Int.mul_nonneg_of_nonpos_of_nonpos h h
theorem PR_nn (X Y : Nat → Int) (i j : Nat) : 0 ≤ PR X Y i j j := by
  unfold PR
  have h1 := sq_nn (X j - X i)
  have h2 := sq_nn (Y j - Y i)
  omega
theorem sq_0 {a : Int} (h : a * a = 0) : a = 0 := by
  rcases Int.mul_eq_zero.mp h with q | q <;> exact q
theorem PR_0 {X Y : Nat → Int} {i j : Nat} (h : PR X Y i j j = 0) : X j - X i = 0 ∧ Y j - Y i = 0 := by
  unfold PR at h
  have h1 := sq_nn (X j - X i)
  have h2 := sq_nn (Y j - Y i)
  exact ⟨sq_0 (by omega), sq_0 (by omega)⟩
/-- a fraction r of what is in line: its numbers are in range -/
theorem in_rng {P N a D : Int} (hN : 0 < N) (hD : 0 < D) (h : D * P = a * N) (h0 : 0 ≤ a) (h1 : a ≤ D) : 0 ≤ P ∧ P ≤ N := by
  constructor
  · rcases Int.lt_or_le P 0 with q | q
    · have q1 : D * P < 0 := Int.mul_neg_of_pos_of_neg hD q
      have q2 : 0 ≤ a * N := Int.mul_nonneg h0 (by omega)
      omega
    · exact q
  · have q1 : a * N ≤ D * N := Int.mul_le_mul_of_nonneg_right h1 (by omega)
    rw [← h] at q1
    exact Int.le_of_mul_le_mul_left q1 hD
theorem geo_key {X Y : Nat → Int} {i j : Nat} (hA : AR X Y i j 4 = 0) : PR X Y i j 4 * wI X Y i j = aI X Y i j * PR X Y i j j := by
  have d2 : (X j - X i) * (Y 4 - Y i) - (X 4 - X i) * (Y j - Y i) = 0 := hA
  unfold wI aI PR
  by_cases dx : X j - X i = 0
  · rw [if_pos dx, if_pos dx, dx]
    generalize Y j - Y i = dy
    generalize Y 4 - Y i = uy
    grind
  · rw [if_neg dx, if_neg dx]
    have e3 := rg3 (X j - X i) (Y j - Y i) (X 4 - X i) (Y 4 - Y i)
    rw [d2] at e3
    omega
theorem str2 {P N a w : Int} (hN : 0 < N) (hw : 0 < w) (h : P * w = a * N) (h0 : 0 < P) (h1 : P < N) : 0 < a ∧ a < w := by
  have q1 : 0 < P * w := Int.mul_pos h0 hw
  have q2 : P * w < N * w := Int.mul_lt_mul_of_pos_right h1 hw
  constructor
  · rcases Int.lt_or_le 0 a with q | q
    · exact q
    · have : a * N ≤ 0 := Int.mul_nonpos_of_nonpos_of_nonneg q (by omega)
      omega
  · rw [h, Int.mul_comm N w] at q2
    exact Int.lt_of_mul_lt_mul_right q2 (by omega)
theorem isV_n2 {n i j : Nat} {a b d a' b' d' : Int} {c : Nat → Rat} (hd : 0 < d) (hd' : 0 < d') (h1 : a * d' = a' * d) (h2 : b * d' = b' * d) (q : isV n (n2 i j a b) d c) : isV n (n2 i j a' b') d' c := isV_eq hd hd' (fun t _ => by
  unfold n2
  by_cases e : t = i
  · rw [if_pos e, if_pos e]; exact h1
  · rw [if_neg e, if_neg e]
    by_cases e2 : t = j
    · rw [if_pos e2, if_pos e2]; exact h2
    · rw [if_neg e2, if_neg e2]; omega) q
theorem geo2 {n : Nat} {X Y : Nat → Int} {i j : Nat} {c : Nat → Rat} (hij : i ≠ j) (h : CX2 n X Y i j c) : CX1 n X Y i c ∨ CX1 n X Y j c ∨ CR2 n X Y i j c := by
  obtain ⟨hB, hA, h0, h1, hv⟩ := h
  have hN := PR_nn X Y i j
  by_cases z : PR X Y i j 4 = 0
  · left
    have e1 := rg1 (X j - X i) (Y j - Y i) (X 4 - X i) (Y 4 - Y i)
    have e2 := rg2 (X j - X i) (Y j - Y i) (X 4 - X i) (Y 4 - Y i)
    have d1 : (X j - X i) * (X 4 - X i) + (Y j - Y i) * (Y 4 - Y i) = 0 := z
    have d2 : (X j - X i) * (Y 4 - Y i) - (X 4 - X i) * (Y j - Y i) = 0 := hA
    rw [d1, d2] at e1 e2
    have e1' : PR X Y i j j * (X 4 - X i) = 0 := by unfold PR; omega
    have e2' : PR X Y i j j * (Y 4 - Y i) = 0 := by unfold PR; omega
    have f1 := (Int.mul_eq_zero.mp e1').resolve_left hB
    have f2 := (Int.mul_eq_zero.mp e2').resolve_left hB
    refine ⟨by omega, by omega, isV_eq (by omega) (by omega) (fun t _ => ?_) hv⟩
    unfold n2 n1
    rw [z]
    by_cases a : t = i
    · rw [if_pos a, if_pos a]; omega
    · rw [if_neg a, if_neg a]
      by_cases b : t = j
      · rw [if_pos b]; omega
      · rw [if_neg b]; omega
  · right
    by_cases z2 : PR X Y i j 4 = PR X Y i j j
    · left
      have e1 := rg1 (X j - X i) (Y j - Y i) (X 4 - X i) (Y 4 - Y i)
      have e2 := rg2 (X j - X i) (Y j - Y i) (X 4 - X i) (Y 4 - Y i)
      have d1 : (X j - X i) * (X 4 - X i) + (Y j - Y i) * (Y 4 - Y i) = PR X Y i j j := z2
      have d2 : (X j - X i) * (Y 4 - Y i) - (X 4 - X i) * (Y j - Y i) = 0 := hA
      rw [d1, d2] at e1 e2
      have e1' : PR X Y i j j * (X 4 - X j) = 0 := by
        have : PR X Y i j j * (X 4 - X i) = (X j - X i) * PR X Y i j j := by unfold PR at *; omega
        have q : PR X Y i j j * (X 4 - X j) = PR X Y i j j * (X 4 - X i) - (X j - X i) * PR X Y i j j := by grind
        omega
      have e2' : PR X Y i j j * (Y 4 - Y j) = 0 := by
        have : PR X Y i j j * (Y 4 - Y i) = (Y j - Y i) * PR X Y i j j := by unfold PR at *; omega
        have q : PR X Y i j j * (Y 4 - Y j) = PR X Y i j j * (Y 4 - Y i) - (Y j - Y i) * PR X Y i j j := by grind
        omega
      have f1 := (Int.mul_eq_zero.mp e1').resolve_left hB
      have f2 := (Int.mul_eq_zero.mp e2').resolve_left hB
      refine ⟨by omega, by omega, isV_eq (by omega) (by omega) (fun t _ => ?_) hv⟩
      unfold n2 n1
      rw [z2]
      by_cases a : t = i
      · rw [if_pos a, if_neg (show ¬ t = j by omega)]; omega
      · rw [if_neg a]
        by_cases b : t = j
        · rw [if_pos b, if_pos b]; omega
        · rw [if_neg b, if_neg b]; omega
    · right
      have key := geo_key hA
      have hw : wI X Y i j ≠ 0 := fun q => by
        unfold wI at q
        by_cases dx : X j - X i = 0
        · rw [if_pos dx] at q
          refine hB ?_
          unfold PR
          rw [dx, q]
          rfl
        · rw [if_neg dx] at q
          exact dx q
      obtain ⟨e, he, hp⟩ : ∃ e : Int, (e = 1 ∨ e = -1) ∧ 0 < e * wI X Y i j := by
        rcases Int.lt_or_le (wI X Y i j) 0 with q | q
        · exact ⟨-1, Or.inr rfl, by omega⟩
        · exact ⟨1, Or.inl rfl, by omega⟩
      have key2 : PR X Y i j 4 * (e * wI X Y i j) = (e * aI X Y i j) * PR X Y i j j := by
        rcases he with q | q <;> subst q <;> grind
      have hs := str2 (show 0 < PR X Y i j j by omega) hp key2 (by omega) (by omega)
      refine ⟨e, he, hp, hA, hs.1, hs.2, isV_n2 (by omega) hp ?_ key2 hv⟩
      generalize e * wI X Y i j = w at *
      generalize e * aI X Y i j = a at *
      generalize PR X Y i j 4 = P at *
      generalize PR X Y i j j = N at *
      grind
theorem geo2b {n : Nat} {X Y : Nat → Int} {i j : Nat} {c : Nat → Rat} (h : CR2 n X Y i j c) : CX2 n X Y i j c := by
  obtain ⟨e, he, hp, hA, h0, h1, hv⟩ := h
  have hB : PR X Y i j j ≠ 0 := fun q => by
    obtain ⟨q1, q2⟩ := PR_0 q
    unfold wI at hp
    rw [if_pos q1, q2] at hp
    omega
  have hN := PR_nn X Y i j
  have key2 : PR X Y i j 4 * (e * wI X Y i j) = (e * aI X Y i j) * PR X Y i j j := by
    have key := geo_key hA
    rcases he with q | q <;> subst q <;> grind
  have hr := in_rng (P := PR X Y i j 4) (N := PR X Y i j j) (a := e * aI X Y i j) (D := e * wI X Y i j) (by omega) hp (by rw [Int.mul_comm]; exact key2) (by omega) (by omega)
  refine ⟨hB, hA, hr.1, hr.2, isV_n2 hp (by omega) ?_ key2.symm hv⟩
  generalize e * wI X Y i j = w at *
  generalize e * aI X Y i j = a at *
  generalize PR X Y i j 4 = P at *
  generalize PR X Y i j j = N at *
  grind
/-- a triple one of whose numbers is 0 is a pair -/
theorem geo3 {n : Nat} {X Y : Nat → Int} {i j k : Nat} {c : Nat → Rat} (hij : i < j) (hjk : j < k) (h : CX3 n X Y i j k c) : CX2 n X Y j k c ∨ CX2 n X Y i k c ∨ CX2 n X Y i j c ∨ CR3 n X Y i j k c := by
  obtain ⟨e, he, hD, h1, h2, h3, hv⟩ := h
  have i0 := rI0 X Y i j k
  have i0' : e * AR X Y 4 j k = e * AR X Y i j k - e * AR X Y i 4 k - e * AR X Y i j 4 := by rw [i0, Int.mul_sub, Int.mul_sub]
  have hD0 : AR X Y i j k ≠ 0 := fun q => by rw [q, Int.mul_zero] at hD; omega
  have e0 : e ≠ 0 := by omega
  by_cases z1 : e * AR X Y 4 j k = 0
  · left
    have z1' : AR X Y 4 j k = 0 := (Int.mul_eq_zero.mp z1).resolve_left e0
    have hB : PR X Y j k k ≠ 0 := fun q => by
      obtain ⟨q1, q2⟩ := PR_0 q
      refine hD0 ?_
      unfold AR
      rw [show X k - X i = X j - X i by omega, show Y k - Y i = Y j - Y i by omega]
      omega
    have hN := PR_nn X Y j k
    have key : (e * AR X Y i j k) * PR X Y j k 4 = (e * AR X Y i j 4) * PR X Y j k k := by
      have a1 := rI2 X Y i j k
      have a2 := rI2y X Y i j k
      rw [z1'] at a1 a2
      unfold PR
      generalize AR X Y i j k = D at *
      generalize AR X Y i j 4 = A at *
      generalize X 4 - X j = ux at *
      generalize Y 4 - Y j = uy at *
      generalize X k - X j = vx at *
      generalize Y k - Y j = vy at *
      have b1 : D * ux = A * vx := by omega
      have b2 : D * uy = A * vy := by omega
      grind
    have hr := in_rng (by omega) hD key h3 (by omega)
    refine ⟨hB, by rw [rI3]; exact z1', hr.1, hr.2, isV_eq hD (by omega) (fun t _ => ?_) hv⟩
    unfold n3 n2
    rw [z1]
    by_cases a : t = i
    · rw [if_pos a, if_neg (show ¬ t = j by omega), if_neg (show ¬ t = k by omega)]; omega
    · rw [if_neg a]
      by_cases b : t = j
      · rw [if_pos b, if_pos b]
        have : e * AR X Y i 4 k = e * AR X Y i j k - e * AR X Y i j 4 := by omega
        rw [this]
        grind
      · rw [if_neg b, if_neg b]
        by_cases d : t = k
        · rw [if_pos d, if_pos d]; grind
        · rw [if_neg d, if_neg d]; omega
  · right
    by_cases z2 : e * AR X Y i 4 k = 0
    · left
      have z2' : AR X Y i 4 k = 0 := (Int.mul_eq_zero.mp z2).resolve_left e0
      have hB : PR X Y i k k ≠ 0 := fun q => by
        obtain ⟨q1, q2⟩ := PR_0 q
        refine hD0 ?_
        unfold AR
        rw [q1, q2]
        omega
      have hN := PR_nn X Y i k
      have key : (e * AR X Y i j k) * PR X Y i k 4 = (e * AR X Y i j 4) * PR X Y i k k := by
        have a1 := rI1 X Y i j k
        have a2 := rI1y X Y i j k
        rw [z2'] at a1 a2
        unfold PR
        generalize AR X Y i j k = D at *
        generalize AR X Y i j 4 = A at *
        generalize X 4 - X i = ux at *
        generalize Y 4 - Y i = uy at *
        generalize X k - X i = vx at *
        generalize Y k - Y i = vy at *
        have b1 : D * ux = A * vx := by omega
        have b2 : D * uy = A * vy := by omega
        grind
      have hr := in_rng (by omega) hD key h3 (by omega)
      refine ⟨hB, by rw [rI4, z2']; rfl, hr.1, hr.2, isV_eq hD (by omega) (fun t _ => ?_) hv⟩
      unfold n3 n2
      rw [z2]
      by_cases a : t = i
      · rw [if_pos a, if_pos a]
        have : e * AR X Y 4 j k = e * AR X Y i j k - e * AR X Y i j 4 := by omega
        rw [this]
        grind
      · rw [if_neg a, if_neg a]
        by_cases b : t = j
        · rw [if_pos b, if_neg (show ¬ t = k by omega)]; omega
        · rw [if_neg b]
          by_cases d : t = k
          · rw [if_pos d, if_pos d]; grind
          · rw [if_neg d, if_neg d]; omega
    · right
      by_cases z3 : e * AR X Y i j 4 = 0
      · left
        have z3' : AR X Y i j 4 = 0 := (Int.mul_eq_zero.mp z3).resolve_left e0
        have hB : PR X Y i j j ≠ 0 := fun q => by
          obtain ⟨q1, q2⟩ := PR_0 q
          refine hD0 ?_
          unfold AR
          rw [q1, q2]
          omega
        have hN := PR_nn X Y i j
        have key : (e * AR X Y i j k) * PR X Y i j 4 = (e * AR X Y i 4 k) * PR X Y i j j := by
          have a1 := rI1 X Y i j k
          have a2 := rI1y X Y i j k
          rw [z3'] at a1 a2
          unfold PR
          generalize AR X Y i j k = D at *
          generalize AR X Y i 4 k = A at *
          generalize X 4 - X i = ux at *
          generalize Y 4 - Y i = uy at *
          generalize X j - X i = vx at *
          generalize Y j - Y i = vy at *
          have b1 : D * ux = A * vx := by omega
          have b2 : D * uy = A * vy := by omega
          grind
        have hr := in_rng (by omega) hD key h2 (by omega)
        refine ⟨hB, z3', hr.1, hr.2, isV_eq hD (by omega) (fun t _ => ?_) hv⟩
        unfold n3 n2
        rw [z3]
        by_cases a : t = i
        · rw [if_pos a, if_pos a]
          have : e * AR X Y 4 j k = e * AR X Y i j k - e * AR X Y i 4 k := by omega
          rw [this]
          grind
        · rw [if_neg a, if_neg a]
          by_cases b : t = j
          · rw [if_pos b, if_pos b]; grind
          · rw [if_neg b, if_neg b]
            by_cases d : t = k
            · rw [if_pos d]; omega
            · rw [if_neg d]; omega
      · right
        rw [i0'] at hv
        exact ⟨e, he, hD, by omega, by omega, by omega, hv⟩
theorem geo3b {n : Nat} {X Y : Nat → Int} {i j k : Nat} {c : Nat → Rat} (h : CR3 n X Y i j k c) : CX3 n X Y i j k c := by
  obtain ⟨e, he, hD, h1, h2, h3, hv⟩ := h
  have i0' : e * AR X Y 4 j k = e * AR X Y i j k - e * AR X Y i 4 k - e * AR X Y i j 4 := by rw [rI0 X Y i j k, Int.mul_sub, Int.mul_sub]
  refine ⟨e, he, hD, by omega, by omega, by omega, ?_⟩
  rw [i0']
  exact hv
def SX (n : Nat) (X Y : Nat → Int) (c : Nat → Rat) : Prop := ∃ i, i < n ∧ (CX1 n X Y i c ∨ ∃ j, i < j ∧ j < n ∧ (CX2 n X Y i j c ∨ ∃ k, j < k ∧ k < n ∧ CX3 n X Y i j k c))
def SR (n : Nat) (X Y : Nat → Int) (c : Nat → Rat) : Prop := ∃ i, i < n ∧ (CX1 n X Y i c ∨ ∃ j, i < j ∧ j < n ∧ (CR2 n X Y i j c ∨ ∃ k, j < k ∧ k < n ∧ CR3 n X Y i j k c))
theorem SX_SR (n : Nat) (X Y : Nat → Int) (c : Nat → Rat) : SX n X Y c ↔ SR n X Y c := by
  have p2 : ∀ i j, i < j → j < n → CX2 n X Y i j c → SR n X Y c := fun i j hij hj h => by
    rcases geo2 (by omega) h with q | q | q
    · exact ⟨i, by omega, Or.inl q⟩
    · exact ⟨j, hj, Or.inl q⟩
    · exact ⟨i, by omega, Or.inr ⟨j, hij, hj, Or.inl q⟩⟩
  constructor
  · rintro ⟨i, hi, q | ⟨j, hij, hj, q | ⟨k, hjk, hk, q⟩⟩⟩
    · exact ⟨i, hi, Or.inl q⟩
    · exact p2 i j hij hj q
    · rcases geo3 hij hjk q with r | r | r | r
      · exact p2 j k hjk hk r
      · exact p2 i k (by omega) hk r
      · exact p2 i j hij hj r
      · exact ⟨i, hi, Or.inr ⟨j, hij, hj, Or.inr ⟨k, hjk, hk, r⟩⟩⟩
  · rintro ⟨i, hi, q | ⟨j, hij, hj, q | ⟨k, hjk, hk, q⟩⟩⟩
    · exact ⟨i, hi, Or.inl q⟩
    · exact ⟨i, hi, Or.inr ⟨j, hij, hj, Or.inl (geo2b q)⟩⟩
    · exact ⟨i, hi, Or.inr ⟨j, hij, hj, Or.inr ⟨k, hjk, hk, geo3b q⟩⟩⟩
