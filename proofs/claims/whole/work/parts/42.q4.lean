/-! The reference's steps. -/
def bnd2 (n : Nat) (p : Nat → Int64) (f : Int64) (X : Nat → Int) : Prop := (∀ t, t < n → X t = (p t).toInt ∧ 0 ≤ X t ∧ X t ≤ 10000) ∧ (X 4 = f.toInt ∧ 0 ≤ X 4 ∧ X 4 ≤ 10000)
theorem dp_t {n : Nat} {p : Nat → Int64} {f : Int64} {X : Nat → Int} (h : bnd2 n p f X) {i j : Nat} (hi : i < n) (hj : j < n) : (p j - p i).toInt = X j - X i ∧ (X j - X i).natAbs ≤ 10000 := by
  have a := h.1 i hi
  have b := h.1 j hj
  rw [t_sub (by omega) (by omega)]
  omega
theorem dq_t {n : Nat} {p : Nat → Int64} {f : Int64} {X : Nat → Int} (h : bnd2 n p f X) {i : Nat} (hi : i < n) : (f - p i).toInt = X 4 - X i ∧ (X 4 - X i).natAbs ≤ 10000 := by
  have a := h.1 i hi
  have b := h.2
  rw [t_sub (by omega) (by omega)]
  omega
def eO (a : Int) : Int := if a < 0 then -1 else 1
theorem eO_pm (a : Int) : eO a = 1 ∨ eO a = -1 := by
  unfold eO
  by_cases h : a < 0
  · rw [if_pos h]; exact Or.inr rfl
  · rw [if_neg h]; exact Or.inl rfl
theorem eO_nn (a : Int) : 0 ≤ eO a * a := by
  unfold eO
  by_cases h : a < 0
  · rw [if_pos h]; omega
  · rw [if_neg h]; omega
theorem eO_bd (a b : Int) : (eO a * b).natAbs = b.natAbs := by
  rcases eO_pm a with q | q <;> rw [q] <;> omega
theorem t_neg {a : Int64} (h : a.toInt.natAbs ≤ 200000000) : (-a).toInt = -a.toInt := by
  rw [Int64.toInt_neg, Int.bmod_eq_of_le] <;> omega
theorem ng_t {w z : Int64} {a b : Int} (hw : w.toInt = a) (hz : z.toInt = b ∧ b.natAbs ≤ 200000000) : (ngF w z).toInt = eO a * b := by
  unfold ngF eO
  have e0 : (0 : Int64).toInt = 0 := rfl
  by_cases h : w < 0
  · rw [if_pos h]
    rw [Int64.lt_iff_toInt_lt, hw, e0] at h
    rw [if_pos h, t_neg (by rw [hz.1]; exact hz.2), hz.1]
    omega
  · rw [if_neg h]
    rw [Int64.lt_iff_toInt_lt, hw, e0] at h
    rw [if_neg h, hz.1]
    omega
theorem z_iff {x : Int64} {a : Int} (h : x.toInt = a) : x = 0 ↔ a = 0 := by
  rw [← Int64.toInt_inj, h]
  exact Iff.rfl
theorem le0_iff {x : Int64} {a : Int} (h : x.toInt = a) : x ≤ 0 ↔ a ≤ 0 := by
  rw [Int64.le_iff_toInt_le, h]
  exact Iff.rfl
theorem le_iff2 {x y : Int64} {a b : Int} (h : x.toInt = a) (h2 : y.toInt = b) : x ≤ y ↔ a ≤ b := by
  rw [Int64.le_iff_toInt_le, h, h2]
theorem e_of {a e : Int} (he : e = 1 ∨ e = -1) (h : 0 < e * a) : e = eO a := by
  unfold eO
  rcases he with q | q <;> subst q
  · rw [if_neg (by omega)]
  · rw [if_pos (by omega)]
theorem cr_t {a b x y : Int64} {p q r s : Int} (ha : a.toInt = p ∧ p.natAbs ≤ 10000) (hb : b.toInt = q ∧ q.natAbs ≤ 10000) (hx : x.toInt = r ∧ r.natAbs ≤ 10000) (hy : y.toInt = s ∧ s.natAbs ≤ 10000) : (a * b - x * y).toInt = p * q - s * r ∧ (p * q - s * r).natAbs ≤ 200000000 := by
  have m1 := mm_t ha hb
  have m2 := mm_t hx hy
  rw [Int.mul_comm s r, t_sub (by omega) (by omega)]
  omega
theorem n3_rot {i j k t : Nat} {a b d : Int} (hij : i ≠ j) (hjk : j ≠ k) (hik : i ≠ k) : n3 j k i b d a t = n3 i j k a b d t := by
  unfold n3
  by_cases e : t = i
  · rw [if_pos e, if_neg (by omega), if_neg (by omega), if_pos e]
  · rw [if_neg e, if_neg e]
section MX
variable {n : Nat} {px py : Nat → Int64} {f g : Int64} {X Y : Nat → Int} {S : (Nat → Rat) → Prop} {v : ModS} {i j k : Nat}
theorem m1_rep (hn : n ≤ 4) (hX : bnd2 n px f X) (hY : bnd2 n py g Y) (hi : i < n) (h : RepN n v S) : RepN n (m1F px py f g n i v) (fun c => S c ∨ CX1 n X Y i c) := by
  have x1 := hX.1 i hi
  have y1 := hY.1 i hi
  unfold m1F
  by_cases hc : px i = f ∧ py i = g
  · rw [if_pos hc]
    refine rep_iff (tk_rep2 (v := msF (mzF v) i 1) (N := n1 i 1) (D := 1) h (fun t ht => tr_1 (a := 1) (by omega)) rfl (by omega) (fun t _ => n1_rng t)) (fun c => ?_)
    have e1 : X i = X 4 := by rw [x1.1, hX.2.1, hc.1]
    have e2 : Y i = Y 4 := by rw [y1.1, hY.2.1, hc.2]
    exact ⟨fun q => q.elim Or.inl (fun z => Or.inr ⟨e1, e2, z⟩), fun q => q.elim Or.inl (fun z => Or.inr z.2.2)⟩
  · rw [if_neg hc]
    refine rep_iff h (fun c => ⟨Or.inl, fun q => q.elim id (fun z => absurd ⟨Int64.toInt_inj.mp ?_, Int64.toInt_inj.mp ?_⟩ hc)⟩)
    · rw [← x1.1, ← hX.2.1]; exact z.1
    · rw [← y1.1, ← hY.2.1]; exact z.2.1
theorem m2_rep (hn : n ≤ 4) (hX : bnd2 n px f X) (hY : bnd2 n py g Y) (hij : i < j) (hj : j < n) (h : RepN n v S) : RepN n (m2F px py f g n i j v) (fun c => S c ∨ CR2 n X Y i j c) := by
  have hi : i < n := by omega
  have dx := dp_t hX hi hj
  have dy := dp_t hY hi hj
  have ux := dq_t hX hi
  have uy := dq_t hY hi
  have hw : (wdF (px j - px i) (py j - py i)).toInt = wI X Y i j ∧ (wI X Y i j).natAbs ≤ 200000000 := by
    unfold wdF wI
    by_cases q : px j - px i = 0
    · rw [if_pos q, if_pos ((z_iff dx.1).mp q)]; exact ⟨dy.1, by omega⟩
    · rw [if_neg q, if_neg (fun z => q ((z_iff dx.1).mpr z))]; exact ⟨dx.1, by omega⟩
  have ha : (alF (px j - px i) (f - px i) (g - py i)).toInt = aI X Y i j ∧ (aI X Y i j).natAbs ≤ 200000000 := by
    unfold alF aI
    by_cases q : px j - px i = 0
    · rw [if_pos q, if_pos ((z_iff dx.1).mp q)]; exact ⟨uy.1, by omega⟩
    · rw [if_neg q, if_neg (fun z => q ((z_iff dx.1).mpr z))]; exact ⟨ux.1, by omega⟩
  have eW : (b2W px py i j).toInt = eO (wI X Y i j) * wI X Y i j := ng_t hw.1 hw
  have eA : (b2A px py f g i j).toInt = eO (wI X Y i j) * aI X Y i j := ng_t hw.1 ha
  have cr := cr_t dx uy dy ux
  have eC : ((px j - px i) * (g - py i) - (py j - py i) * (f - px i)).toInt = AR X Y i j 4 := cr.1
  have bW := eO_bd (wI X Y i j) (wI X Y i j)
  have bA := eO_bd (wI X Y i j) (aI X Y i j)
  have hpm := eO_pm (wI X Y i j)
  have cc : (b2W px py i j = 0 ∨ ¬ (px j - px i) * (g - py i) - (py j - py i) * (f - px i) = 0 ∨ b2A px py f g i j ≤ 0 ∨ b2W px py i j ≤ b2A px py f g i j) ↔ (eO (wI X Y i j) * wI X Y i j = 0 ∨ ¬ AR X Y i j 4 = 0 ∨ eO (wI X Y i j) * aI X Y i j ≤ 0 ∨ eO (wI X Y i j) * wI X Y i j ≤ eO (wI X Y i j) * aI X Y i j) := by
    rw [z_iff eW, z_iff eC, le0_iff eA, le_iff2 eW eA]
  unfold m2F
  by_cases hc : b2W px py i j = 0 ∨ ¬ (px j - px i) * (g - py i) - (py j - py i) * (f - px i) = 0 ∨ b2A px py f g i j ≤ 0 ∨ b2W px py i j ≤ b2A px py f g i j
  · rw [if_pos hc]
    rw [cc] at hc
    refine rep_iff h (fun c => ⟨Or.inl, fun q => q.elim id (fun z => ?_)⟩)
    obtain ⟨e, he, z1, z2, z3, z4, -⟩ := z
    have ee := e_of he z1
    rw [ee] at z1 z3 z4
    rcases hc with r | r | r | r
    · omega
    · exact absurd z2 r
    · omega
    · omega
  · rw [if_neg hc]
    rw [cc] at hc
    have p1 := eO_nn (wI X Y i j)
    have h1 : 0 < eO (wI X Y i j) * wI X Y i j := by
      rcases Int.lt_or_le 0 (eO (wI X Y i j) * wI X Y i j) with q | q
      · exact q
      · exact absurd (Or.inl (by omega)) hc
    have h2 : AR X Y i j 4 = 0 := Decidable.not_not.mp (fun q => hc (Or.inr (Or.inl q)))
    have h3 : 0 < eO (wI X Y i j) * aI X Y i j := Int.not_le.mp (fun q => hc (Or.inr (Or.inr (Or.inl q))))
    have h4 : eO (wI X Y i j) * aI X Y i j < eO (wI X Y i j) * wI X Y i j := Int.not_le.mp (fun q => hc (Or.inr (Or.inr (Or.inr q))))
    have eQ : (b2W px py i j - b2A px py f g i j).toInt = eO (wI X Y i j) * wI X Y i j - eO (wI X Y i j) * aI X Y i j := by
      rw [t_sub (by omega) (by omega), eW, eA]
    refine rep_iff (tk_rep2 (v := msF (msF (mzF v) j (b2A px py f g i j)) i (b2W px py i j - b2A px py f g i j)) (N := n2 i j (eO (wI X Y i j) * wI X Y i j - eO (wI X Y i j) * aI X Y i j) (eO (wI X Y i j) * aI X Y i j)) (D := eO (wI X Y i j) * wI X Y i j) h (fun t ht => by rw [← eQ, ← eA]; exact tr_2 (by omega)) eW (by omega) (fun t ht => ⟨(n2_pos hi hj (by omega)).mpr ⟨by omega, by omega⟩ t ht, n2_le (by omega) (by omega) (by omega) t⟩)) (fun c => ?_)
    constructor
    · exact fun q => q.elim Or.inl (fun z => Or.inr ⟨eO (wI X Y i j), hpm, h1, h2, h3, h4, z⟩)
    · rintro (q | ⟨e, he, z1, z2, z3, z4, z5⟩)
      · exact Or.inl q
      · have ee := e_of he z1
        subst ee
        exact Or.inr z5
theorem m3_rep (hn : n ≤ 4) (hX : bnd2 n px f X) (hY : bnd2 n py g Y) (hij : i < j) (hjk : j < k) (hk : k < n) (h : RepN n v S) : RepN n (m3F px py f g n i j k v) (fun c => S c ∨ CR3 n X Y i j k c) := by
  have hi : i < n := by omega
  have hj : j < n := by omega
  have dx := dp_t hX hi hj
  have dy := dp_t hY hi hj
  have vx := dp_t hX hi hk
  have vy := dp_t hY hi hk
  have ux := dq_t hX hi
  have uy := dq_t hY hi
  have cD : (b3D px py i j k).toInt = AR X Y i j k ∧ (AR X Y i j k).natAbs ≤ 200000000 := cr_t dx vy dy vx
  have cO : (b3O px py f g i k).toInt = AR X Y i 4 k ∧ (AR X Y i 4 k).natAbs ≤ 200000000 := cr_t ux vy uy vx
  have cT : (b3T px py f g i j).toInt = AR X Y i j 4 ∧ (AR X Y i j 4).natAbs ≤ 200000000 := cr_t dx uy dy ux
  have eD := ng_t cD.1 cD
  have eR := ng_t cD.1 cO
  have eT := ng_t cD.1 cT
  have bD := eO_bd (AR X Y i j k) (AR X Y i j k)
  have bR := eO_bd (AR X Y i j k) (AR X Y i 4 k)
  have bT := eO_bd (AR X Y i j k) (AR X Y i j 4)
  have hpm := eO_pm (AR X Y i j k)
  have hnn := eO_nn (AR X Y i j k)
  have eS : (ngF (b3D px py i j k) (b3O px py f g i k) + ngF (b3D px py i j k) (b3T px py f g i j)).toInt = eO (AR X Y i j k) * AR X Y i 4 k + eO (AR X Y i j k) * AR X Y i j 4 := by
    rw [t_add (by omega) (by omega), eR, eT]
  unfold m3F
  generalize ngF (b3D px py i j k) (b3D px py i j k) = D at *
  generalize ngF (b3D px py i j k) (b3O px py f g i k) = O at *
  generalize ngF (b3D px py i j k) (b3T px py f g i j) = T at *
  have cc : (D = 0 ∨ O ≤ 0 ∨ T ≤ 0 ∨ D ≤ O + T) ↔ (eO (AR X Y i j k) * AR X Y i j k = 0 ∨ eO (AR X Y i j k) * AR X Y i 4 k ≤ 0 ∨ eO (AR X Y i j k) * AR X Y i j 4 ≤ 0 ∨ eO (AR X Y i j k) * AR X Y i j k ≤ eO (AR X Y i j k) * AR X Y i 4 k + eO (AR X Y i j k) * AR X Y i j 4) := by
    rw [z_iff eD, le0_iff eR, le0_iff eT, le_iff2 eD eS]
  by_cases hc : D = 0 ∨ O ≤ 0 ∨ T ≤ 0 ∨ D ≤ O + T
  · rw [if_pos hc]
    rw [cc] at hc
    refine rep_iff h (fun c => ⟨Or.inl, fun q => q.elim id (fun z => ?_)⟩)
    obtain ⟨e, he, z1, z2, z3, z4, -⟩ := z
    have ee := e_of he z1
    rw [ee] at z1 z2 z3 z4
    omega
  · rw [if_neg hc]
    rw [cc] at hc
    have h1 : 0 < eO (AR X Y i j k) * AR X Y i j k := by omega
    have h2 : 0 < eO (AR X Y i j k) * AR X Y i 4 k := by omega
    have h3 : 0 < eO (AR X Y i j k) * AR X Y i j 4 := by omega
    have h4 : eO (AR X Y i j k) * AR X Y i 4 k + eO (AR X Y i j k) * AR X Y i j 4 < eO (AR X Y i j k) * AR X Y i j k := by omega
    have eQ0 : (D - O).toInt = eO (AR X Y i j k) * AR X Y i j k - eO (AR X Y i j k) * AR X Y i 4 k := by
      rw [t_sub (by omega) (by omega), eD, eR]
    have eQ : (D - O - T).toInt = eO (AR X Y i j k) * AR X Y i j k - eO (AR X Y i j k) * AR X Y i 4 k - eO (AR X Y i j k) * AR X Y i j 4 := by
      rw [t_sub (by omega) (by omega), eQ0, eT]
    refine rep_iff (tk_rep2 (v := msF (msF (msF (mzF v) j O) k T) i (D - O - T)) (N := n3 i j k (eO (AR X Y i j k) * AR X Y i j k - eO (AR X Y i j k) * AR X Y i 4 k - eO (AR X Y i j k) * AR X Y i j 4) (eO (AR X Y i j k) * AR X Y i 4 k) (eO (AR X Y i j k) * AR X Y i j 4)) (D := eO (AR X Y i j k) * AR X Y i j k) h (fun t ht => by rw [← eQ, ← eR, ← eT, ← n3_rot (by omega) (by omega) (by omega)]; exact tr_3 (by omega) (by omega) (by omega) (by omega)) eD (by omega) (fun t ht => ⟨(n3_pos hi hj hk (by omega) (by omega) (by omega)).mpr ⟨by omega, by omega, by omega⟩ t ht, n3_le (by omega) (by omega) (by omega) (by omega) t⟩)) (fun c => ?_)
    constructor
    · exact fun q => q.elim Or.inl (fun z => Or.inr ⟨eO (AR X Y i j k), hpm, h1, h2, h3, h4, z⟩)
    · rintro (q | ⟨e, he, z1, z2, z3, z4, z5⟩)
      · exact Or.inl q
      · have ee := e_of he z1
        subst ee
        exact Or.inr z5
theorem r3_rep (hn : n ≤ 4) (hX : bnd2 n px f X) (hY : bnd2 n py g Y) (hij : i < j) : ∀ (d k : Nat) (v : ModS) (S : (Nat → Rat) → Prop), j < k → k + d = n → RepN n v S → RepN n (r3F px py f g n i j d k v) (fun c => S c ∨ ∃ k', k ≤ k' ∧ k' < n ∧ CR3 n X Y i j k' c)
  | 0, k, v, S, hk, hd, h => rep_iff h (fun c => ⟨Or.inl, fun q => q.elim id (fun ⟨k', h1, h2, _⟩ => by omega)⟩)
  | d + 1, k, v, S, hk, hd, h => by
    refine rep_iff (r3_rep hn hX hY hij d (k + 1) _ _ (by omega) (by omega) (m3_rep hn hX hY hij hk (by omega) h)) (fun c => ?_)
    constructor
    · rintro ((q | q) | ⟨k', h1, h2, q⟩)
      · exact Or.inl q
      · exact Or.inr ⟨k, Nat.le_refl k, by omega, q⟩
      · exact Or.inr ⟨k', by omega, h2, q⟩
    · rintro (q | ⟨k', h1, h2, q⟩)
      · exact Or.inl (Or.inl q)
      · by_cases e : k' = k
        · subst e; exact Or.inl (Or.inr q)
        · exact Or.inr ⟨k', by omega, h2, q⟩
theorem r2_rep (hn : n ≤ 4) (hX : bnd2 n px f X) (hY : bnd2 n py g Y) : ∀ (d j : Nat) (v : ModS) (S : (Nat → Rat) → Prop), i < j → j + d = n → RepN n v S → RepN n (r2F px py f g n i d j v) (fun c => S c ∨ ∃ j', j ≤ j' ∧ j' < n ∧ (CR2 n X Y i j' c ∨ ∃ k, j' < k ∧ k < n ∧ CR3 n X Y i j' k c))
  | 0, j, v, S, hj, hd, h => rep_iff h (fun c => ⟨Or.inl, fun q => q.elim id (fun ⟨j', h1, h2, _⟩ => by omega)⟩)
  | d + 1, j, v, S, hj, hd, h => by
    refine rep_iff (r2_rep hn hX hY d (j + 1) _ _ (by omega) (by omega) (r3_rep hn hX hY hj (n - (j + 1)) (j + 1) _ _ (by omega) (by omega) (m2_rep hn hX hY hj (by omega) h))) (fun c => ?_)
    constructor
    · rintro (((q | q) | ⟨k', h1, h2, q⟩) | ⟨j', h1, h2, q⟩)
      · exact Or.inl q
      · exact Or.inr ⟨j, Nat.le_refl j, by omega, Or.inl q⟩
      · exact Or.inr ⟨j, Nat.le_refl j, by omega, Or.inr ⟨k', by omega, h2, q⟩⟩
      · exact Or.inr ⟨j', by omega, h2, q⟩
    · rintro (q | ⟨j', h1, h2, q⟩)
      · exact Or.inl (Or.inl (Or.inl q))
      · by_cases e : j' = j
        · subst e
          rcases q with q | ⟨k, h3, h4, q⟩
          · exact Or.inl (Or.inl (Or.inr q))
          · exact Or.inl (Or.inr ⟨k, by omega, h4, q⟩)
        · exact Or.inr ⟨j', by omega, h2, q⟩
theorem r1_rep (hn : n ≤ 4) (hX : bnd2 n px f X) (hY : bnd2 n py g Y) : ∀ (d i : Nat) (v : ModS) (S : (Nat → Rat) → Prop), i + d = n → RepN n v S → RepN n (r1F px py f g n d i v) (fun c => S c ∨ ∃ i', i ≤ i' ∧ i' < n ∧ (CX1 n X Y i' c ∨ ∃ j, i' < j ∧ j < n ∧ (CR2 n X Y i' j c ∨ ∃ k, j < k ∧ k < n ∧ CR3 n X Y i' j k c)))
  | 0, i, v, S, hd, h => rep_iff h (fun c => ⟨Or.inl, fun q => q.elim id (fun ⟨i', h1, h2, _⟩ => by omega)⟩)
  | d + 1, i, v, S, hd, h => by
    refine rep_iff (r1_rep hn hX hY d (i + 1) _ _ (by omega) (r2_rep hn hX hY (n - (i + 1)) (i + 1) _ _ (by omega) (by omega) (m1_rep hn hX hY (by omega) h))) (fun c => ?_)
    constructor
    · rintro (((q | q) | ⟨j', h1, h2, q⟩) | ⟨i', h1, h2, q⟩)
      · exact Or.inl q
      · exact Or.inr ⟨i, Nat.le_refl i, by omega, Or.inl q⟩
      · exact Or.inr ⟨i, Nat.le_refl i, by omega, Or.inr ⟨j', by omega, h2, q⟩⟩
      · exact Or.inr ⟨i', by omega, h2, q⟩
    · rintro (q | ⟨i', h1, h2, q⟩)
      · exact Or.inl (Or.inl (Or.inl q))
      · by_cases e : i' = i
        · subst e
          rcases q with q | ⟨j, h3, h4, q⟩
          · exact Or.inl (Or.inl (Or.inr q))
          · exact Or.inl (Or.inr ⟨j, by omega, h4, q⟩)
        · exact Or.inr ⟨i', by omega, h2, q⟩
end MX
