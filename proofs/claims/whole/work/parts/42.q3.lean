/-! The steps of both searches offer these points. -/
theorem keep_rep2 {n : Nat} {u : MixS} {S : (Nat → Rat) → Prop} {N : Nat → Int} {D : Int} (hn : n ≤ 4) (h : RepM n u S) (hN : ∀ t, t < n → (u.1 t).toInt = N t) (hD : u.2.1.toInt = D) (hd : 0 < D ∧ D ≤ 200000000) (hub : (∀ t, t < n → 0 ≤ N t) → ∀ t, t < n → N t ≤ 200000000) : RepM n (keepF n u) (fun c => S c ∨ ((∀ t, t < n → 0 ≤ N t) ∧ isV n N D c)) := by
  refine rep_iff (keep_rep hn h (by rw [hD]; exact hd) (fun q t ht => by rw [hN t ht]; exact hub (fun r hr => by rw [← hN r hr]; exact q r hr) t ht)) (fun c => ?_)
  have e1 : (∀ t, t < n → 0 ≤ (u.1 t).toInt) ↔ (∀ t, t < n → 0 ≤ N t) := ⟨fun q t ht => by rw [← hN t ht]; exact q t ht, fun q t ht => by rw [hN t ht]; exact q t ht⟩
  have e2 : (∀ t, t < n → c t = vecT u.1 u.2.1 t) ↔ isV n N D c := by
    unfold isV vecT
    exact ⟨fun q t ht => by rw [q t ht, hN t ht, hD], fun q t ht => by rw [q t ht, hN t ht, hD]⟩
  rw [e1, e2]
theorem tk_rep2 {n : Nat} {v : ModS} {S : (Nat → Rat) → Prop} {b : Int64} {N : Nat → Int} {D : Int} (h : RepN n v S) (hN : ∀ t, t < n → (v.1 t).toInt = N t) (hD : b.toInt = D) (hd : 0 < D ∧ D ≤ 200000000) (hb : ∀ t, t < n → 0 ≤ N t ∧ N t ≤ 200000000) : RepN n (tkF n b v) (fun c => S c ∨ isV n N D c) := by
  refine rep_iff (tk_rep h ⟨by rw [hD]; exact hd, fun t ht => by rw [hN t ht]; exact hb t ht⟩) (fun c => ?_)
  have e2 : (∀ t, t < n → c t = vecT v.1 b t) ↔ isV n N D c := by
    unfold isV vecT
    exact ⟨fun q t ht => by rw [q t ht, hN t ht, hD], fun q t ht => by rw [q t ht, hN t ht, hD]⟩
  rw [e2]
def bnd (n : Nat) (M : Nat → Int64) (X : Nat → Int) : Prop := ∀ t, t < n ∨ t = 4 → X t = (M t).toInt ∧ 0 ≤ X t ∧ X t ≤ 10000
theorem df_t {n : Nat} {M : Nat → Int64} {X : Nat → Int} (h : bnd n M X) {i j : Nat} (hi : i < n ∨ i = 4) (hj : j < n ∨ j = 4) : (M j - M i).toInt = X j - X i ∧ (X j - X i).natAbs ≤ 10000 := by
  have a := h i hi
  have b := h j hj
  rw [t_sub (by omega) (by omega)]
  omega
theorem mm_t {a b : Int64} {x y : Int} (ha : a.toInt = x ∧ x.natAbs ≤ 10000) (hb : b.toInt = y ∧ y.natAbs ≤ 10000) : (a * b).toInt = x * y ∧ (x * y).natAbs ≤ 100000000 := by
  have bd := mul_bd ha.2 hb.2
  rw [← ha.1, ← hb.1] at *
  rw [t_mul (by omega) (by omega)]
  exact ⟨rfl, by omega⟩
theorem pr_t {n : Nat} {MF MS : Nat → Int64} {X Y : Nat → Int} (hX : bnd n MF X) (hY : bnd n MS Y) {i j k : Nat} (hi : i < n ∨ i = 4) (hj : j < n ∨ j = 4) (hk : k < n ∨ k = 4) : (prodF MF MS i j k).toInt = PR X Y i j k ∧ (PR X Y i j k).natAbs ≤ 200000000 := by
  unfold prodF PR
  have m1 := mm_t (df_t hX hi hj) (df_t hX hi hk)
  have m2 := mm_t (df_t hY hi hj) (df_t hY hi hk)
  rw [t_add (by omega) (by omega)]
  omega
theorem ar_t {n : Nat} {MF MS : Nat → Int64} {X Y : Nat → Int} (hX : bnd n MF X) (hY : bnd n MS Y) {i j k : Nat} (hi : i < n ∨ i = 4) (hj : j < n ∨ j = 4) (hk : k < n ∨ k = 4) : (areaF MF MS i j k).toInt = AR X Y i j k ∧ (AR X Y i j k).natAbs ≤ 200000000 := by
  unfold areaF AR
  have m1 := mm_t (df_t hX hi hj) (df_t hY hi hk)
  have m2 := mm_t (df_t hX hi hk) (df_t hY hi hj)
  rw [t_sub (by omega) (by omega)]
  omega
theorem zer_in {t : Nat} {f : Nat → Int64} (h : t < 4) : zer 4 f t = 0 := if_pos h
theorem tr_1 {z : Nat → Int64} {i t : Nat} {a : Int64} (h : t < 4) : (vp_updL (zer 4 z) i a t).toInt = n1 i a.toInt t := by
  unfold n1
  by_cases e : t = i
  · rw [if_pos e, e, updL_s]
  · rw [if_neg e, updL_n e, zer_in h]; rfl
theorem tr_2 {z : Nat → Int64} {i j t : Nat} {a b : Int64} (h : t < 4) : (vp_updL (vp_updL (zer 4 z) j b) i a t).toInt = n2 i j a.toInt b.toInt t := by
  unfold n2
  by_cases e : t = i
  · rw [if_pos e, e, updL_s]
  · rw [if_neg e, updL_n e, tr_1 h]; rfl
theorem tr_3 {z : Nat → Int64} {i j k t : Nat} {a b d : Int64} (hij : i ≠ j) (hjk : j ≠ k) (hik : i ≠ k) (h : t < 4) : (vp_updL (vp_updL (vp_updL (zer 4 z) i a) j b) k d t).toInt = n3 i j k a.toInt b.toInt d.toInt t := by
  unfold n3
  by_cases e : t = k
  · rw [if_neg (by omega), if_neg (by omega), if_pos e, e, updL_s]
  · rw [updL_n e, if_neg e]
    by_cases e2 : t = j
    · rw [if_neg (by omega), if_pos e2, e2, updL_s]
    · rw [if_neg e2, updL_n e2, tr_1 h]; rfl
theorem n2_pos {n i j : Nat} {a b : Int} (hi : i < n) (hj : j < n) (hij : i ≠ j) : (∀ t, t < n → 0 ≤ n2 i j a b t) ↔ 0 ≤ a ∧ 0 ≤ b := by
  unfold n2
  constructor
  · intro h
    have h1 := h i hi
    have h2 := h j hj
    rw [if_pos rfl] at h1
    rw [if_neg (by omega), if_pos rfl] at h2
    exact ⟨h1, h2⟩
  · rintro ⟨h1, h2⟩ t _
    by_cases e : t = i
    · rw [if_pos e]; exact h1
    · rw [if_neg e]
      by_cases e2 : t = j
      · rw [if_pos e2]; exact h2
      · rw [if_neg e2]; exact Int.le_refl 0
theorem n2_le {i j : Nat} {a b M : Int} (h1 : a ≤ M) (h2 : b ≤ M) (h3 : 0 ≤ M) (t : Nat) : n2 i j a b t ≤ M := by
  unfold n2
  by_cases e : t = i
  · rw [if_pos e]; exact h1
  · rw [if_neg e]
    by_cases e2 : t = j
    · rw [if_pos e2]; exact h2
    · rw [if_neg e2]; exact h3
theorem n3_pos {n i j k : Nat} {a b d : Int} (hi : i < n) (hj : j < n) (hk : k < n) (hij : i ≠ j) (hjk : j ≠ k) (hik : i ≠ k) : (∀ t, t < n → 0 ≤ n3 i j k a b d t) ↔ 0 ≤ a ∧ 0 ≤ b ∧ 0 ≤ d := by
  unfold n3
  constructor
  · intro h
    have h1 := h i hi
    have h2 := h j hj
    have h3 := h k hk
    rw [if_pos rfl] at h1
    rw [if_neg (by omega), if_pos rfl] at h2
    rw [if_neg (by omega), if_neg (by omega), if_pos rfl] at h3
    exact ⟨h1, h2, h3⟩
  · rintro ⟨h1, h2, h3⟩ t _
    by_cases e : t = i
    · rw [if_pos e]; exact h1
    · rw [if_neg e]
      by_cases e2 : t = j
      · rw [if_pos e2]; exact h2
      · rw [if_neg e2]
        by_cases e3 : t = k
        · rw [if_pos e3]; exact h3
        · rw [if_neg e3]; exact Int.le_refl 0
theorem n3_le {i j k : Nat} {a b d M : Int} (h1 : a ≤ M) (h2 : b ≤ M) (h3 : d ≤ M) (h4 : 0 ≤ M) (t : Nat) : n3 i j k a b d t ≤ M := by
  unfold n3
  by_cases e : t = i
  · rw [if_pos e]; exact h1
  · rw [if_neg e]
    by_cases e2 : t = j
    · rw [if_pos e2]; exact h2
    · rw [if_neg e2]
      by_cases e3 : t = k
      · rw [if_pos e3]; exact h3
      · rw [if_neg e3]; exact h4
theorem n1_rng {i : Nat} (t : Nat) : 0 ≤ n1 i 1 t ∧ n1 i 1 t ≤ 200000000 := by
  unfold n1
  by_cases e : t = i
  · rw [if_pos e]; omega
  · rw [if_neg e]; omega
section TX
variable {n : Nat} {MF MS : Nat → Int64} {X Y : Nat → Int} {S : (Nat → Rat) → Prop} {u : MixS} {i j k : Nat}
theorem t1_rep (hn : n ≤ 4) (hX : bnd n MF X) (hY : bnd n MS Y) (hi : i < n) (h : RepM n u S) : RepM n (t1F MF MS n i u) (fun c => S c ∨ CX1 n X Y i c) := by
  have x1 := hX i (Or.inl hi)
  have x2 := hX 4 (Or.inr rfl)
  have y1 := hY i (Or.inl hi)
  have y2 := hY 4 (Or.inr rfl)
  unfold t1F
  by_cases hc : MF i = MF 4 ∧ MS i = MS 4
  · rw [if_pos hc]
    refine rep_iff (keep_rep2 (u := st1 (stF u 1) i 1) (N := n1 i 1) (D := 1) hn h (fun t ht => tr_1 (a := 1) (by omega)) rfl (by omega) (fun _ t _ => (n1_rng t).2)) (fun c => ?_)
    have e1 : X i = X 4 := by rw [x1.1, x2.1, hc.1]
    have e2 : Y i = Y 4 := by rw [y1.1, y2.1, hc.2]
    exact ⟨fun q => q.elim Or.inl (fun z => Or.inr ⟨e1, e2, z.2⟩), fun q => q.elim Or.inl (fun z => Or.inr ⟨fun t _ => (n1_rng t).1, z.2.2⟩)⟩
  · rw [if_neg hc]
    refine rep_iff h (fun c => ⟨Or.inl, fun q => q.elim id (fun z => absurd ⟨Int64.toInt_inj.mp ?_, Int64.toInt_inj.mp ?_⟩ hc)⟩)
    · rw [← x1.1, ← x2.1]; exact z.1
    · rw [← y1.1, ← y2.1]; exact z.2.1
theorem t2_rep (hn : n ≤ 4) (hX : bnd n MF X) (hY : bnd n MS Y) (hij : i < j) (hj : j < n) (h : RepM n u S) : RepM n (t2F MF MS n i j u) (fun c => S c ∨ CX2 n X Y i j c) := by
  have hi : i < n := by omega
  have b1 := pr_t hX hY (i := i) (j := j) (k := j) (Or.inl hi) (Or.inl hj) (Or.inl hj)
  have b2 := pr_t hX hY (i := i) (j := j) (k := 4) (Or.inl hi) (Or.inl hj) (Or.inr rfl)
  have b3 := ar_t hX hY (i := i) (j := j) (k := 4) (Or.inl hi) (Or.inl hj) (Or.inr rfl)
  have hN := PR_nn X Y i j
  have e0 : (0 : Int64).toInt = 0 := rfl
  have z1 : prodF MF MS i j j = 0 ↔ PR X Y i j j = 0 := by rw [← Int64.toInt_inj, b1.1, e0]
  have z3 : areaF MF MS i j 4 = 0 ↔ AR X Y i j 4 = 0 := by rw [← Int64.toInt_inj, b3.1, e0]
  unfold t2F
  by_cases hc : prodF MF MS i j j = 0 ∨ ¬ areaF MF MS i j 4 = 0
  · rw [if_pos hc]
    rw [z1, z3] at hc
    refine rep_iff h (fun c => ⟨Or.inl, fun q => q.elim id (fun z => ?_)⟩)
    rcases hc with r | r
    · exact absurd r z.1
    · exact absurd z.2.1 r
  · rw [if_neg hc]
    rw [z1, z3] at hc
    have hB : PR X Y i j j ≠ 0 := fun r => hc (Or.inl r)
    have hA : AR X Y i j 4 = 0 := Decidable.not_not.mp (fun r => hc (Or.inr r))
    have es : (st1 (stF u (prodF MF MS i j j)) j (prodF MF MS i j 4)).1 j = prodF MF MS i j 4 := updL_s
    rw [es]
    have eQ : (prodF MF MS i j j - prodF MF MS i j 4).toInt = PR X Y i j j - PR X Y i j 4 := by
      rw [t_sub (by omega) (by omega), b1.1, b2.1]
    refine rep_iff (keep_rep2 (u := st1 (st1 (stF u (prodF MF MS i j j)) j (prodF MF MS i j 4)) i (prodF MF MS i j j - prodF MF MS i j 4)) (N := n2 i j (PR X Y i j j - PR X Y i j 4) (PR X Y i j 4)) (D := PR X Y i j j) hn h (fun t ht => by rw [← eQ, ← b2.1]; exact tr_2 (by omega)) b1.1 (by omega) (fun q t _ => ?_)) (fun c => ?_)
    · have q2 := (n2_pos hi hj (by omega)).mp q
      exact n2_le (by omega) (by omega) (by omega) t
    · rw [n2_pos hi hj (by omega)]
      exact ⟨fun q => q.elim Or.inl (fun z => Or.inr ⟨hB, hA, z.1.2, by omega, z.2⟩), fun q => q.elim Or.inl (fun z => Or.inr ⟨⟨by have := z.2.2.2.1; omega, z.2.2.1⟩, z.2.2.2.2⟩)⟩
theorem sg_t {x : Int64} {a : Int} (h : x.toInt = a) (h0 : a ≠ 0) : ∃ e : Int, (e = 1 ∨ e = -1) ∧ (sgF x).toInt = e ∧ 0 < e * a := by
  unfold sgF
  have e0 : (0 : Int64).toInt = 0 := rfl
  by_cases q : x < 0
  · rw [if_pos q]
    rw [Int64.lt_iff_toInt_lt, h, e0] at q
    exact ⟨-1, Or.inr rfl, rfl, by omega⟩
  · rw [if_neg q]
    rw [Int64.lt_iff_toInt_lt, h, e0] at q
    exact ⟨1, Or.inl rfl, rfl, by omega⟩
theorem sg_m {s x : Int64} {e a : Int} (hs : s.toInt = e) (he : e = 1 ∨ e = -1) (hx : x.toInt = a ∧ a.natAbs ≤ 200000000) : (s * x).toInt = e * a ∧ (e * a).natAbs ≤ 200000000 := by
  have : (e * a).natAbs ≤ 200000000 := by rcases he with q | q <;> subst q <;> omega
  rw [t_mul (by rw [hs, hx.1]; omega) (by rw [hs, hx.1]; omega), hs, hx.1]
  exact ⟨rfl, this⟩
theorem e_uniq {e e' a : Int} (he : e = 1 ∨ e = -1) (he' : e' = 1 ∨ e' = -1) (h : 0 < e * a) (h' : 0 < e' * a) : e = e' := by
  rcases he with q | q <;> rcases he' with r | r <;> subst q <;> subst r <;> first | rfl | omega
theorem t3_rep (hn : n ≤ 4) (hX : bnd n MF X) (hY : bnd n MS Y) (hij : i < j) (hjk : j < k) (hk : k < n) (h : RepM n u S) : RepM n (t3F MF MS n i j k u) (fun c => S c ∨ CX3 n X Y i j k c) := by
  have hi : i < n := by omega
  have hj : j < n := by omega
  have b0 := ar_t hX hY (i := i) (j := j) (k := k) (Or.inl hi) (Or.inl hj) (Or.inl hk)
  have b1 := ar_t hX hY (i := 4) (j := j) (k := k) (Or.inr rfl) (Or.inl hj) (Or.inl hk)
  have b2 := ar_t hX hY (i := i) (j := 4) (k := k) (Or.inl hi) (Or.inr rfl) (Or.inl hk)
  have b3 := ar_t hX hY (i := i) (j := j) (k := 4) (Or.inl hi) (Or.inl hj) (Or.inr rfl)
  have e0 : (0 : Int64).toInt = 0 := rfl
  have z0 : areaF MF MS i j k = 0 ↔ AR X Y i j k = 0 := by rw [← Int64.toInt_inj, b0.1, e0]
  unfold t3F
  by_cases hc : areaF MF MS i j k = 0
  · rw [if_pos hc]
    rw [z0] at hc
    refine rep_iff h (fun c => ⟨Or.inl, fun q => q.elim id (fun z => ?_)⟩)
    obtain ⟨e, -, hp, -⟩ := z
    rw [hc, Int.mul_zero] at hp
    omega
  · rw [if_neg hc]
    rw [z0] at hc
    obtain ⟨e, he, hs, hp⟩ := sg_t b0.1 hc
    have c0 := sg_m hs he b0
    have c1 := sg_m hs he b1
    have c2 := sg_m hs he b2
    have c3 := sg_m hs he b3
    refine rep_iff (keep_rep2 (u := st1 (st1 (st1 (stF u (sgF (areaF MF MS i j k) * areaF MF MS i j k)) i (sgF (areaF MF MS i j k) * areaF MF MS 4 j k)) j (sgF (areaF MF MS i j k) * areaF MF MS i 4 k)) k (sgF (areaF MF MS i j k) * areaF MF MS i j 4)) (N := n3 i j k (e * AR X Y 4 j k) (e * AR X Y i 4 k) (e * AR X Y i j 4)) (D := e * AR X Y i j k) hn h (fun t ht => by rw [← c1.1, ← c2.1, ← c3.1]; exact tr_3 (by omega) (by omega) (by omega) (by omega)) c0.1 (by omega) (fun _ t _ => n3_le (by omega) (by omega) (by omega) (by omega) t)) (fun c => ?_)
    rw [n3_pos hi hj hk (by omega) (by omega) (by omega)]
    constructor
    · exact fun q => q.elim Or.inl (fun z => Or.inr ⟨e, he, hp, z.1.1, z.1.2.1, z.1.2.2, z.2⟩)
    · intro q
      rcases q with q | ⟨e', he', hp', q1, q2, q3, q4⟩
      · exact Or.inl q
      · have ee := e_uniq he he' hp hp'
        subst ee
        exact Or.inr ⟨⟨q1, q2, q3⟩, q4⟩
theorem s3_rep (hn : n ≤ 4) (hX : bnd n MF X) (hY : bnd n MS Y) (hij : i < j) : ∀ (d k : Nat) (u : MixS) (S : (Nat → Rat) → Prop), j < k → k + d = n → RepM n u S → RepM n (s3F MF MS n i j d k u) (fun c => S c ∨ ∃ k', k ≤ k' ∧ k' < n ∧ CX3 n X Y i j k' c)
  | 0, k, u, S, hk, hd, h => rep_iff h (fun c => ⟨Or.inl, fun q => q.elim id (fun ⟨k', h1, h2, _⟩ => by omega)⟩)
  | d + 1, k, u, S, hk, hd, h => by
    refine rep_iff (s3_rep hn hX hY hij d (k + 1) _ _ (by omega) (by omega) (t3_rep hn hX hY hij hk (by omega) h)) (fun c => ?_)
    constructor
    · rintro ((q | q) | ⟨k', h1, h2, q⟩)
      · exact Or.inl q
      · exact Or.inr ⟨k, Nat.le_refl k, by omega, q⟩
      · exact Or.inr ⟨k', by omega, h2, q⟩
    · rintro (q | ⟨k', h1, h2, q⟩)
      · exact Or.inl (Or.inl q)
      · by_cases e : k' = k
        · subst e; exact Or.inl (Or.inr q)
        · exact Or.inr ⟨k', by omega, h2, q⟩
theorem s2_rep (hn : n ≤ 4) (hX : bnd n MF X) (hY : bnd n MS Y) : ∀ (d j : Nat) (u : MixS) (S : (Nat → Rat) → Prop), i < j → j + d = n → RepM n u S → RepM n (s2F MF MS n i d j u) (fun c => S c ∨ ∃ j', j ≤ j' ∧ j' < n ∧ (CX2 n X Y i j' c ∨ ∃ k, j' < k ∧ k < n ∧ CX3 n X Y i j' k c))
  | 0, j, u, S, hj, hd, h => rep_iff h (fun c => ⟨Or.inl, fun q => q.elim id (fun ⟨j', h1, h2, _⟩ => by omega)⟩)
  | d + 1, j, u, S, hj, hd, h => by
    refine rep_iff (s2_rep hn hX hY d (j + 1) _ _ (by omega) (by omega) (s3_rep hn hX hY hj (n - (j + 1)) (j + 1) _ _ (by omega) (by omega) (t2_rep hn hX hY hj (by omega) h))) (fun c => ?_)
    constructor
    · rintro (((q | q) | ⟨k', h1, h2, q⟩) | ⟨j', h1, h2, q⟩)
      · exact Or.inl q
      · exact Or.inr ⟨j, Nat.le_refl j, by omega, Or.inl q⟩
      · exact Or.inr ⟨j, Nat.le_refl j, by omega, Or.inr ⟨k', by omega, h2, q⟩⟩
      · exact Or.inr ⟨j', by omega, h2, q⟩
    · rintro (q | ⟨j', h1, h2, q⟩)
      · exact Or.inl (Or.inl (Or.inl q))
      · by_cases e : j' = j
        · subst e
          rcases q with q | ⟨k, h3, h4, q⟩
          · exact Or.inl (Or.inl (Or.inr q))
          · exact Or.inl (Or.inr ⟨k, by omega, h4, q⟩)
        · exact Or.inr ⟨j', by omega, h2, q⟩
theorem s1_rep (hn : n ≤ 4) (hX : bnd n MF X) (hY : bnd n MS Y) : ∀ (d i : Nat) (u : MixS) (S : (Nat → Rat) → Prop), i + d = n → RepM n u S → RepM n (s1F MF MS n d i u) (fun c => S c ∨ ∃ i', i ≤ i' ∧ i' < n ∧ (CX1 n X Y i' c ∨ ∃ j, i' < j ∧ j < n ∧ (CX2 n X Y i' j c ∨ ∃ k, j < k ∧ k < n ∧ CX3 n X Y i' j k c)))
  | 0, i, u, S, hd, h => rep_iff h (fun c => ⟨Or.inl, fun q => q.elim id (fun ⟨i', h1, h2, _⟩ => by omega)⟩)
  | d + 1, i, u, S, hd, h => by
    refine rep_iff (s1_rep hn hX hY d (i + 1) _ _ (by omega) (s2_rep hn hX hY (n - (i + 1)) (i + 1) _ _ (by omega) (by omega) (t1_rep hn hX hY (by omega) h))) (fun c => ?_)
    constructor
    · rintro (((q | q) | ⟨j', h1, h2, q⟩) | ⟨i', h1, h2, q⟩)
      · exact Or.inl q
      · exact Or.inr ⟨i, Nat.le_refl i, by omega, Or.inl q⟩
      · exact Or.inr ⟨i, Nat.le_refl i, by omega, Or.inr ⟨j', by omega, h2, q⟩⟩
      · exact Or.inr ⟨i', by omega, h2, q⟩
    · rintro (q | ⟨i', h1, h2, q⟩)
      · exact Or.inl (Or.inl (Or.inl q))
      · by_cases e : i' = i
        · subst e
          rcases q with q | ⟨j, h3, h4, q⟩
          · exact Or.inl (Or.inl (Or.inr q))
          · exact Or.inl (Or.inr ⟨j, by omega, h4, q⟩)
        · exact Or.inr ⟨i', by omega, h2, q⟩
end TX
