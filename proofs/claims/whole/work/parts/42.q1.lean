/-! Fractions, and vectors of them in the order of a dictionary. -/
theorem q_lt {a b c d : Int} (hb : 0 < b) (hd : 0 < d) : Rat.divInt a b < Rat.divInt c d ↔ a * d < c * b := by
  have hb' : (0 : Rat) < (b : Rat) := Rat.intCast_pos.mpr hb
  have hd' : (0 : Rat) < (d : Rat) := Rat.intCast_pos.mpr hd
  rw [Rat.divInt_eq_div, Rat.divInt_eq_div, Rat.div_lt_iff hb', Rat.div_def, Rat.mul_assoc, Rat.mul_comm (d : Rat)⁻¹ (b : Rat), ← Rat.mul_assoc, ← Rat.div_def, Rat.lt_div_iff hd', ← Rat.intCast_mul, ← Rat.intCast_mul, Rat.intCast_lt_intCast]
theorem q_eq {a b c d : Int} (hb : 0 < b) (hd : 0 < d) : Rat.divInt a b = Rat.divInt c d ↔ a * d = c * b := Rat.divInt_eq_divInt_iff (by omega) (by omega)
theorem q_asym {a b : Rat} (h : a < b) (h2 : b < a) : False := by
  have e := Rat.le_antisymm (Rat.le_of_lt h) (Rat.le_of_lt h2)
  rw [e] at h
  exact Rat.lt_irrefl h
theorem q_trans {a b c : Rat} (h : a < b) (h2 : b < c) : a < c := by
  refine Rat.lt_of_le_of_ne (Rat.le_trans (Rat.le_of_lt h) (Rat.le_of_lt h2)) (fun e => ?_)
  rw [e] at h
  exact q_asym h h2
theorem q_tri (a b : Rat) : a < b ∨ a = b ∨ b < a := by
  rcases Rat.le_total (a := a) (b := b) with h | h
  · rcases Rat.le_iff_lt_or_eq.mp h with q | q
    · exact Or.inl q
    · exact Or.inr (Or.inl q)
  · rcases Rat.le_iff_lt_or_eq.mp h with q | q
    · exact Or.inr (Or.inr q)
    · exact Or.inr (Or.inl q.symm)
def lxL (n : Nat) (f g : Nat → Rat) : Prop := ∃ t, t < n ∧ (∀ r, r < t → f r = g r) ∧ f t < g t
theorem lx_irr {n : Nat} {f g : Nat → Rat} (h : ∀ t, t < n → f t = g t) : ¬ lxL n f g := fun ⟨t, ht, _, h2⟩ => by
  rw [h t ht] at h2
  exact Rat.lt_irrefl h2
theorem lx_trans {n : Nat} {f g h : Nat → Rat} (h1 : lxL n f g) (h2 : lxL n g h) : lxL n f h := by
  obtain ⟨t, ht, a1, a2⟩ := h1
  obtain ⟨r, hr, b1, b2⟩ := h2
  rcases Nat.lt_trichotomy t r with q | q | q
  · exact ⟨t, ht, fun z hz => (a1 z hz).trans (b1 z (by omega)), by rw [← b1 t q]; exact a2⟩
  · subst q
    exact ⟨t, ht, fun z hz => (a1 z hz).trans (b1 z hz), q_trans a2 b2⟩
  · exact ⟨r, hr, fun z hz => (a1 z (by omega)).trans (b1 z hz), by rw [a1 r q]; exact b2⟩
theorem lx_cl {n : Nat} {f g g' : Nat → Rat} (h : ∀ t, t < n → g t = g' t) (h1 : lxL n f g) : lxL n f g' := by
  obtain ⟨t, ht, a1, a2⟩ := h1
  exact ⟨t, ht, fun z hz => (a1 z hz).trans (h z (by omega)), by rw [← h t ht]; exact a2⟩
theorem lx_cr {n : Nat} {f f' g : Nat → Rat} (h : ∀ t, t < n → f t = f' t) (h1 : lxL n f g) : lxL n f' g := by
  obtain ⟨t, ht, a1, a2⟩ := h1
  exact ⟨t, ht, fun z hz => (h z (by omega)).symm.trans (a1 z hz), by rw [← h t ht]; exact a2⟩
theorem lx_tri {n : Nat} {f g : Nat → Rat} (h1 : ¬ lxL n f g) (h2 : ¬ lxL n g f) : ∀ t, t < n → f t = g t := by
  intro t
  induction t using Nat.strongRecOn with
  | _ t ih =>
    intro ht
    rcases q_tri (f t) (g t) with q | q | q
    · exact absurd ⟨t, ht, fun r hr => ih r hr (by omega), q⟩ h1
    · exact q
    · exact absurd ⟨t, ht, fun r hr => (ih r hr (by omega)).symm, q⟩ h2
/-! The best so far, and the set of what was offered. -/
def vecT (f : Nat → Int64) (d : Int64) (t : Nat) : Rat := Rat.divInt (f t).toInt d.toInt
def okT (n : Nat) (f : Nat → Int64) (d : Int64) : Prop := (0 < d.toInt ∧ d.toInt ≤ 200000000) ∧ ∀ t, t < n → 0 ≤ (f t).toInt ∧ (f t).toInt ≤ 200000000
def RepT (n : Nat) (f : Nat → Int64) (d : Int64) (met : Bool) (S : (Nat → Rat) → Prop) : Prop :=
  (met = false → ∀ c, ¬ S c) ∧ (met = true → okT n f d ∧ (∃ c, S c ∧ ∀ t, t < n → vecT f d t = c t) ∧ ∀ c, S c → ¬ lxL n (vecT f d) c)
theorem rep_iff {n : Nat} {f : Nat → Int64} {d : Int64} {met : Bool} {S S' : (Nat → Rat) → Prop} (h : RepT n f d met S) (hs : ∀ c, S c ↔ S' c) : RepT n f d met S' := by
  have e : S = S' := funext (fun c => propext (hs c))
  rw [← e]
  exact h
theorem pr_mul {n : Nat} {f g : Nat → Int64} {b d : Int64} (h1 : okT n f b) (h2 : okT n g d) {t : Nat} (ht : t < n) : (f t * d).toInt = (f t).toInt * d.toInt := by
  have p1 := h1.2 t ht
  have p2 := h2.1
  have bd := mul_bd (x := (f t).toInt) (y := d.toInt) (X := 200000000) (Y := 200000000) (by omega) (by omega)
  exact t_mul (by omega) (by omega)
theorem pr_eq {n : Nat} {f g : Nat → Int64} {b d : Int64} (h1 : okT n f b) (h2 : okT n g d) {t : Nat} (ht : t < n) : f t * d = g t * b ↔ vecT g d t = vecT f b t := by
  unfold vecT
  rw [q_eq h2.1.1 h1.1.1, ← Int64.toInt_inj, pr_mul h1 h2 ht, pr_mul h2 h1 ht]
  exact ⟨fun q => q.symm, fun q => q.symm⟩
theorem pr_lt {n : Nat} {f g : Nat → Int64} {b d : Int64} (h1 : okT n f b) (h2 : okT n g d) {t : Nat} (ht : t < n) : g t * b < f t * d ↔ vecT g d t < vecT f b t := by
  unfold vecT
  rw [q_lt h2.1.1 h1.1.1, Int64.lt_iff_toInt_lt, pr_mul h1 h2 ht, pr_mul h2 h1 ht]
theorem bt_lx {n : Nat} {f g : Nat → Int64} {b d : Int64} (h1 : okT n f b) (h2 : okT n g d) : btB f b g d n = true ↔ lxL n (vecT g d) (vecT f b) := by
  constructor
  · intro h
    unfold btB at h
    simp only [Bool.and_eq_true, decide_eq_true_eq] at h
    refine ⟨dfN f b g d n, h.1, fun r hr => ?_, (pr_lt h1 h2 h.1).mp h.2⟩
    have q := of_decide_eq_false (fd_before (P := fun j => decide (¬ f j * d = g j * b)) hr)
    exact (pr_eq h1 h2 (by omega)).mp (Decidable.not_not.mp q)
  · rintro ⟨t, ht, a1, a2⟩
    rw [bt_at ht (fun r hr => (pr_eq h1 h2 (by omega)).mpr (a1 r hr)) (fun e => by
      rw [(pr_eq h1 h2 ht).mp e] at a2
      exact Rat.lt_irrefl a2)]
    exact decide_eq_true ((pr_lt h1 h2 ht).mpr a2)
theorem rep_new {n : Nat} {f f' g : Nat → Int64} {b d : Int64} {met : Bool} {S : (Nat → Rat) → Prop} (h : RepT n g d met S) (ho : okT n f b) (hk : met = false ∨ btB f b g d n = true) (hf : ∀ t, t < n → f' t = f t) : RepT n f' b true (fun c => S c ∨ ∀ t, t < n → c t = vecT f b t) := by
  have ev : ∀ t, t < n → vecT f' b t = vecT f b t := fun t ht => by unfold vecT; rw [hf t ht]
  refine ⟨fun q => absurd q (by decide), fun _ => ⟨⟨ho.1, fun t ht => by rw [hf t ht]; exact ho.2 t ht⟩, ⟨vecT f b, Or.inr (fun t _ => rfl), ev⟩, fun c hc => ?_⟩⟩
  rcases hc with hc | hc
  · intro hl
    cases hm : met with
    | false => exact h.1 hm c hc
    | true =>
      obtain ⟨h1, h2, h3⟩ := h.2 hm
      rcases hk with q | q
      · rw [hm] at q; exact absurd q (by decide)
      · exact h3 c hc (lx_trans ((bt_lx ho h1).mp q) (lx_cr ev hl))
  · exact lx_irr (fun t ht => (ev t ht).trans (hc t ht).symm)
theorem rep_old {n : Nat} {f g : Nat → Int64} {b d : Int64} {met : Bool} {S : (Nat → Rat) → Prop} (h : RepT n g d met S) (ho : okT n f b) (hm : met = true) (hk : btB f b g d n = false) : RepT n g d met (fun c => S c ∨ ∀ t, t < n → c t = vecT f b t) := by
  obtain ⟨h1, ⟨c0, h2, h2'⟩, h3⟩ := h.2 hm
  refine ⟨fun q => by rw [hm] at q; exact absurd q (by decide), fun _ => ⟨h1, ⟨c0, Or.inl h2, h2'⟩, fun c hc => ?_⟩⟩
  rcases hc with hc | hc
  · exact h3 c hc
  · intro hl
    have := (bt_lx ho h1).mpr (lx_cl hc hl)
    rw [hk] at this
    exact absurd this (by decide)
theorem rep_eq {n : Nat} {f g : Nat → Int64} {b d : Int64} {m1 m2 : Bool} {S : (Nat → Rat) → Prop} (h1 : RepT n f b m1 S) (h2 : RepT n g d m2 S) : m1 = m2 ∧ (m2 = true → okT n f b ∧ okT n g d ∧ ∀ t, t < n → vecT f b t = vecT g d t) := by
  have em : m1 = m2 := by
    cases e1 : m1 with
    | false =>
      cases e2 : m2 with
      | false => rfl
      | true =>
        obtain ⟨-, ⟨c, hc, -⟩, -⟩ := h2.2 e2
        exact absurd hc (h1.1 e1 c)
    | true =>
      cases e2 : m2 with
      | true => rfl
      | false =>
        obtain ⟨-, ⟨c, hc, -⟩, -⟩ := h1.2 e1
        exact absurd hc (h2.1 e2 c)
  refine ⟨em, fun hm => ?_⟩
  obtain ⟨a1, ⟨c, hc, ec⟩, a3⟩ := h1.2 (em.trans hm)
  obtain ⟨b1, ⟨c', hc', ec'⟩, b3⟩ := h2.2 hm
  exact ⟨a1, b1, lx_tri (fun q => a3 c' hc' (lx_cl ec' q)) (fun q => b3 c hc (lx_cl ec q))⟩
theorem cpy_in {i t : Nat} {f g : Nat → Int64} (h : t < i) : cpy i f g t = f t := if_pos h
theorem pos_iff {f : Nat → Int64} {n : Nat} : posB f n = true ↔ ∀ t, t < n → 0 ≤ (f t).toInt := by
  unfold posB
  rw [decide_eq_true_eq]
  have e0 : (0 : Int64).toInt = 0 := rfl
  constructor
  · intro h t ht
    have := of_decide_eq_false (fd_before (P := fun j => decide (f j < 0)) (show t < fd (fun j => decide (f j < 0)) n by omega))
    rw [Int64.lt_iff_toInt_lt, e0] at this
    omega
  · intro h
    exact fd_n (fun j hj => decide_eq_false (fun q => by
      rw [Int64.lt_iff_toInt_lt, e0] at q
      have := h j hj
      omega))
def RepM (n : Nat) (u : MixS) (S : (Nat → Rat) → Prop) : Prop := RepT n u.2.2.1 u.2.2.2.1 u.2.2.2.2 S
def RepN (n : Nat) (v : ModS) (S : (Nat → Rat) → Prop) : Prop := RepT n v.2.1 v.2.2.1 v.2.2.2 S
theorem keep_rep {n : Nat} {u : MixS} {S : (Nat → Rat) → Prop} (hn : n ≤ 4) (h : RepM n u S) (hd : 0 < u.2.1.toInt ∧ u.2.1.toInt ≤ 200000000) (hub : (∀ t, t < n → 0 ≤ (u.1 t).toInt) → ∀ t, t < n → (u.1 t).toInt ≤ 200000000) :
    RepM n (keepF n u) (fun c => S c ∨ ((∀ t, t < n → 0 ≤ (u.1 t).toInt) ∧ ∀ t, t < n → c t = vecT u.1 u.2.1 t)) := by
  unfold RepM keepF
  by_cases hp : posB u.1 n = true
  · have hp' := pos_iff.mp hp
    have ho : okT n u.1 u.2.1 := ⟨hd, fun t ht => ⟨hp' t ht, hub hp' t ht⟩⟩
    have hs : ∀ c, (S c ∨ ∀ t, t < n → c t = vecT u.1 u.2.1 t) ↔ (S c ∨ ((∀ t, t < n → 0 ≤ (u.1 t).toInt) ∧ ∀ t, t < n → c t = vecT u.1 u.2.1 t)) := fun c =>
      ⟨fun q => q.elim Or.inl (fun z => Or.inr ⟨hp', z⟩), fun q => q.elim Or.inl (fun z => Or.inr z.2)⟩
    by_cases hk : keepB n u = true
    · rw [if_pos hk]
      refine rep_iff (rep_new (f := u.1) h ho ?_ (fun t ht => cpy_in (by omega))) hs
      unfold keepB at hk
      rw [hp] at hk
      simp at hk
      exact hk
    · rw [if_neg hk]
      unfold keepB at hk
      rw [hp] at hk
      simp at hk
      exact rep_iff (rep_old (f := u.1) h ho hk.1 hk.2) hs
  · have hk : ¬ keepB n u = true := fun q => by
      unfold keepB at q
      simp only [Bool.and_eq_true] at q
      exact hp q.1
    rw [if_neg hk]
    refine rep_iff h (fun c => ⟨Or.inl, fun q => q.elim id (fun z => absurd (pos_iff.mpr z.1) hp)⟩)
theorem tk_rep {n : Nat} {v : ModS} {S : (Nat → Rat) → Prop} {b : Int64} (h : RepN n v S) (ho : okT n v.1 b) : RepN n (tkF n b v) (fun c => S c ∨ ∀ t, t < n → c t = vecT v.1 b t) := by
  unfold RepN tkF
  by_cases hk : tkB n b v = true
  · rw [if_pos hk]
    refine rep_new (f := v.1) h ho ?_ (fun t ht => cpy_in ht)
    unfold tkB at hk
    simp at hk
    exact hk
  · rw [if_neg hk]
    unfold tkB at hk
    simp at hk
    exact rep_old (f := v.1) h ho hk.1 hk.2
