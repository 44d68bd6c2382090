/-! The reference's own mixture: its trial, the best's numbers, what they are over, whether it is met. -/
theorem i32_toInt2 : (nI 2).toInt = 2 := nI_toInt (by decide)
theorem i32_toInt1 : (nI 1).toInt = 1 := nI_toInt (by decide)
theorem i02_t {x : Int32} (h1 : ¬ x < 0) (h2 : x ≤ nI 2) : inB x.toInt64 0 2 = true := by
  rw [inB_iff, Int32.toInt_toInt64]
  rw [Int32.lt_iff_toInt_lt] at h1
  rw [Int32.le_iff_toInt_le, i32_toInt2] at h2
  have e1 : (0 : Int64).toInt = 0 := rfl
  have e2 : (2 : Int64).toInt = 2 := rfl
  have e3 : (0 : Int32).toInt = 0 := rfl
  omega
theorem i02_f {x : Int32} (h : x < 0 ∨ ¬ x ≤ nI 2) : inB x.toInt64 0 2 = false := by
  cases hq : inB x.toInt64 0 2 with
  | false => rfl
  | true =>
    rw [inB_iff, Int32.toInt_toInt64] at hq
    rw [Int32.lt_iff_toInt_lt, Int32.le_iff_toInt_le, i32_toInt2] at h
    have e1 : (0 : Int64).toInt = 0 := rfl
    have e2 : (2 : Int64).toInt = 2 := rfl
    have e3 : (0 : Int32).toInt = 0 := rfl
    omega
theorem i01_t {x : Int32} (h1 : ¬ x < 0) (h2 : x ≤ nI 1) : inB x.toInt64 0 1 = true := by
  rw [inB_iff, Int32.toInt_toInt64]
  rw [Int32.lt_iff_toInt_lt] at h1
  rw [Int32.le_iff_toInt_le, i32_toInt1] at h2
  have e1 : (0 : Int64).toInt = 0 := rfl
  have e2 : (1 : Int64).toInt = 1 := rfl
  have e3 : (0 : Int32).toInt = 0 := rfl
  omega
theorem i01_f {x : Int32} (h : x < 0 ∨ ¬ x ≤ nI 1) : inB x.toInt64 0 1 = false := by
  cases hq : inB x.toInt64 0 1 with
  | false => rfl
  | true =>
    rw [inB_iff, Int32.toInt_toInt64] at hq
    rw [Int32.lt_iff_toInt_lt, Int32.le_iff_toInt_le, i32_toInt1] at h
    have e1 : (0 : Int64).toInt = 0 := rfl
    have e2 : (1 : Int64).toInt = 1 := rfl
    have e3 : (0 : Int32).toInt = 0 := rfl
    omega
theorem p2_eq {x : Int32} (h1 : x ≤ nI 2) (h2 : nI 2 ≤ x) : x = nI 2 := by
  refine Int32.toInt_inj.mp ?_
  rw [Int32.le_iff_toInt_le] at h1 h2
  omega
theorem p2_ne {x : Int32} (h2 : ¬ nI 2 ≤ x) : ¬ x = nI 2 := fun e => h2 (by rw [e]; exact Int32.le_refl _)
theorem ya_0 (a b d : Int64) : a * (93 * b + 75 * d) * 109 = yaF a b d 0 := rfl
theorem ya_1 (a b d : Int64) : a * b = yaF a b d 1 := rfl
theorem ya_2 {a b d : Int64} {k : Nat} (h0 : k ≠ 0) (h1 : k ≠ 1) : a * (b + d) = yaF a b d k := by
  unfold yaF
  rw [if_neg h0, if_neg h1]
theorem yb_2 {k : Nat} (h0 : k ≠ 0) (h1 : k ≠ 1) : 9700 = ybF k := by
  unfold ybF
  rw [if_neg h0, if_neg h1]
abbrev ModS : Type := (Nat → Int64) × (Nat → Int64) × Int64 × Bool
def mzF (v : ModS) : ModS := (zer 4 v.1, v.2)
def msF (v : ModS) (i : Nat) (x : Int64) : ModS := (vp_updL v.1 i x, v.2)
def tkB (nc : Nat) (b : Int64) (v : ModS) : Bool := !v.2.2.2 || btB v.1 b v.2.1 v.2.2.1 nc
def tkF (nc : Nat) (b : Int64) (v : ModS) : ModS := if tkB nc b v = true then (v.1, cpy nc v.1 v.2.1, b, true) else v
theorem bt_eq {f : Nat → Int64} {b : Int64} {g : Nat → Int64} {d : Int64} {n : Nat} (h : ∀ t, t < n → f t * d = g t * b) : btB f b g d n = false := by
  unfold btB
  have e : dfN f b g d n = n := fd_n (fun j hj => decide_eq_false (nn_i (h j hj)))
  rw [e, decide_eq_false (Nat.lt_irrefl n)]
  rfl
theorem bt_at {f : Nat → Int64} {b : Int64} {g : Nat → Int64} {d : Int64} {n i : Nat} (hi : i < n) (h : ∀ t, t < i → f t * d = g t * b) (hn : ¬ f i * d = g i * b) : btB f b g d n = decide (g i * b < f i * d) := by
  unfold btB
  have e : dfN f b g d n = i := fd_eq hi (decide_eq_true hn) (fun j hj => decide_eq_false (nn_i (h j hj)))
  rw [e, decide_eq_true hi]
  rfl
/-- what the reference's comparing loop knows: q, still the same; g, the greater so far -/
def tkI (nc : Nat) (b : Int64) (v : ModS) (i : Nat) (g q : Bool) : Prop :=
  (q = true → v.2.2.2 = true ∧ g = false ∧ ∀ t, t < i → v.1 t * v.2.2.1 = v.2.1 t * b) ∧ (q = false → g = tkB nc b v)
theorem tkI_0 {nc : Nat} {b : Int64} {v : ModS} : tkI nc b v 0 (!v.2.2.2) v.2.2.2 :=
  ⟨fun h => ⟨h, by rw [h]; rfl, fun t ht => absurd ht (Nat.not_lt_zero t)⟩, fun h => by unfold tkB; rw [h]; rfl⟩
theorem tkI_same {nc : Nat} {b : Int64} {v : ModS} {i : Nat} {g q : Bool} (h : tkI nc b v i g q) (hq : q = true) (he : v.1 i * v.2.2.1 = v.2.1 i * b) : tkI nc b v (i + 1) false true := by
  obtain ⟨h1, h2, h3⟩ := h.1 hq
  refine ⟨fun _ => ⟨h1, rfl, fun t ht => ?_⟩, fun z => absurd z (by decide)⟩
  by_cases e : t = i
  · rw [e]; exact he
  · exact h3 t (by omega)
theorem tkI_diff {nc : Nat} {b : Int64} {v : ModS} {i : Nat} {g q : Bool} (h : tkI nc b v i g q) (hq : q = true) (hi : i < nc) (he : ¬ v.1 i * v.2.2.1 = v.2.1 i * b) {r : Bool} (hr : r = decide (v.2.1 i * b < v.1 i * v.2.2.1)) : tkI nc b v (i + 1) r false := by
  obtain ⟨h1, h2, h3⟩ := h.1 hq
  refine ⟨fun z => absurd z (by decide), fun _ => ?_⟩
  unfold tkB
  rw [h1, bt_at hi h3 he, hr]
  rfl
theorem tkI_end {nc : Nat} {b : Int64} {v : ModS} {i : Nat} {g q : Bool} (h : tkI nc b v i g q) (hi : nc ≤ i) : g = tkB nc b v := by
  cases hq : q with
  | false => exact h.2 hq
  | true =>
    obtain ⟨h1, h2, h3⟩ := h.1 hq
    unfold tkB
    rw [h1, h2, bt_eq (fun t ht => h3 t (by omega))]
    rfl
def rsA (n : Nat) (ml : Nat → Int32) (mc : Nat) (v : ModS) (x part : Int32) : Int64 :=
  if (v.2.2.2 && (lotB n x && inB part.toInt64 0 1)) = true then
    (if fd (fun j => decide (ml j = x)) mc < mc then rpF (v.2.1 (fd (fun j => decide (ml j = x)) mc)).toInt.toNat v.2.2.1.toInt.toNat part else part.toInt64) else -1
