/-! What the class's own methods do, as functions (Int64 and Int32 as the machine has them). -/
def fdN (P : Nat → Bool) : Nat → Nat → Nat
  | 0, i => i
  | k + 1, i => if P i = true then i else fdN P k (i + 1)
theorem fdN_step {P : Nat → Bool} {n i : Nat} (h : i < n) : fdN P (n - i) i = if P i = true then i else fdN P (n - (i + 1)) (i + 1) := by
  have e : n - i = (n - (i + 1)) + 1 := by omega
  rw [e]; rfl
theorem fdN_hit {P : Nat → Bool} {n i : Nat} (h : i < n) (hp : P i = true) : fdN P (n - i) i = i := by
  rw [fdN_step h, if_pos hp]
theorem fdN_go {P : Nat → Bool} {n i : Nat} (h : i < n) (hp : P i = false) : fdN P (n - i) i = fdN P (n - (i + 1)) (i + 1) := by
  rw [fdN_step h, if_neg (by rw [hp]; exact Bool.false_ne_true)]
theorem fdN_end {P : Nat → Bool} {n i : Nat} (h : n ≤ i) : fdN P (n - i) i = i := by
  have e : n - i = 0 := by omega
  rw [e]; rfl
theorem fdN_spec (P : Nat → Bool) : ∀ k i, i ≤ fdN P k i ∧ fdN P k i ≤ i + k ∧ (∀ j, i ≤ j → j < fdN P k i → P j = false) ∧ (fdN P k i < i + k → P (fdN P k i) = true)
  | 0, i => ⟨Nat.le_refl _, Nat.le_refl _, fun j h1 h2 => absurd h2 (Nat.not_lt.mpr h1), fun h => absurd h (Nat.lt_irrefl _)⟩
  | k + 1, i => by
    unfold fdN
    by_cases hp : P i = true
    · rw [if_pos hp]
      exact ⟨Nat.le_refl _, by omega, fun j h1 h2 => absurd h2 (Nat.not_lt.mpr h1), fun _ => hp⟩
    · rw [if_neg hp]
      obtain ⟨h1, h2, h3, h4⟩ := fdN_spec P k (i + 1)
      refine ⟨by omega, by omega, fun j j1 j2 => ?_, fun h => h4 (by omega)⟩
      by_cases hj : j = i
      · subst hj
        cases hq : P j with
        | false => rfl
        | true => exact absurd hq hp
      · exact h3 j (by omega) j2
/-- the first place before n with P, or n -/
def fd (P : Nat → Bool) (n : Nat) : Nat := fdN P n 0
theorem fd_le (P : Nat → Bool) (n : Nat) : fd P n ≤ n := by have := (fdN_spec P n 0).2.1; unfold fd; omega
theorem fd_before {P : Nat → Bool} {n j : Nat} (h : j < fd P n) : P j = false := (fdN_spec P n 0).2.2.1 j (Nat.zero_le _) h
theorem fd_at {P : Nat → Bool} {n : Nat} (h : fd P n < n) : P (fd P n) = true := (fdN_spec P n 0).2.2.2 (by unfold fd at h; omega)
theorem fd_0 (P : Nat → Bool) (n : Nat) : fdN P (n - 0) 0 = fd P n := rfl
theorem fd_eq {P : Nat → Bool} {n i : Nat} (hi : i < n) (hp : P i = true) (hb : ∀ j, j < i → P j = false) : fd P n = i := by
  have h1 : ¬ i < fd P n := fun h => by rw [fd_before h] at hp; exact Bool.false_ne_true hp
  have h2 : ¬ fd P n < i := fun h => by
    have := fd_at (P := P) (n := n) (by omega)
    rw [hb _ h] at this
    exact Bool.false_ne_true this
  omega
theorem fd_n {P : Nat → Bool} {n : Nat} (hb : ∀ j, j < n → P j = false) : fd P n = n := by
  have h1 := fd_le P n
  have h2 : ¬ fd P n < n := fun h => by
    have := fd_at h
    rw [hb _ h] at this
    exact Bool.false_ne_true this
  omega
def inB (x a b : Int64) : Bool := decide (a ≤ x) && decide (x ≤ b)
def wpF (a b : Int64) : Int64 := if (inB b 1 10000 && inB a 0 b) = true then (if a * 10000 - a * 10000 / b * b = 0 then a * 10000 / b else -1) else -1
theorem inB_ne {b : Int64} (h : inB b 1 10000 = true) : ¬ b = 0 := by
  intro e
  subst e
  revert h
  decide
/-- Math.floorDiv -/
def fdiv (x y : Int64) : Int64 := if (x ^^^ y) < 0 ∧ ¬ x / y * y = x then x / y - 1 else x / y
/-- the separator's rows -/
def rowF (ra : Nat → Int64) (w : Int64) (n : Nat) : Nat := fd (fun j => decide (w ≤ ra j)) n
theorem rowF_le (ra : Nat → Int64) (w : Int64) (n : Nat) : rowF ra w n ≤ n := fd_le _ _
theorem rowF_before {ra : Nat → Int64} {w : Int64} {n j : Nat} (h : j < rowF ra w n) : ra j < w := by
  have := fd_before h
  exact Int64.not_le.mp (of_decide_eq_false this)
theorem rowF_at {ra : Nat → Int64} {w : Int64} {n : Nat} (h : rowF ra w n < n) : w ≤ ra (rowF ra w n) := of_decide_eq_true (fd_at (P := fun j => decide (w ≤ ra j)) h)
def btwF (ra rf : Nat → Int64) (a b : Nat) (w : Int64) : Int64 := rf a + fdiv ((rf b - rf a) * (w - ra a)) (ra b - ra a)
def skF (ra rf : Nat → Int64) (n : Nat) (w : Int64) : Int64 :=
  if n = 0 then 0 else if rowF ra w n = n then rf (n - 1) else if rowF ra w n = 0 ∨ ra (rowF ra w n) = w then rf (rowF ra w n) else btwF ra rf (rowF ra w n - 1) (rowF ra w n) w
/-- a row's places from i on, moved up by one as far as n -/
def shf (f : Nat → Int64) (i n : Nat) : Nat → Int64 := fun j => if i < j ∧ j ≤ n then f (j - 1) else f j
theorem shf_n (f : Nat → Int64) (n : Nat) : shf f n n = f := by
  funext j; unfold shf; rw [if_neg (by omega)]
theorem shf_step (f : Nat → Int64) {i n : Nat} (h : 0 < i) (hn : i ≤ n) : vp_updL (shf f i n) i (shf f i n (i - 1)) = shf f (i - 1) n := by
  funext j
  unfold vp_updL shf
  by_cases hj : j = i
  · subst hj
    rw [if_pos rfl, if_neg (by omega), if_pos (by omega)]
  · rw [if_neg hj]
    by_cases h1 : i < j ∧ j ≤ n
    · rw [if_pos h1, if_pos (by omega)]
    · rw [if_neg h1, if_neg (by omega)]
def putA (ra : Nat → Int64) (n : Nat) (w : Int64) : Nat → Int64 :=
  if rowF ra w n < n ∧ ra (rowF ra w n) = w then ra else if 20 ≤ n then ra else vp_updL (shf ra (rowF ra w n) n) (rowF ra w n) w
def putF (ra rf : Nat → Int64) (n : Nat) (w f : Int64) : Nat → Int64 :=
  if rowF ra w n < n ∧ ra (rowF ra w n) = w then vp_updL rf (rowF ra w n) f else if 20 ≤ n then rf else vp_updL (shf rf (rowF ra w n) n) (rowF ra w n) f
def putN (ra : Nat → Int64) (n : Nat) (w : Int64) : Nat := if rowF ra w n < n ∧ ra (rowF ra w n) = w then n else if 20 ≤ n then n else n + 1
def putB (ra : Nat → Int64) (n : Nat) (w : Int64) : Bool := if rowF ra w n < n ∧ ra (rowF ra w n) = w then true else if 20 ≤ n then false else true
/-- the mixture: its trial, what the trial's numbers are over, the best, what that is over, whether it is met -/
abbrev MixS : Type := (Nat → Int64) × Int64 × (Nat → Int64) × Int64 × Bool
def prodF (mf ms : Nat → Int64) (i j k : Nat) : Int64 := (mf j - mf i) * (mf k - mf i) + (ms j - ms i) * (ms k - ms i)
def areaF (mf ms : Nat → Int64) (i j k : Nat) : Int64 := (mf j - mf i) * (ms k - ms i) - (mf k - mf i) * (ms j - ms i)
def zer (i : Nat) (f : Nat → Int64) : Nat → Int64 := fun j => if j < i then 0 else f j
theorem zer_0 (f : Nat → Int64) : zer 0 f = f := by funext j; unfold zer; rw [if_neg (by omega)]
theorem zer_step (f : Nat → Int64) (i : Nat) : vp_updL (zer i f) i 0 = zer (i + 1) f := by
  funext j
  unfold vp_updL zer
  by_cases hj : j = i
  · rw [if_pos hj, if_pos (by omega)]
  · rw [if_neg hj]
    by_cases h1 : j < i
    · rw [if_pos h1, if_pos (by omega)]
    · rw [if_neg h1, if_neg (by omega)]
def cpy (i : Nat) (f g : Nat → Int64) : Nat → Int64 := fun j => if j < i then f j else g j
theorem cpy_0 (f g : Nat → Int64) : cpy 0 f g = g := by funext j; unfold cpy; rw [if_neg (by omega)]
theorem cpy_step (f g : Nat → Int64) (i : Nat) : vp_updL (cpy i f g) i (f i) = cpy (i + 1) f g := by
  funext j
  unfold vp_updL cpy
  by_cases hj : j = i
  · rw [if_pos hj, if_pos (by omega), hj]
  · rw [if_neg hj]
    by_cases h1 : j < i
    · rw [if_pos h1, if_pos (by omega)]
    · rw [if_neg h1, if_neg (by omega)]
def posB (f : Nat → Int64) (n : Nat) : Bool := decide (fd (fun j => decide (f j < 0)) n = n)
def dfN (f : Nat → Int64) (b : Int64) (g : Nat → Int64) (d : Int64) (n : Nat) : Nat := fd (fun j => decide (¬ f j * d = g j * b)) n
def btB (f : Nat → Int64) (b : Int64) (g : Nat → Int64) (d : Int64) (n : Nat) : Bool := decide (dfN f b g d n < n) && decide (g (dfN f b g d n) * b < f (dfN f b g d n) * d)
def keepB (n : Nat) (u : MixS) : Bool := posB u.1 n && (!u.2.2.2.2 || btB u.1 u.2.1 u.2.2.1 u.2.2.2.1 n)
def keepF (n : Nat) (u : MixS) : MixS := if keepB n u = true then (u.1, u.2.1, cpy 4 u.1 u.2.2.1, u.2.1, true) else u
def stF (u : MixS) (x : Int64) : MixS := (zer 4 u.1, x, u.2.2)
def st1 (u : MixS) (i : Nat) (x : Int64) : MixS := (vp_updL u.1 i x, u.2)
def t1F (mf ms : Nat → Int64) (n i : Nat) (u : MixS) : MixS :=
  if mf i = mf 4 ∧ ms i = ms 4 then keepF n (st1 (stF u 1) i 1) else u
def t2F (mf ms : Nat → Int64) (n i j : Nat) (u : MixS) : MixS :=
  if prodF mf ms i j j = 0 ∨ ¬ areaF mf ms i j 4 = 0 then u
  else keepF n (st1 (st1 (stF u (prodF mf ms i j j)) j (prodF mf ms i j 4)) i (prodF mf ms i j j - (st1 (stF u (prodF mf ms i j j)) j (prodF mf ms i j 4)).1 j))
def sgF (x : Int64) : Int64 := if x < 0 then -1 else 1
def t3F (mf ms : Nat → Int64) (n i j k : Nat) (u : MixS) : MixS :=
  if areaF mf ms i j k = 0 then u
  else keepF n (st1 (st1 (st1 (stF u (sgF (areaF mf ms i j k) * areaF mf ms i j k)) i (sgF (areaF mf ms i j k) * areaF mf ms 4 j k)) j (sgF (areaF mf ms i j k) * areaF mf ms i 4 k)) k (sgF (areaF mf ms i j k) * areaF mf ms i j 4))
/-- the loops of the search: k from k0 on, then j from j0 on, then i from i0 on; d is what is left to do -/
def s3F (mf ms : Nat → Int64) (n i j : Nat) : Nat → Nat → MixS → MixS
  | 0, _, u => u
  | d + 1, k, u => s3F mf ms n i j d (k + 1) (t3F mf ms n i j k u)
def s2F (mf ms : Nat → Int64) (n i : Nat) : Nat → Nat → MixS → MixS
  | 0, _, u => u
  | d + 1, j, u => s2F mf ms n i d (j + 1) (s3F mf ms n i j (n - (j + 1)) (j + 1) (t2F mf ms n i j u))
def s1F (mf ms : Nat → Int64) (n : Nat) : Nat → Nat → MixS → MixS
  | 0, _, u => u
  | d + 1, i, u => s1F mf ms n d (i + 1) (s2F mf ms n i (n - (i + 1)) (i + 1) (t1F mf ms n i u))
def fgF (u : MixS) : MixS := (u.1, u.2.1, u.2.2.1, u.2.2.2.1, false)
def abF (ml : Nat → Int32) (n : Nat) (mb : Nat → Int64) (x : Int32) : Int64 := if fd (fun j => decide (ml j = x)) n < n then mb (fd (fun j => decide (ml j = x)) n) else 0
theorem s3F_end {mf ms : Nat → Int64} {n i j k : Nat} {u : MixS} (h : n ≤ k) : s3F mf ms n i j (n - k) k u = u := by
  rw [show n - k = 0 by omega]; rfl
theorem s3F_go {mf ms : Nat → Int64} {n i j k : Nat} {u : MixS} (h : k < n) : s3F mf ms n i j (n - k) k u = s3F mf ms n i j (n - (k + 1)) (k + 1) (t3F mf ms n i j k u) := by
  rw [show n - k = (n - (k + 1)) + 1 by omega]; rfl
theorem s2F_end {mf ms : Nat → Int64} {n i j : Nat} {u : MixS} (h : n ≤ j) : s2F mf ms n i (n - j) j u = u := by
  rw [show n - j = 0 by omega]; rfl
theorem s2F_go {mf ms : Nat → Int64} {n i j : Nat} {u : MixS} (h : j < n) : s2F mf ms n i (n - j) j u = s2F mf ms n i (n - (j + 1)) (j + 1) (s3F mf ms n i j (n - (j + 1)) (j + 1) (t2F mf ms n i j u)) := by
  rw [show n - j = (n - (j + 1)) + 1 by omega]; rfl
theorem s1F_end {mf ms : Nat → Int64} {n i : Nat} {u : MixS} (h : n ≤ i) : s1F mf ms n (n - i) i u = u := by
  rw [show n - i = 0 by omega]; rfl
theorem s1F_go {mf ms : Nat → Int64} {n i : Nat} {u : MixS} (h : i < n) : s1F mf ms n (n - i) i u = s1F mf ms n (n - (i + 1)) (i + 1) (s2F mf ms n i (n - (i + 1)) (i + 1) (t1F mf ms n i u)) := by
  rw [show n - i = (n - (i + 1)) + 1 by omega]; rfl
theorem l_sub0 {a b : Int64} (h : a - b = 0) : a = b := by
  have := congrArg (· + b) h
  simpa using this
theorem sk_ne {ra : Nat → Int64} {w : Int64} {n : Nat} (h0 : 0 < rowF ra w n) (hl : rowF ra w n < n) : ¬ ra (rowF ra w n) - ra (rowF ra w n - 1) = 0 := by
  intro h
  have e := l_sub0 h
  have h1 : ra (rowF ra w n - 1) < w := rowF_before (n := n) (by omega)
  have h2 := rowF_at hl
  rw [e] at h2
  exact absurd h1 (Int64.not_lt.mpr h2)
