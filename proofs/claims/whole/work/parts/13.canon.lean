/-! One function an operation, for the class and for the reference alike. -/
def bN (c : Bool) (a b : Nat) : Nat := if c = true then a else b
def bL (c : Bool) (f g : Nat → Int64) : Nat → Int64 := if c = true then f else g
def bI (c : Bool) (f g : Nat → Int32) : Nat → Int32 := if c = true then f else g
def bC (c : Bool) (f g : Nat → Nat) : Nat → Nat := if c = true then f else g
theorem bN_t {c : Bool} {a b : Nat} (h : c = true) : bN c a b = a := if_pos h
theorem bN_f {c : Bool} {a b : Nat} (h : c = false) : bN c a b = b := if_neg (by rw [h]; exact Bool.false_ne_true)
theorem bL_t {c : Bool} {f g : Nat → Int64} (h : c = true) : bL c f g = f := if_pos h
theorem bL_f {c : Bool} {f g : Nat → Int64} (h : c = false) : bL c f g = g := if_neg (by rw [h]; exact Bool.false_ne_true)
theorem bI_t {c : Bool} {f g : Nat → Int32} (h : c = true) : bI c f g = f := if_pos h
theorem bI_f {c : Bool} {f g : Nat → Int32} (h : c = false) : bI c f g = g := if_neg (by rw [h]; exact Bool.false_ne_true)
theorem bC_t {c : Bool} {f g : Nat → Nat} (h : c = true) : bC c f g = f := if_pos h
theorem bC_f {c : Bool} {f g : Nat → Nat} (h : c = false) : bC c f g = g := if_neg (by rw [h]; exact Bool.false_ne_true)
/-- what is told in parts is refused -/
def nP (a b : Int64) : Bool := decide (wpF a b = -1)
def loR (k a b : Int64) : Bool := inB k 1 1000000 && !nP a b
def loY (n : Nat) (k a b : Int64) : Bool := loR k a b && decide (n < 60)
def loA (n : Nat) (k a b : Int64) : Int32 := if loR k a b = true then (if n < 60 then nI n else -2) else -1
def soY (n : Nat) (sp : Nat → Int32) (ft : Nat → Int64) (x : Int32) (a b : Int64) : Bool := unB n sp x && (!nP a b && decide (ft x.toNatClampNeg + wpF a b ≤ 10000))
/-- the place of x among the first nc, or nc -/
def pl (cn : Nat → Nat) (nc x : Nat) : Nat := fd (fun i => decide (cn i = x)) nc
def plF (cn : Nat → Nat) (nc x : Nat) : Int32 := if pl cn nc x < nc then nI (pl cn nc x) else -1
/-- the places behind g move down by one, up to (without) e -/
def shl (f : Nat → Nat) (g e : Nat) : Nat → Nat := fun j => if g ≤ j ∧ j + 1 < e then f (j + 1) else f j
def ucN (cn : Nat → Nat) (nc x : Nat) : Nat := if pl cn nc x < nc then nc - 1 else nc
def ucC (cn : Nat → Nat) (nc x : Nat) : Nat → Nat := if pl cn nc x < nc then shl cn (pl cn nc x) nc else cn
theorem shl_0 (f : Nat → Nat) (g : Nat) : shl f g (g + 1) = f := by
  funext j; unfold shl; rw [if_neg (by omega)]
theorem upd_nI {f : Nat → Nat} {k v : Nat} : upd (fun i => nI (f i)) k (nI v) = fun i => nI (va_up f k v i) := by
  funext j
  unfold upd va_up
  by_cases h : j = k
  · simp [h]
  · simp [h]
theorem shl_step (f : Nat → Nat) {g i : Nat} (h : g < i) : upd (fun j => nI (shl f g i j)) (i - 1) (nI (shl f g i i)) = fun j => nI (shl f g (i + 1) j) := by
  rw [upd_nI]
  funext j
  refine congrArg nI ?_
  unfold va_up shl
  by_cases hj : j = i - 1
  · subst hj
    rw [if_pos rfl, if_neg (by omega), if_pos (by omega), show i - 1 + 1 = i by omega]
  · rw [if_neg hj]
    by_cases h1 : g ≤ j ∧ j + 1 < i
    · rw [if_pos h1, if_pos (by omega)]
    · rw [if_neg h1, if_neg (by omega)]
def chY (n : Nat) (sp : Nat → Int32) (cn : Nat → Nat) (nc : Nat) (x : Int32) : Bool := unB n sp x && (decide (¬ pl cn nc x.toNatClampNeg < nc) && decide (nc < 4))
def crF (k f e c : Int64) : Int64 := k * (f - e) / (c - e)
def sqF (k f e c : Int64) : Int64 := k * (c - f) / (c - e)
def slF (s c f : Int64) : Int64 := s * (10000 - c) / (10000 - f)
def seR (n : Nat) (sp : Nat → Int32) (kg ft ra rf : Nat → Int64) (nr : Nat) (x : Int32) (a b : Int64) : Bool :=
  unB n sp x && (!decide (kg x.toNatClampNeg = 0) && (!nP a b && (decide (skF ra rf nr (kg x.toNatClampNeg) < ft x.toNatClampNeg) && decide (ft x.toNatClampNeg < wpF a b))))
def seY (n : Nat) (sp : Nat → Int32) (kg ft ra rf : Nat → Int64) (nr : Nat) (x : Int32) (a b : Int64) : Bool := seR n sp kg ft ra rf nr x a b && decide (n + 2 ≤ 60)
def seA (n : Nat) (sp : Nat → Int32) (kg ft ra rf : Nat → Int64) (nr : Nat) (x : Int32) (a b : Int64) : Int32 := if seR n sp kg ft ra rf nr x a b = true then (if n + 2 ≤ 60 then nI n else -2) else -1
def seK (n : Nat) (kg : Nat → Int64) (k f e c : Int64) : Nat → Int64 := vp_updL (vp_updL kg n (crF k f e c)) (n + 1) (sqF k f e c)
def seF (n : Nat) (ft : Nat → Int64) (e c : Int64) : Nat → Int64 := vp_updL (vp_updL ft n c) (n + 1) e
def seS (n j : Nat) (so : Nat → Int64) (f e c : Int64) : Nat → Int64 := vp_updL (vp_updL so n (slF (so j) c f)) (n + 1) (slF (so j) e f)
def seL (sc : Nat) (lo : Nat → Int64) (k f e c : Int64) : Nat → Int64 := vp_updL lo sc (k - crF k f e c - sqF k f e c)
def yiR (n : Nat) (x kind part : Int32) : Bool := lotB n x && (inB kind.toInt64 0 2 && inB part.toInt64 0 2)
def yiA (n : Nat) (kg ft so : Nat → Int64) (x kind part : Int32) : Int64 :=
  if yiR n x kind part = true then (if part = nI 2 then (2000 * yaF (kg x.toNatClampNeg) (ft x.toNatClampNeg) (so x.toNatClampNeg) kind.toNatClampNeg + ybF kind.toNatClampNeg) / (2 * ybF kind.toNatClampNeg)
    else rpF (yaF (kg x.toNatClampNeg) (ft x.toNatClampNeg) (so x.toNatClampNeg) kind.toNatClampNeg).toInt.toNat (ybF kind.toNatClampNeg).toInt.toNat part) else -1
def lsA (sc : Nat) (lo : Nat → Int64) (x : Int32) : Int64 := if lotB sc x = true then lo x.toNatClampNeg else -1
def peY (np : Nat) (f c : Int64) : Bool := inB f 1 10000 && (inB c 1 10000 && decide (np < 10))
def mx0 (z : Int64) : Int64 := if z < 0 then 0 else z
def payS (fr ce k f s : Int64) : Int64 := if f < fr then mx0 (s - (ce * k + 99) / 100) else s
def payL (pf pc : Nat → Int64) (k f : Int64) : Nat → Nat → Int64 → Int64
  | 0, _, s => s
  | d + 1, i, s => payL pf pc k f d (i + 1) (payS (pf i) (pc i) k f s)
theorem payL_end {pf pc : Nat → Int64} {k f s : Int64} {n i : Nat} (h : n ≤ i) : payL pf pc k f (n - i) i s = s := by
  rw [show n - i = 0 by omega]; rfl
theorem payL_go {pf pc : Nat → Int64} {k f s : Int64} {n i : Nat} (h : i < n) : payL pf pc k f (n - i) i s = payL pf pc k f (n - (i + 1)) (i + 1) (payS (pf i) (pc i) k f s) := by
  rw [show n - i = (n - (i + 1)) + 1 by omega]; rfl
def pa0 (k f s : Int64) : Int64 := k * (4 * f + 3 * s) / 1000
def paA (n : Nat) (kg ft so pf pc : Nat → Int64) (np : Nat) (x : Int32) : Int64 :=
  if lotB n x = true then payL pf pc (kg x.toNatClampNeg) (ft x.toNatClampNeg) np 0 (pa0 (kg x.toNatClampNeg) (ft x.toNatClampNeg) (so x.toNatClampNeg)) else -1
def efR (w a b : Int64) : Bool := inB w 1 1000000 && !nP a b
theorem plF_p {cn : Nat → Nat} {nc x : Nat} (h : ¬ plF cn nc x = -1) : pl cn nc x < nc := by
  rcases Nat.lt_or_ge (pl cn nc x) nc with q | q
  · exact q
  · exact absurd (if_neg (Nat.not_lt.mpr q)) h
theorem nI_nm1 {k : Nat} (h : k < 2 ^ 31) : ¬ nI k = -1 := fun e => by
  have a := nI_toInt h
  rw [e] at a
  have b : (-1 : Int32).toInt = -1 := rfl
  omega
theorem pl_le (cn : Nat → Nat) (nc x : Nat) : pl cn nc x ≤ nc := fd_le _ _
theorem plF_n {cn : Nat → Nat} {nc x : Nat} (h : plF cn nc x = -1) (hn : nc ≤ 4 := by assumption) : ¬ pl cn nc x < nc := fun q => by
  unfold plF at h
  rw [if_pos q] at h
  exact nI_nm1 (by omega) h
def shR (n : Nat) (u : MixS) (x part : Int32) : Bool := u.2.2.2.2 && (lotB n x && inB part.toInt64 0 1)
def shA (n : Nat) (ml : Nat → Int32) (mn : Nat) (u : MixS) (x part : Int32) : Int64 := if shR n u x part = true then rpF (abF ml mn u.2.2.1 x).toInt.toNat u.2.2.2.1.toInt.toNat part else -1
def cpI (i : Nat) (f g : Nat → Int32) : Nat → Int32 := fun j => if j < i then f j else g j
theorem cpI_0 (f g : Nat → Int32) : cpI 0 f g = g := by funext j; unfold cpI; rw [if_neg (by omega)]
theorem cpI_step (f g : Nat → Int32) (i : Nat) : upd (cpI i f g) i (f i) = cpI (i + 1) f g := by
  funext j
  unfold upd cpI
  by_cases hj : j = i
  · rw [if_pos hj, if_pos (by omega), hj]
  · rw [if_neg hj]
    by_cases h1 : j < i
    · rw [if_pos h1, if_pos (by omega)]
    · rw [if_neg h1, if_neg (by omega)]
def stR (nc : Nat) (fa sa b : Int64) : Bool := !decide (nc = 0) && (!nP fa b && !nP sa b)
abbrev StO : Type := (Nat → Int32) × Nat × (Nat → Int64) × (Nat → Int64) × MixS
/-- the points of the chosen lots, and the wanted one behind them -/
def stF4 (nc : Nat) (cn : Nat → Nat) (ft mf : Nat → Int64) (w : Int64) : Nat → Int64 := vp_updL (cpy nc (fun ix => ft (cn ix)) mf) 4 w
def stV (nc : Nat) (cn : Nat → Nat) (ft so : Nat → Int64) (ml : Nat → Int32) (mf ms : Nat → Int64) (u : MixS) (fa sa b : Int64) : StO :=
  if stR nc fa sa b = true then (cpI nc (fun ix => nI (cn ix)) ml, nc, stF4 nc cn ft mf (wpF fa b), stF4 nc cn so ms (wpF sa b), s1F (stF4 nc cn ft mf (wpF fa b)) (stF4 nc cn so ms (wpF sa b)) nc nc 0 (fgF u))
  else (ml, 0, mf, ms, fgF u)
def stA (r m : Bool) : Int32 := if r = true then (if m = true then nI 0 else nI 1) else -1
theorem ge1_ne {b : Int64} (h : 1 ≤ b) : ¬ b = 0 := fun e => by subst e; revert h; decide
theorem wp_no {a b : Int64} (h1 : 1 ≤ b) (h2 : b ≤ 10000) (h3 : 0 ≤ a) (h4 : a ≤ b) (h5 : ¬ a * 10000 - a * 10000 / b * b = 0) : wpF a b = -1 := by
  unfold wpF inB
  rw [decide_eq_true h1, decide_eq_true h2, decide_eq_true h3, decide_eq_true h4, if_neg h5]
  rfl
theorem wp_yes {a b : Int64} (h1 : 1 ≤ b) (h2 : b ≤ 10000) (h3 : 0 ≤ a) (h4 : a ≤ b) (h5 : a * 10000 - a * 10000 / b * b = 0) : wpF a b = a * 10000 / b := by
  unfold wpF inB
  rw [decide_eq_true h1, decide_eq_true h2, decide_eq_true h3, decide_eq_true h4, if_pos h5]
  rfl
theorem wp_lt {a b : Int64} (h : wpF a b < 0) : wpF a b = -1 := by
  rcases wpF_rng a b with q | ⟨v, hv, q⟩
  · exact q
  · rw [q] at h
    exact absurd ((pk_lLT (b := 0) (by omega) (by decide)).mp h) (Nat.not_lt_zero v)
theorem wp_ge {a b : Int64} (h : 0 ≤ wpF a b) : ¬ wpF a b = -1 := fun q => by
  rw [q] at h
  revert h
  decide
theorem upd_same {f : Nat → Int32} {k : Nat} {x : Int32} (h : f k = x) : upd f k x = f := by
  funext j
  unfold upd
  by_cases hj : j = k
  · rw [if_pos hj, hj, h]
  · rw [if_neg hj]
theorem pe_f3 {np : Nat} {fr ce : Int64} (h1 : 1 ≤ fr) (h2 : fr ≤ 10000) (h3 : ce < 1) : peY np fr ce = false := by
  unfold peY inB
  rw [decide_eq_true h1, decide_eq_true h2, decide_eq_false (Int64.not_le.mpr h3)]; rfl
theorem pe_f4 {np : Nat} {fr ce : Int64} (h1 : 1 ≤ fr) (h2 : fr ≤ 10000) (h3 : 1 ≤ ce) (h4 : 10000 < ce) : peY np fr ce = false := by
  unfold peY inB
  rw [decide_eq_true h1, decide_eq_true h2, decide_eq_true h3, decide_eq_false (Int64.not_le.mpr h4)]; rfl
theorem pe_f5 {np : Nat} {fr ce : Int64} (h1 : 1 ≤ fr) (h2 : fr ≤ 10000) (h3 : 1 ≤ ce) (h4 : ce ≤ 10000) (h5 : np = 10) : peY np fr ce = false := by
  unfold peY inB
  rw [decide_eq_true h1, decide_eq_true h2, decide_eq_true h3, decide_eq_true h4, decide_eq_false (by omega)]; rfl
theorem pe_t {np : Nat} {fr ce : Int64} (h1 : 1 ≤ fr) (h2 : fr ≤ 10000) (h3 : 1 ≤ ce) (h4 : ce ≤ 10000) (h5 : np < 10) : peY np fr ce = true := by
  unfold peY inB
  rw [decide_eq_true h1, decide_eq_true h2, decide_eq_true h3, decide_eq_true h4, decide_eq_true h5]; rfl
theorem le0_of {x : Int64} (h : 0 ≤ x.toInt) : 0 ≤ x := Int64.le_iff_toInt_le.mpr (by have e : (0 : Int64).toInt = 0 := rfl; omega)
theorem l_sub_0 (v : Int64) : v - 0 = v := Int64.toInt_inj.mp (by simp)
theorem pay1 {fr ce k f v : Int64} (h : f < fr) (h2 : v - (ce * k + 99) / 100 < 0) : payS fr ce k f v = 0 := by
  unfold payS mx0
  rw [if_pos h, if_pos h2]
theorem pay2 {fr ce k f v : Int64} (h : f < fr) (h2 : 0 ≤ v - (ce * k + 99) / 100) : payS fr ce k f v = v - (ce * k + 99) / 100 := by
  unfold payS mx0
  rw [if_pos h, if_neg (Int64.not_lt.mpr h2)]
theorem pay3 {fr ce k f v : Int64} (h0 : 0 ≤ v) (h : fr ≤ f) (h2 : v - 0 < 0) : payS fr ce k f v = 0 := by
  rw [l_sub_0] at h2
  exact absurd h2 (Int64.not_lt.mpr h0)
theorem pay4 {fr ce k f v : Int64} (h : fr ≤ f) (_ : 0 ≤ v - 0) : payS fr ce k f v = v - 0 := by
  unfold payS
  rw [if_neg (Int64.not_lt.mpr h), l_sub_0]
