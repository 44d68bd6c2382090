/-! The reference's search. -/
def alF (x u w : Int64) : Int64 := if x = 0 then w else u
def wdF (x y : Int64) : Int64 := if x = 0 then y else x
def ngF (w z : Int64) : Int64 := if w < 0 then -z else z
def b2A (px py : Nat → Int64) (f g : Int64) (i j : Nat) : Int64 := ngF (wdF (px j - px i) (py j - py i)) (alF (px j - px i) (f - px i) (g - py i))
def b2W (px py : Nat → Int64) (i j : Nat) : Int64 := ngF (wdF (px j - px i) (py j - py i)) (wdF (px j - px i) (py j - py i))
def m1F (px py : Nat → Int64) (f g : Int64) (nc i : Nat) (v : ModS) : ModS :=
  if px i = f ∧ py i = g then tkF nc 1 (msF (mzF v) i 1) else v
def m2F (px py : Nat → Int64) (f g : Int64) (nc i j : Nat) (v : ModS) : ModS :=
  if b2W px py i j = 0 ∨ ¬ (px j - px i) * (g - py i) - (py j - py i) * (f - px i) = 0 ∨ b2A px py f g i j ≤ 0 ∨ b2W px py i j ≤ b2A px py f g i j then v
  else tkF nc (b2W px py i j) (msF (msF (mzF v) j (b2A px py f g i j)) i (b2W px py i j - b2A px py f g i j))
def b3D (px py : Nat → Int64) (i j k : Nat) : Int64 := (px j - px i) * (py k - py i) - (py j - py i) * (px k - px i)
def b3O (px py : Nat → Int64) (f g : Int64) (i k : Nat) : Int64 := (f - px i) * (py k - py i) - (g - py i) * (px k - px i)
def b3T (px py : Nat → Int64) (f g : Int64) (i j : Nat) : Int64 := (px j - px i) * (g - py i) - (py j - py i) * (f - px i)
def m3F (px py : Nat → Int64) (f g : Int64) (nc i j k : Nat) (v : ModS) : ModS :=
  if ngF (b3D px py i j k) (b3D px py i j k) = 0 ∨ ngF (b3D px py i j k) (b3O px py f g i k) ≤ 0 ∨ ngF (b3D px py i j k) (b3T px py f g i j) ≤ 0 ∨ ngF (b3D px py i j k) (b3D px py i j k) ≤ ngF (b3D px py i j k) (b3O px py f g i k) + ngF (b3D px py i j k) (b3T px py f g i j) then v
  else tkF nc (ngF (b3D px py i j k) (b3D px py i j k)) (msF (msF (msF (mzF v) j (ngF (b3D px py i j k) (b3O px py f g i k))) k (ngF (b3D px py i j k) (b3T px py f g i j))) i (ngF (b3D px py i j k) (b3D px py i j k) - ngF (b3D px py i j k) (b3O px py f g i k) - ngF (b3D px py i j k) (b3T px py f g i j)))
def r3F (px py : Nat → Int64) (f g : Int64) (n i j : Nat) : Nat → Nat → ModS → ModS
  | 0, _, u => u
  | d + 1, k, u => r3F px py f g n i j d (k + 1) (m3F px py f g n i j k u)
def r2F (px py : Nat → Int64) (f g : Int64) (n i : Nat) : Nat → Nat → ModS → ModS
  | 0, _, u => u
  | d + 1, j, u => r2F px py f g n i d (j + 1) (r3F px py f g n i j (n - (j + 1)) (j + 1) (m2F px py f g n i j u))
def r1F (px py : Nat → Int64) (f g : Int64) (n : Nat) : Nat → Nat → ModS → ModS
  | 0, _, u => u
  | d + 1, i, u => r1F px py f g n d (i + 1) (r2F px py f g n i (n - (i + 1)) (i + 1) (m1F px py f g n i u))
section RF
variable {px py : Nat → Int64} {f g : Int64} {n i j k : Nat} {u : ModS}
theorem r3F_end (h : n ≤ k) : r3F px py f g n i j (n - k) k u = u := by
  rw [show n - k = 0 by omega]; rfl
theorem r3F_go (h : k < n) : r3F px py f g n i j (n - k) k u = r3F px py f g n i j (n - (k + 1)) (k + 1) (m3F px py f g n i j k u) := by
  rw [show n - k = (n - (k + 1)) + 1 by omega]; rfl
theorem r2F_end (h : n ≤ j) : r2F px py f g n i (n - j) j u = u := by
  rw [show n - j = 0 by omega]; rfl
theorem r2F_go (h : j < n) : r2F px py f g n i (n - j) j u = r2F px py f g n i (n - (j + 1)) (j + 1) (r3F px py f g n i j (n - (j + 1)) (j + 1) (m2F px py f g n i j u)) := by
  rw [show n - j = (n - (j + 1)) + 1 by omega]; rfl
theorem r1F_end (h : n ≤ i) : r1F px py f g n (n - i) i u = u := by
  rw [show n - i = 0 by omega]; rfl
theorem r1F_go (h : i < n) : r1F px py f g n (n - i) i u = r1F px py f g n (n - (i + 1)) (i + 1) (r2F px py f g n i (n - (i + 1)) (i + 1) (m1F px py f g n i u)) := by
  rw [show n - i = (n - (i + 1)) + 1 by omega]; rfl
end RF
def mfF (v : ModS) : ModS := (v.1, v.2.1, v.2.2.1, false)
abbrev StM : Type := (Nat → Int32) × Nat × ModS
def rsV (nc : Nat) (cn : Nat → Nat) (ft so : Nat → Int64) (ml : Nat → Int32) (mc : Nat) (v : ModS) (fa sa b : Int64) : StM :=
  if stR nc fa sa b = true then (cpI nc (fun ix => nI (cn ix)) ml, nc, r1F (fun t => ft (cn t)) (fun t => so (cn t)) (wpF fa b) (wpF sa b) nc nc 0 (mfF v))
  else (ml, mc, mfF v)
