/-! A standard: both sides end with the same fractions. -/
theorem st_t {nc : Nat} {cn : Nat → Nat} {ft mf : Nat → Int64} {w : Int64} (hnc : nc ≤ 4) {t : Nat} (ht : t < nc) : stF4 nc cn ft mf w t = ft (cn t) := by
  unfold stF4
  rw [updL_n (by omega), cpy_in ht]
theorem st_4 {nc : Nat} {cn : Nat → Nat} {ft mf : Nat → Int64} {w : Int64} : stF4 nc cn ft mf w 4 = w := by
  unfold stF4
  rw [updL_s]
theorem cpI_in {i t : Nat} {f g : Nat → Int32} (h : t < i) : cpI i f g t = f t := if_pos h
section LI3
variable {n sc np nc nr : Nat} {kg ft so : Nat → Int64} {sp : Nat → Int32} {cn : Nat → Nat} {ra rf : Nat → Int64}
theorem lm_std (h : LInv n sc np nc nr kg ft so sp cn ra rf) {ml ml2 : Nat → Int32} {mn mc : Nat} {mf ms : Nat → Int64} {u : MixS} {v : ModS} (hM : LMix ml mn u ml2 mc v) (fa sa b : Int64) :
    LMix (stV nc cn ft so ml mf ms u fa sa b).1 (stV nc cn ft so ml mf ms u fa sa b).2.1 (stV nc cn ft so ml mf ms u fa sa b).2.2.2.2 (rsV nc cn ft so ml2 mc v fa sa b).1 (rsV nc cn ft so ml2 mc v fa sa b).2.1 (rsV nc cn ft so ml2 mc v fa sa b).2.2 := by
  obtain ⟨⟨h1, h2, h3, h4, h5⟩, h6, h7, h8, h9, h10, h11⟩ := h
  unfold stV rsV
  by_cases hR : stR nc fa sa b = true
  · rw [if_pos hR, if_pos hR]
    have hR2 := hR
    unfold stR nP at hR2
    simp only [Bool.and_eq_true, Bool.not_eq_true', decide_eq_false_iff_not] at hR2
    obtain ⟨hn0, hf, hg⟩ := hR2
    have wf := wpF_le hf
    have wg := wpF_le hg
    have hX : bnd nc (stF4 nc cn ft mf (wpF fa b)) (fun t => (stF4 nc cn ft mf (wpF fa b) t).toInt) := fun t ht => by
      refine ⟨rfl, ?_⟩
      show 0 ≤ (stF4 nc cn ft mf (wpF fa b) t).toInt ∧ (stF4 nc cn ft mf (wpF fa b) t).toInt ≤ 10000
      rcases ht with q | q
      · rw [st_t h4 q]
        have := h6 (cn t) (h8 t q)
        omega
      · rw [q, st_4]; omega
    have hY : bnd nc (stF4 nc cn so ms (wpF sa b)) (fun t => (stF4 nc cn so ms (wpF sa b) t).toInt) := fun t ht => by
      refine ⟨rfl, ?_⟩
      show 0 ≤ (stF4 nc cn so ms (wpF sa b) t).toInt ∧ (stF4 nc cn so ms (wpF sa b) t).toInt ≤ 10000
      rcases ht with q | q
      · rw [st_t h4 q]
        have := h6 (cn t) (h8 t q)
        omega
      · rw [q, st_4]; omega
    have hX2 : bnd2 nc (fun t => ft (cn t)) (wpF fa b) (fun t => (stF4 nc cn ft mf (wpF fa b) t).toInt) :=
      ⟨fun t ht => ⟨by show (stF4 nc cn ft mf (wpF fa b) t).toInt = _; rw [st_t h4 ht], (hX t (Or.inl ht)).2⟩, by show (stF4 nc cn ft mf (wpF fa b) 4).toInt = _; rw [st_4], (hX 4 (Or.inr rfl)).2⟩
    have hY2 : bnd2 nc (fun t => so (cn t)) (wpF sa b) (fun t => (stF4 nc cn so ms (wpF sa b) t).toInt) :=
      ⟨fun t ht => ⟨by show (stF4 nc cn so ms (wpF sa b) t).toInt = _; rw [st_t h4 ht], (hY t (Or.inl ht)).2⟩, by show (stF4 nc cn so ms (wpF sa b) 4).toInt = _; rw [st_4], (hY 4 (Or.inr rfl)).2⟩
    generalize (fun t => (stF4 nc cn ft mf (wpF fa b) t).toInt) = X at *
    generalize (fun t => (stF4 nc cn so ms (wpF sa b) t).toInt) = Y at *
    have r1 : RepM nc (s1F (stF4 nc cn ft mf (wpF fa b)) (stF4 nc cn so ms (wpF sa b)) nc nc 0 (fgF u)) (SX nc X Y) :=
      rep_iff (s1_rep h4 hX hY nc 0 (fgF u) (fun _ => False) (by omega) ⟨fun _ _ q => q, fun q => absurd (show false = true from q) (by decide)⟩) (fun c => ⟨fun q => q.elim False.elim (fun ⟨i, _, h2, h3⟩ => ⟨i, h2, h3⟩), fun ⟨i, h2, h3⟩ => Or.inr ⟨i, Nat.zero_le i, h2, h3⟩⟩)
    have r2 : RepN nc (r1F (fun t => ft (cn t)) (fun t => so (cn t)) (wpF fa b) (wpF sa b) nc nc 0 (mfF v)) (SX nc X Y) :=
      rep_iff (r1_rep h4 hX2 hY2 nc 0 (mfF v) (fun _ => False) (by omega) ⟨fun _ _ q => q, fun q => absurd (show false = true from q) (by decide)⟩) (fun c => Iff.trans ⟨fun q => q.elim False.elim (fun ⟨i, _, h2, h3⟩ => ⟨i, h2, h3⟩), fun ⟨i, h2, h3⟩ => Or.inr ⟨i, Nat.zero_le i, h2, h3⟩⟩ (SX_SR nc X Y c).symm)
    obtain ⟨em, hv⟩ := rep_eq r1 r2
    refine ⟨h4, h4, em, fun hm => ?_⟩
    obtain ⟨o1, o2, ev⟩ := hv hm
    refine ⟨rfl, fun j hj => ?_, fun j hj => ?_, ?_, ?_⟩
    · show cpI nc (fun ix => nI (cn ix)) ml j = cpI nc (fun ix => nI (cn ix)) ml2 j
      rw [cpI_in hj, cpI_in hj]
    · exact ⟨(o1.2 j hj).1, (o2.2 j hj).1, (q_eq o1.1.1 o2.1.1).mp (ev j hj)⟩
    · exact ⟨o1.1.1, Int.lt_of_le_of_lt o1.1.2 (by decide)⟩
    · exact ⟨o2.1.1, Int.lt_of_le_of_lt o2.1.2 (by decide)⟩
  · rw [if_neg hR, if_neg hR]
    exact ⟨Nat.zero_le _, hM.2.1, rfl, fun q => absurd q (by show ¬ false = true; decide)⟩
end LI3
