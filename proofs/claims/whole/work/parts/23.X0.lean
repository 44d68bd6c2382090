/-- X_isWithin -/
abbrev q_X_isWithin (dC : Nat → ClassId) (dI : Nat → Nat → Nat) (cJ cI cZ : ClassId) (x : Int64) (a : Int64) (b : Int64) (A : Nat → Prop) : Array Value → State → Outcome → State → Prop := va_Qi (fun (r : Int32) (_ : Unit) => r = zI (inB x a b)) (kB (dC, dI) vwCl [(cJ, .long), (cI, .int), (cZ, .boolean)] A (fun (_ : Unit) => [])) A
set_option maxHeartbeats 4000000 in
set_option maxRecDepth 100000 in
theorem k_X_isWithin (l : Launch) (dC : Nat → ClassId) (dI : Nat → Nat → Nat) (cJ cI cZ : ClassId) (sz : Nat) (x : Int64) (a : Int64) (b : Int64)  : Met l y_X_isWithin w_X_isWithin { frames := 0, cells := 0, slots := 0, locals := 0 } (kPc (dC, dI) vwCl [(cJ, .long), (cI, .int), (cZ, .boolean)] [] sz [.long x, .long a, .long b]) (q_X_isWithin dC dI cJ cI cZ x a b (va_A [] sz)) 0 0 (va_A [] sz) := by
  refine k_met (q_X_isWithin dC dI cJ cI cZ x a b) (by decide +kernel) rfl (Nat.le_of_ble_eq_true rfl) ?_
  intro p e s m below meth c A hx hb hr hml hown hts hlocks hin hA H hP hK hD hS ls hl
  have hl : lv_has ls 6 [(0, .long x), (2, .long a), (4, .long b)] := hl
  have hown : s.vm.findClass R_X = some m.cls := hown
  have hts : ∀ wW ∈ kT, wW.before [.long x, .long a, .long b].toArray s = true := fun wW hW => hts wW (List.mem_cons_of_mem _ hW)
  refine lv_lload_n hx hb d_X_isWithin_0 rfl (lv_at hl 0 rfl) ?_
  refine lv_lload_n hx hb d_X_isWithin_1 rfl (lv_at hl 1 rfl) ?_
  refine k_jlt (tgt := 17) hx hb d_X_isWithin_2 d_X_isWithin_3 (by decide) (fun c_2 => ?_) (fun c_2 => ?_)
  · refine lv_iconst (v := nI 0) hx hb d_X_isWithin_17 (by decide) ?_
    exact k_zret (v := nI 0) hx hb hr hlocks rfl () (by first | (unfold inB; rw [decide_eq_true c_2, decide_eq_true c_9]; rfl) | (unfold inB; rw [decide_eq_true c_2, decide_eq_false (Int64.not_le.mpr c_9)]; rfl) | (unfold inB; rw [decide_eq_false (Int64.not_le.mpr c_2)]; rfl)) hP hD hK hS [] (by decide) rfl d_X_isWithin_18
  · refine lv_lload_n hx hb d_X_isWithin_6 rfl (lv_at hl 0 rfl) ?_
    refine lv_lload hx hb d_X_isWithin_7 (lv_at hl 2 rfl) ?_
    refine k_jgt (tgt := 17) hx hb d_X_isWithin_9 d_X_isWithin_10 (by decide) (fun c_9 => ?_) (fun c_9 => ?_)
    · refine lv_iconst (v := nI 0) hx hb d_X_isWithin_17 (by decide) ?_
      exact k_zret (v := nI 0) hx hb hr hlocks rfl () (by first | (unfold inB; rw [decide_eq_true c_2, decide_eq_true c_9]; rfl) | (unfold inB; rw [decide_eq_true c_2, decide_eq_false (Int64.not_le.mpr c_9)]; rfl) | (unfold inB; rw [decide_eq_false (Int64.not_le.mpr c_2)]; rfl)) hP hD hK hS [] (by decide) rfl d_X_isWithin_18
    · refine lv_iconst (v := nI 1) hx hb d_X_isWithin_13 (by decide) ?_
      refine lv_goto (tgt := 18) hx hb d_X_isWithin_14 (by decide) ?_
      exact k_zret (v := nI 1) hx hb hr hlocks rfl () (by first | (unfold inB; rw [decide_eq_true c_2, decide_eq_true c_9]; rfl) | (unfold inB; rw [decide_eq_true c_2, decide_eq_false (Int64.not_le.mpr c_9)]; rfl) | (unfold inB; rw [decide_eq_false (Int64.not_le.mpr c_2)]; rfl)) hP hD hK hS [] (by decide) rfl d_X_isWithin_18
/-- X_wholeParts -/
abbrev q_X_wholeParts (dC : Nat → ClassId) (dI : Nat → Nat → Nat) (cJ cI cZ : ClassId) (a : Int64) (b : Int64) (A : Nat → Prop) : Array Value → State → Outcome → State → Prop := va_Ql (fun (r : Int64) (_ : Unit) => r = wpF a b) (kB (dC, dI) vwCl [(cJ, .long), (cI, .int), (cZ, .boolean)] A (fun (_ : Unit) => [])) A
set_option maxHeartbeats 4000000 in
set_option maxRecDepth 100000 in
theorem k_X_wholeParts (l : Launch) (dC : Nat → ClassId) (dI : Nat → Nat → Nat) (cJ cI cZ : ClassId) (sz : Nat) (a : Int64) (b : Int64)  : Met l y_X_wholeParts w_X_wholeParts { frames := 1, cells := 0, slots := 0, locals := 25 } (kPc (dC, dI) vwCl [(cJ, .long), (cI, .int), (cZ, .boolean)] [] sz [.long a, .long b]) (q_X_wholeParts dC dI cJ cI cZ a b (va_A [] sz)) 0 0 (va_A [] sz) := by
  refine k_met (q_X_wholeParts dC dI cJ cI cZ a b) (by decide +kernel) rfl (Nat.le_of_ble_eq_true rfl) ?_
  intro p e s m below meth c A hx hb hr hml hown hts hlocks hin hA H hP hK hD hS ls hl
  have hl : lv_has ls 6 [(0, .long a), (2, .long b)] := hl
  have hown : s.vm.findClass R_X = some m.cls := hown
  have hts : ∀ wW ∈ kT, wW.before [.long a, .long b].toArray s = true := fun wW hW => hts wW (List.mem_cons_of_mem _ hW)
  refine lv_lload_n hx hb d_X_wholeParts_0 rfl (lv_at hl 1 rfl) ?_
  refine lv_lconst (v := 1) hx hb d_X_wholeParts_1 (by decide) ?_
  refine lv_ldc2 (v := 10000) hx hb hown (hts _ wd_57) d_X_wholeParts_2 ?_
  refine k_calli (wr := []) (va_runS (As := [.long b, .long 1, .long 10000]) (rest := []) ⟨hx, hb, hml, hown, hts⟩ (k_X_isWithin l dC dI cJ cI cZ _ b 1 10000) (k_cs (y := y_X_isWithin) (own := R_X) hts wd_58 wd_46 wd_51 wd_50 hd_X_isWithin ⟨Nat.le_of_ble_eq_true rfl, Nat.le_of_ble_eq_true rfl⟩) (k_preS hP hD hK [] rfl (by decide)) rfl rfl hl.1 rfl (lv_room (Nat.le_of_ble_eq_true rfl)) d_X_wholeParts_5 ⟨Nat.le_of_ble_eq_true rfl, Nat.le_of_ble_eq_true rfl⟩) hP hD hS hA [] [] rfl rfl (by decide) (by decide) (fun r_5 uu H locs hpo hP hD hS => ?_)
  have hpo : r_5 = zI (inB b 1 10000) := hpo
  subst hpo
  have hP : va_P (dC, dI) vwCl [] H := hP
  have hD : va_D A [] := hD
  refine k_zeq (tgt := 20) hx hb d_X_wholeParts_8 (by decide) (fun c_8 => ?_) (fun c_8 => ?_)
  · refine lv_ldc2 (v := (-1)) hx hb hown (hts _ wd_52) d_X_wholeParts_20 ?_
    exact k_lret (v := (-1)) hx hb hr hlocks () (by first | (unfold wpF; rw [c_8]; rfl) | (unfold wpF; rw [c_8, c_17]; rfl)) hP hD hK hS [] (by decide) rfl d_X_wholeParts_23
  · refine lv_lload_n hx hb d_X_wholeParts_11 rfl (lv_at hl 0 rfl) ?_
    refine lv_lconst (v := 0) hx hb d_X_wholeParts_12 (by decide) ?_
    refine lv_lload_n hx hb d_X_wholeParts_13 rfl (lv_at hl 1 rfl) ?_
    refine k_calli (wr := []) (va_runS (As := [.long a, .long 0, .long b]) (rest := []) ⟨hx, hb, hml, hown, hts⟩ (k_X_isWithin l dC dI cJ cI cZ _ a 0 b) (k_cs (y := y_X_isWithin) (own := R_X) hts wd_58 wd_46 wd_51 wd_50 hd_X_isWithin ⟨Nat.le_of_ble_eq_true rfl, Nat.le_of_ble_eq_true rfl⟩) (k_preS hP hD hK [] rfl (by decide)) rfl rfl hl.1 rfl (lv_room (Nat.le_of_ble_eq_true rfl)) d_X_wholeParts_14 ⟨Nat.le_of_ble_eq_true rfl, Nat.le_of_ble_eq_true rfl⟩) hP hD hS hA [] [] rfl rfl (by decide) (by decide) (fun r_14 uu H locs hpo hP hD hS => ?_)
    have hpo : r_14 = zI (inB a 0 b) := hpo
    subst hpo
    have hP : va_P (dC, dI) vwCl [] H := hP
    have hD : va_D A [] := hD
    refine k_zne (tgt := 24) hx hb d_X_wholeParts_17 (by decide) (fun c_17 => ?_) (fun c_17 => ?_)
    · refine lv_lload_n hx hb d_X_wholeParts_24 rfl (lv_at hl 0 rfl) ?_
      refine lv_ldc2 (v := 10000) hx hb hown (hts _ wd_57) d_X_wholeParts_25 ?_
      refine lv_lmul hx hb d_X_wholeParts_28 ?_
      refine lv_lstore (lv' := [(4, .long (a * 10000)), (0, .long a), (2, .long b)]) hx hb d_X_wholeParts_29 hl (by decide) rfl (fun ls hl => ?_)
      refine lv_lload hx hb d_X_wholeParts_31 (lv_at hl 0 rfl) ?_
      refine lv_lload_n hx hb d_X_wholeParts_33 rfl (lv_at hl 2 rfl) ?_
      refine lv_lrem hx hb d_X_wholeParts_34 (inB_ne c_8) ?_
      refine lv_lconst (v := 0) hx hb d_X_wholeParts_35 (by decide) ?_
      refine k_jne (tgt := 47) hx hb d_X_wholeParts_36 d_X_wholeParts_37 (by decide) (fun c_36 => ?_) (fun c_36 => ?_)
      · refine lv_ldc2 (v := (-1)) hx hb hown (hts _ wd_52) d_X_wholeParts_47 ?_
        exact k_lret (v := (-1)) hx hb hr hlocks () (by first | (unfold wpF; rw [c_8, c_17, if_pos (show (true && true) = true from rfl), if_pos c_36]; done) | (unfold wpF; rw [c_8, c_17, if_pos (show (true && true) = true from rfl), if_neg c_36]; done)) hP hD hK hS [] (by decide) rfl d_X_wholeParts_50
      · refine lv_lload hx hb d_X_wholeParts_40 (lv_at hl 0 rfl) ?_
        refine lv_lload_n hx hb d_X_wholeParts_42 rfl (lv_at hl 2 rfl) ?_
        refine lv_ldiv hx hb d_X_wholeParts_43 (inB_ne c_8) ?_
        refine lv_goto (tgt := 50) hx hb d_X_wholeParts_44 (by decide) ?_
        exact k_lret (v := (a * 10000) / b) hx hb hr hlocks () (by first | (unfold wpF; rw [c_8, c_17, if_pos (show (true && true) = true from rfl), if_pos c_36]; done) | (unfold wpF; rw [c_8, c_17, if_pos (show (true && true) = true from rfl), if_neg c_36]; done)) hP hD hK hS [] (by decide) rfl d_X_wholeParts_50
    · refine lv_ldc2 (v := (-1)) hx hb hown (hts _ wd_52) d_X_wholeParts_20 ?_
      exact k_lret (v := (-1)) hx hb hr hlocks () (by first | (unfold wpF; rw [c_8]; rfl) | (unfold wpF; rw [c_8, c_17]; rfl)) hP hD hK hS [] (by decide) rfl d_X_wholeParts_23
/-- X_hundredthsRoundedUp -/
abbrev q_X_hundredthsRoundedUp (dC : Nat → ClassId) (dI : Nat → Nat → Nat) (cJ cI cZ : ClassId) (x : Int64) (A : Nat → Prop) : Array Value → State → Outcome → State → Prop := va_Ql (fun (r : Int64) (_ : Unit) => r = (x + 99) / 100) (kB (dC, dI) vwCl [(cJ, .long), (cI, .int), (cZ, .boolean)] A (fun (_ : Unit) => [])) A
set_option maxHeartbeats 4000000 in
set_option maxRecDepth 100000 in
theorem k_X_hundredthsRoundedUp (l : Launch) (dC : Nat → ClassId) (dI : Nat → Nat → Nat) (cJ cI cZ : ClassId) (sz : Nat) (x : Int64)  : Met l y_X_hundredthsRoundedUp w_X_hundredthsRoundedUp { frames := 0, cells := 0, slots := 0, locals := 0 } (kPc (dC, dI) vwCl [(cJ, .long), (cI, .int), (cZ, .boolean)] [] sz [.long x]) (q_X_hundredthsRoundedUp dC dI cJ cI cZ x (va_A [] sz)) 0 0 (va_A [] sz) := by
  refine k_met (q_X_hundredthsRoundedUp dC dI cJ cI cZ x) (by decide +kernel) rfl (Nat.le_of_ble_eq_true rfl) ?_
  intro p e s m below meth c A hx hb hr hml hown hts hlocks hin hA H hP hK hD hS ls hl
  have hl : lv_has ls 2 [(0, .long x)] := hl
  have hown : s.vm.findClass R_X = some m.cls := hown
  have hts : ∀ wW ∈ kT, wW.before [.long x].toArray s = true := fun wW hW => hts wW (List.mem_cons_of_mem _ hW)
  refine lv_lload_n hx hb d_X_hundredthsRoundedUp_0 rfl (lv_at hl 0 rfl) ?_
  refine lv_ldc2 (v := 99) hx hb hown (hts _ wd_199) d_X_hundredthsRoundedUp_1 ?_
  refine lv_ladd hx hb d_X_hundredthsRoundedUp_4 ?_
  refine lv_ldc2 (v := 100) hx hb hown (hts _ wd_200) d_X_hundredthsRoundedUp_5 ?_
  refine lv_ldiv hx hb d_X_hundredthsRoundedUp_8 (by decide) ?_
  exact k_lret (v := (x + 99) / 100) hx hb hr hlocks () rfl hP hD hK hS [] (by decide) rfl d_X_hundredthsRoundedUp_9
/-- X_gramsOf -/
abbrev q_X_gramsOf (dC : Nat → ClassId) (dI : Nat → Nat → Nat) (cJ cI cZ : ClassId) (a : Int64) (b : Int64) (A : Nat → Prop) : Array Value → State → Outcome → State → Prop := va_Ql (fun (r : Int64) (_ : Unit) => r = (2000 * a + b) / (2 * b)) (kB (dC, dI) vwCl [(cJ, .long), (cI, .int), (cZ, .boolean)] A (fun (_ : Unit) => [])) A
set_option maxHeartbeats 4000000 in
set_option maxRecDepth 100000 in
theorem k_X_gramsOf (l : Launch) (dC : Nat → ClassId) (dI : Nat → Nat → Nat) (cJ cI cZ : ClassId) (sz : Nat) (a : Int64) (b : Int64) (hb9 : ¬ 2 * b = 0) : Met l y_X_gramsOf w_X_gramsOf { frames := 0, cells := 0, slots := 0, locals := 0 } (kPc (dC, dI) vwCl [(cJ, .long), (cI, .int), (cZ, .boolean)] [] sz [.long a, .long b]) (q_X_gramsOf dC dI cJ cI cZ a b (va_A [] sz)) 0 0 (va_A [] sz) := by
  refine k_met (q_X_gramsOf dC dI cJ cI cZ a b) (by decide +kernel) rfl (Nat.le_of_ble_eq_true rfl) ?_
  intro p e s m below meth c A hx hb hr hml hown hts hlocks hin hA H hP hK hD hS ls hl
  have hl : lv_has ls 4 [(0, .long a), (2, .long b)] := hl
  have hown : s.vm.findClass R_X = some m.cls := hown
  have hts : ∀ wW ∈ kT, wW.before [.long a, .long b].toArray s = true := fun wW hW => hts wW (List.mem_cons_of_mem _ hW)
  refine lv_ldc2 (v := 2000) hx hb hown (hts _ wd_189) d_X_gramsOf_0 ?_
  refine lv_lload_n hx hb d_X_gramsOf_3 rfl (lv_at hl 0 rfl) ?_
  refine lv_lmul hx hb d_X_gramsOf_4 ?_
  refine lv_lload_n hx hb d_X_gramsOf_5 rfl (lv_at hl 1 rfl) ?_
  refine lv_ladd hx hb d_X_gramsOf_6 ?_
  refine lv_ldc2 (v := 2) hx hb hown (hts _ wd_172) d_X_gramsOf_7 ?_
  refine lv_lload_n hx hb d_X_gramsOf_10 rfl (lv_at hl 1 rfl) ?_
  refine lv_lmul hx hb d_X_gramsOf_11 ?_
  refine lv_ldiv hx hb d_X_gramsOf_12 hb9 ?_
  exact k_lret (v := ((2000 * a) + b) / (2 * b)) hx hb hr hlocks () rfl hP hD hK hS [] (by decide) rfl d_X_gramsOf_13
/-- X_commonDivisor -/
abbrev q_X_commonDivisor (dC : Nat → ClassId) (dI : Nat → Nat → Nat) (cJ cI cZ : ClassId) (a : Nat) (b : Nat) (A : Nat → Prop) : Array Value → State → Outcome → State → Prop := va_Ql (fun (r : Int64) (_ : Unit) => r = lN (max 1 (Nat.gcd a b))) (kB (dC, dI) vwCl [(cJ, .long), (cI, .int), (cZ, .boolean)] A (fun (_ : Unit) => [])) A
set_option maxHeartbeats 4000000 in
set_option maxRecDepth 100000 in
theorem k_X_commonDivisor (l : Launch) (dC : Nat → ClassId) (dI : Nat → Nat → Nat) (cJ cI cZ : ClassId) (sz : Nat) (a : Nat) (b : Nat) (ha : a < 2 ^ 63) (hb9 : b < 2 ^ 50) : Met l y_X_commonDivisor w_X_commonDivisor { frames := 1, cells := 0, slots := 0, locals := 23 } (kPc (dC, dI) vwCl [(cJ, .long), (cI, .int), (cZ, .boolean)] [] sz [.long (lN a), .long (lN b)]) (q_X_commonDivisor dC dI cJ cI cZ a b (va_A [] sz)) 0 0 (va_A [] sz) := by
  refine k_met (q_X_commonDivisor dC dI cJ cI cZ a b) (by decide +kernel) rfl (Nat.le_of_ble_eq_true rfl) ?_
  intro p e s m below meth c A hx hb hr hml hown hts hlocks hin hA H hP hK hD hS ls hl
  have hl : lv_has ls 11 [(0, .long (lN a)), (2, .long (lN b))] := hl
  have hown : s.vm.findClass R_X = some m.cls := hown
  have hts : ∀ wW ∈ kT, wW.before [.long (lN a), .long (lN b)].toArray s = true := fun wW hW => hts wW (List.mem_cons_of_mem _ hW)
  refine lv_lload_n hx hb d_X_commonDivisor_0 rfl (lv_at hl 0 rfl) ?_
  refine lv_lstore (lv' := [(4, .long (lN a)), (0, .long (lN a)), (2, .long (lN b))]) hx hb d_X_commonDivisor_1 hl (by decide) rfl (fun ls hl => ?_)
  refine lv_lload_n hx hb d_X_commonDivisor_3 rfl (lv_at hl 2 rfl) ?_
  refine lv_lstore (lv' := [(6, .long (lN b)), (4, .long (lN a)), (0, .long (lN a)), (2, .long (lN b))]) hx hb d_X_commonDivisor_4 hl (by decide) rfl (fun ls hl => ?_)
  refine lv_iconst (v := nI 0) hx hb d_X_commonDivisor_6 (by decide) ?_
  refine lv_istore (lv' := [(8, .int (nI 0)), (6, .long (lN b)), (4, .long (lN a)), (0, .long (lN a)), (2, .long (lN b))]) hx hb d_X_commonDivisor_7 hl (by decide) rfl (fun ls hl => ?_)
  have loop_9 : ∀ (fu_9 : Nat) (P : Nat) (Q : Nat) (t : Nat) (hp : P < 2 ^ 63) (hq : Q < 2 ^ 63) (ht : t ≤ 100) (hg : Nat.gcd P Q = Nat.gcd a b) (hI : cdI P Q t) (hfu_9 : 101 ≤ t + fu_9) (H : Heap) (locs : List Loc) (ls : Array Slot), va_P (dC, dI) vwCl [] H → va_D A [] → va_S A s.heap H locs → lv_has ls 11 [(0, .long (lN a)), (2, .long (lN b)), (4, .long (lN P)), (6, .long (lN Q)), (8, .int (nI t))] → W p l e { frames := 1, cells := 0, slots := 0, locals := 23 } s m [.long (lN a), .long (lN b)].toArray below meth c H locs 0 0 (MQ below (q_X_commonDivisor dC dI cJ cI cZ a b A) [.long (lN a), .long (lN b)].toArray s 0 0 A) (F0 m 9 ls []) := by
    intro fu_9
    induction fu_9 with
    | zero =>
      intro P Q t hp hq ht hg hI hfu_9 H locs ls hP hD hS hl
      exact absurd hfu_9 (by omega)
    | succ fu_9 ih_9 =>
      intro P Q t hp hq ht hg hI hfu_9 H locs ls hP hD hS hl
      refine lv_iload hx hb d_X_commonDivisor_9 (lv_at hl 4 rfl) ?_
      refine lv_bipush (v := nI 100) hx hb d_X_commonDivisor_11 (by decide) ?_
      refine k_nge (tgt := 44) hx hb d_X_commonDivisor_13 (by decide) (by omega) (by omega) (fun c_13 => ?_) (fun c_13 => ?_)
      · refine lv_lconst (v := 1) hx hb d_X_commonDivisor_44 (by decide) ?_
        refine lv_lload hx hb d_X_commonDivisor_45 (lv_at hl 2 rfl) ?_
        refine va_mmax_long hx hb (hml.trans hl.1.symm) hown (hts _ wd_168) (hts _ wd_170) (hts _ wd_85) (hts _ wd_169) (Nat.le_of_ble_eq_true rfl) (Nat.le_of_ble_eq_true rfl) (Nat.le_of_ble_eq_true rfl) (Nat.le_of_ble_eq_true rfl) d_X_commonDivisor_47 ?_
        refine k_tol (y := lN (max 1 (Nat.gcd a b))) (by first | exact cd_end hp hg (cdI_q hI c_13) | exact cd_end hp hg (q_zero hq c_19)) ?_
        exact k_lret (v := lN (max 1 (Nat.gcd a b))) hx hb hr hlocks () rfl hP hD hK hS [] (by decide) rfl d_X_commonDivisor_50
      · refine lv_lload hx hb d_X_commonDivisor_16 (lv_at hl 3 rfl) ?_
        refine lv_lconst (v := 0) hx hb d_X_commonDivisor_18 (by decide) ?_
        refine k_jeq (tgt := 44) hx hb d_X_commonDivisor_19 d_X_commonDivisor_20 (by decide) (fun c_19 => ?_) (fun c_19 => ?_)
        · refine lv_lconst (v := 1) hx hb d_X_commonDivisor_44 (by decide) ?_
          refine lv_lload hx hb d_X_commonDivisor_45 (lv_at hl 2 rfl) ?_
          refine va_mmax_long hx hb (hml.trans hl.1.symm) hown (hts _ wd_168) (hts _ wd_170) (hts _ wd_85) (hts _ wd_169) (Nat.le_of_ble_eq_true rfl) (Nat.le_of_ble_eq_true rfl) (Nat.le_of_ble_eq_true rfl) (Nat.le_of_ble_eq_true rfl) d_X_commonDivisor_47 ?_
          refine k_tol (y := lN (max 1 (Nat.gcd a b))) (by first | exact cd_end hp hg (cdI_q hI c_13) | exact cd_end hp hg (q_zero hq c_19)) ?_
          exact k_lret (v := lN (max 1 (Nat.gcd a b))) hx hb hr hlocks () rfl hP hD hK hS [] (by decide) rfl d_X_commonDivisor_50
        · refine lv_lload hx hb d_X_commonDivisor_23 (lv_at hl 2 rfl) ?_
          refine lv_lload hx hb d_X_commonDivisor_25 (lv_at hl 3 rfl) ?_
          refine lv_lrem hx hb d_X_commonDivisor_27 c_19 ?_
          refine k_tol (y := lN (P % Q)) (pk_lRem hp (q_pos c_19) hq) ?_
          refine lv_lstore (lv' := [(9, .long (lN (P % Q))), (0, .long (lN a)), (2, .long (lN b)), (4, .long (lN P)), (6, .long (lN Q)), (8, .int (nI t))]) hx hb d_X_commonDivisor_28 hl (by decide) rfl (fun ls hl => ?_)
          refine lv_lload hx hb d_X_commonDivisor_30 (lv_at hl 4 rfl) ?_
          refine lv_lstore (lv' := [(4, .long (lN Q)), (9, .long (lN (P % Q))), (0, .long (lN a)), (2, .long (lN b)), (6, .long (lN Q)), (8, .int (nI t))]) hx hb d_X_commonDivisor_32 hl (by decide) rfl (fun ls hl => ?_)
          refine lv_lload hx hb d_X_commonDivisor_34 (lv_at hl 1 rfl) ?_
          refine lv_lstore (lv' := [(6, .long (lN (P % Q))), (4, .long (lN Q)), (9, .long (lN (P % Q))), (0, .long (lN a)), (2, .long (lN b)), (8, .int (nI t))]) hx hb d_X_commonDivisor_36 hl (by decide) rfl (fun ls hl => ?_)
          refine lv_iinc (v := nI (t + 1)) (lv' := [(8, .int (nI (t + 1))), (6, .long (lN (P % Q))), (4, .long (lN Q)), (9, .long (lN (P % Q))), (0, .long (lN a)), (2, .long (lN b))]) hx hb d_X_commonDivisor_38 hl (k := 5) rfl (nI_add t 1) (by decide) rfl (fun ls hl => ?_)
          refine lv_goto (tgt := 9) hx hb d_X_commonDivisor_41 (by decide) ?_
          exact ih_9 Q (P % Q) (t + 1) hq (Nat.lt_trans (Nat.mod_lt P (q_pos c_19)) hq) (by omega) ((gcd_step P Q).trans hg) (cdI_step hI (q_pos c_19) c_13) (by omega) _ _ _ hP hD hS (lv_sub hl [4, 5, 2, 1, 0] rfl)
  exact loop_9 101 a b 0 (by omega) (by omega) (by omega) rfl (cdI_0 hb9) (by omega) _ _ _ hP hD hS (lv_sub hl [3, 4, 2, 1, 0] rfl)
/-- X_reducedPart -/
abbrev q_X_reducedPart (dC : Nat → ClassId) (dI : Nat → Nat → Nat) (cJ cI cZ : ClassId) (a : Nat) (b : Nat) (part : Int32) (A : Nat → Prop) : Array Value → State → Outcome → State → Prop := va_Ql (fun (r : Int64) (_ : Unit) => r = rpF a b part) (kB (dC, dI) vwCl [(cJ, .long), (cI, .int), (cZ, .boolean)] A (fun (_ : Unit) => [])) A
set_option maxHeartbeats 4000000 in
set_option maxRecDepth 100000 in
theorem k_X_reducedPart (l : Launch) (dC : Nat → ClassId) (dI : Nat → Nat → Nat) (cJ cI cZ : ClassId) (sz : Nat) (a : Nat) (b : Nat) (part : Int32) (ha : a < 2 ^ 63) (hb9 : b < 2 ^ 50) (hg9 : max 1 (Nat.gcd a b) < 2 ^ 63) : Met l y_X_reducedPart w_X_reducedPart { frames := 2, cells := 0, slots := 0, locals := 53 } (kPc (dC, dI) vwCl [(cJ, .long), (cI, .int), (cZ, .boolean)] [] sz [.long (lN a), .long (lN b), .int part]) (q_X_reducedPart dC dI cJ cI cZ a b part (va_A [] sz)) 0 0 (va_A [] sz) := by
  refine k_met (q_X_reducedPart dC dI cJ cI cZ a b part) (by decide +kernel) rfl (Nat.le_of_ble_eq_true rfl) ?_
  intro p e s m below meth c A hx hb hr hml hown hts hlocks hin hA H hP hK hD hS ls hl
  have hl : lv_has ls 7 [(0, .long (lN a)), (2, .long (lN b)), (4, .int part)] := hl
  have hown : s.vm.findClass R_X = some m.cls := hown
  have hts : ∀ wW ∈ kT, wW.before [.long (lN a), .long (lN b), .int part].toArray s = true := fun wW hW => hts wW (List.mem_cons_of_mem _ hW)
  refine lv_lload_n hx hb d_X_reducedPart_0 rfl (lv_at hl 0 rfl) ?_
  refine lv_lload_n hx hb d_X_reducedPart_1 rfl (lv_at hl 1 rfl) ?_
  refine k_calll (wr := []) (va_runS (As := [.long (lN a), .long (lN b)]) (rest := []) ⟨hx, hb, hml, hown, hts⟩ (k_X_commonDivisor l dC dI cJ cI cZ _ a b (by omega) (by omega)) (k_cs (y := y_X_commonDivisor) (own := R_X) hts wd_167 wd_46 wd_166 wd_165 hd_X_commonDivisor ⟨Nat.le_of_ble_eq_true rfl, Nat.le_of_ble_eq_true rfl⟩) (k_preS hP hD hK [] rfl (by decide)) rfl rfl hl.1 rfl (lv_room (Nat.le_of_ble_eq_true rfl)) d_X_reducedPart_2 ⟨Nat.le_of_ble_eq_true rfl, Nat.le_of_ble_eq_true rfl⟩) hP hD hS hA [] [] rfl rfl (by decide) (by decide) (fun r_2 uu H locs hpo hP hD hS => ?_)
  have hpo : r_2 = lN (max 1 (Nat.gcd a b)) := hpo
  subst hpo
  have hP : va_P (dC, dI) vwCl [] H := hP
  have hD : va_D A [] := hD
  refine lv_lstore (lv' := [(5, .long (lN (max 1 (Nat.gcd a b)))), (0, .long (lN a)), (2, .long (lN b)), (4, .int part)]) hx hb d_X_reducedPart_5 hl (by decide) rfl (fun ls hl => ?_)
  refine lv_iload hx hb d_X_reducedPart_7 (lv_at hl 3 rfl) ?_
  refine lv_if_ne (tgt := 19) hx hb d_X_reducedPart_9 (by decide) (fun c_9 => ?_) (fun c_9 => ?_)
  · refine lv_lload_n hx hb d_X_reducedPart_19 rfl (lv_at hl 2 rfl) ?_
    refine lv_lload hx hb d_X_reducedPart_20 (lv_at hl 0 rfl) ?_
    refine lv_ldiv hx hb d_X_reducedPart_22 (lN_nz (by omega) hg9) ?_
    refine k_tol (y := lN (b / max 1 (Nat.gcd a b))) (pk_lDiv (by omega) (by omega) hg9) ?_
    exact k_lret (v := lN (b / max 1 (Nat.gcd a b))) hx hb hr hlocks () (by first | (unfold rpF; rw [if_pos c_9]; done) | (unfold rpF; rw [if_neg c_9]; done)) hP hD hK hS [] (by decide) rfl d_X_reducedPart_23
  · refine lv_lload_n hx hb d_X_reducedPart_12 rfl (lv_at hl 1 rfl) ?_
    refine lv_lload hx hb d_X_reducedPart_13 (lv_at hl 0 rfl) ?_
    refine lv_ldiv hx hb d_X_reducedPart_15 (lN_nz (by omega) hg9) ?_
    refine k_tol (y := lN (a / max 1 (Nat.gcd a b))) (pk_lDiv ha (by omega) hg9) ?_
    refine lv_goto (tgt := 23) hx hb d_X_reducedPart_16 (by decide) ?_
    exact k_lret (v := lN (a / max 1 (Nat.gcd a b))) hx hb hr hlocks () (by first | (unfold rpF; rw [if_pos c_9]; done) | (unfold rpF; rw [if_neg c_9]; done)) hP hD hK hS [] (by decide) rfl d_X_reducedPart_23
