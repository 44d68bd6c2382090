/-- Math.floorDiv of two longs -/
abbrev q_FD (dC : Nat → ClassId) (dI : Nat → Nat → Nat) (cJ cI cZ : ClassId) (x : Int64) (y : Int64) (A : Nat → Prop) : Array Value → State → Outcome → State → Prop := va_Ql (fun (r : Int64) (_ : Unit) => r = fdiv x y) (kB (dC, dI) vwCl [(cJ, .long), (cI, .int), (cZ, .boolean)] A (fun (_ : Unit) => [])) A
set_option maxHeartbeats 4000000 in
set_option maxRecDepth 100000 in
theorem k_FD (l : Launch) (dC : Nat → ClassId) (dI : Nat → Nat → Nat) (cJ cI cZ : ClassId) (sz : Nat) (x : Int64) (y : Int64) (hy : ¬ y = 0) : Met l y_J_floorDiv w_J_floorDiv { frames := 0, cells := 0, slots := 0, locals := 0 } (kPc (dC, dI) vwCl [(cJ, .long), (cI, .int), (cZ, .boolean)] [] sz [.long x, .long y]) (q_FD dC dI cJ cI cZ x y (va_A [] sz)) 0 0 (va_A [] sz) := by
  refine k_met (q_FD dC dI cJ cI cZ x y) (by decide +kernel) rfl (Nat.le_of_ble_eq_true rfl) ?_
  intro p e s m below meth c A hx hb hr hml hown hts hlocks hin hA H hP hK hD hS ls hl
  have hl : lv_has ls 6 [(0, .long x), (2, .long y)] := hl
  have hown : s.vm.findClass R_J = some m.cls := hown
  have hts : ∀ wW ∈ kT, wW.before [.long x, .long y].toArray s = true := fun wW hW => hts wW (List.mem_cons_of_mem _ hW)
  refine lv_lload_n hx hb d_J_floorDiv_0 rfl (lv_at hl 0 rfl) ?_
  refine lv_lload_n hx hb d_J_floorDiv_1 rfl (lv_at hl 1 rfl) ?_
  refine lv_ldiv hx hb d_J_floorDiv_2 hy ?_
  refine lv_lstore (lv' := [(4, .long (x / y)), (0, .long x), (2, .long y)]) hx hb d_J_floorDiv_3 hl (by decide) rfl (fun ls hl => ?_)
  refine lv_lload_n hx hb d_J_floorDiv_5 rfl (lv_at hl 1 rfl) ?_
  refine lv_lload_n hx hb d_J_floorDiv_6 rfl (lv_at hl 2 rfl) ?_
  refine lv_lxor hx hb d_J_floorDiv_7 ?_
  refine lv_lconst (v := 0) hx hb d_J_floorDiv_8 (by decide) ?_
  refine k_jge (tgt := 27) hx hb d_J_floorDiv_9 d_J_floorDiv_10 (by decide) (fun c_9 => ?_) (fun c_9 => ?_)
  · refine lv_lload hx hb d_J_floorDiv_27 (lv_at hl 0 rfl) ?_
    exact k_lret (v := x / y) hx hb hr hlocks () (by first | (unfold fdiv; rw [if_neg (fun h => absurd h.1 (Int64.not_lt.mpr c_9))]; done) | (unfold fdiv; rw [if_neg (fun h => h.2 c_18)]; done)) hP hD hK hS [] (by decide) rfl d_J_floorDiv_29
  · refine lv_lload hx hb d_J_floorDiv_13 (lv_at hl 0 rfl) ?_
    refine lv_lload_n hx hb d_J_floorDiv_15 rfl (lv_at hl 2 rfl) ?_
    refine lv_lmul hx hb d_J_floorDiv_16 ?_
    refine lv_lload_n hx hb d_J_floorDiv_17 rfl (lv_at hl 1 rfl) ?_
    refine k_jeq (tgt := 27) hx hb d_J_floorDiv_18 d_J_floorDiv_19 (by decide) (fun c_18 => ?_) (fun c_18 => ?_)
    · refine lv_lload hx hb d_J_floorDiv_27 (lv_at hl 0 rfl) ?_
      exact k_lret (v := x / y) hx hb hr hlocks () (by first | (unfold fdiv; rw [if_neg (fun h => absurd h.1 (Int64.not_lt.mpr c_9))]; done) | (unfold fdiv; rw [if_neg (fun h => h.2 c_18)]; done)) hP hD hK hS [] (by decide) rfl d_J_floorDiv_29
    · refine lv_lload hx hb d_J_floorDiv_22 (lv_at hl 0 rfl) ?_
      refine lv_lconst (v := 1) hx hb d_J_floorDiv_24 (by decide) ?_
      refine lv_lsub hx hb d_J_floorDiv_25 ?_
      exact k_lret (v := (x / y) - 1) hx hb hr hlocks () (by unfold fdiv; rw [if_pos ⟨c_9, c_18⟩]) hP hD hK hS [] (by decide) rfl d_J_floorDiv_26
/-- the first row that is not before w -/
abbrev q_S_firstNotBefore (dC : Nat → ClassId) (dI : Nat → Nat → Nat) (cJ cI cZ : ClassId) (h : Nat) (a1 : Nat) (a2 : Nat) (ra : Nat → Int64) (rf : Nat → Int64) (n : Nat) (w : Int64) (A : Nat → Prop) : Array Value → State → Outcome → State → Prop := va_Qi (fun (r : Int32) (_ : Unit) => r = nI (rowF ra w n)) (kB (dC, dI) vwCl [(cJ, .long), (cI, .int), (cZ, .boolean)] A (fun (_ : Unit) => [(h, .inr (2, [.ref a1, .ref a2, .int (nI n)])), (a1, .inl (cJ, 20, .inr (.inl ra))), (a2, .inl (cJ, 20, .inr (.inl rf)))])) A
set_option maxHeartbeats 4000000 in
set_option maxRecDepth 100000 in
theorem k_S_firstNotBefore (l : Launch) (dC : Nat → ClassId) (dI : Nat → Nat → Nat) (cJ cI cZ : ClassId) (sz : Nat) (h : Nat) (a1 : Nat) (a2 : Nat) (ra : Nat → Int64) (rf : Nat → Int64) (n : Nat) (w : Int64) (hn : n ≤ 20) : Met l y_S_firstNotBefore w_S_firstNotBefore { frames := 0, cells := 0, slots := 0, locals := 0 } (kPc (dC, dI) vwCl [(cJ, .long), (cI, .int), (cZ, .boolean)] [(h, .inr (2, [.ref a1, .ref a2, .int (nI n)])), (a1, .inl (cJ, 20, .inr (.inl ra))), (a2, .inl (cJ, 20, .inr (.inl rf)))] sz [.ref h, .long w]) (q_S_firstNotBefore dC dI cJ cI cZ h a1 a2 ra rf n w (va_A [(h, .inr (2, [.ref a1, .ref a2, .int (nI n)])), (a1, .inl (cJ, 20, .inr (.inl ra))), (a2, .inl (cJ, 20, .inr (.inl rf)))] sz)) 0 0 (va_A [(h, .inr (2, [.ref a1, .ref a2, .int (nI n)])), (a1, .inl (cJ, 20, .inr (.inl ra))), (a2, .inl (cJ, 20, .inr (.inl rf)))] sz) := by
  refine k_met (q_S_firstNotBefore dC dI cJ cI cZ h a1 a2 ra rf n w) (by decide +kernel) rfl (Nat.le_of_ble_eq_true rfl) ?_
  intro p e s m below meth c A hx hb hr hml hown hts hlocks hin hA H hP hK hD hS ls hl
  have hl : lv_has ls 4 [(0, .ref h), (1, .long w)] := hl
  have hown : s.vm.findClass R_S = some m.cls := hown
  have hts : ∀ wW ∈ kT, wW.before [.ref h, .long w].toArray s = true := fun wW hW => hts wW (List.mem_cons_of_mem _ hW)
  refine lv_iconst (v := nI 0) hx hb d_S_firstNotBefore_0 (by decide) ?_
  refine lv_istore_n (lv' := [(3, .int (nI 0)), (0, .ref h), (1, .long w)]) hx hb d_S_firstNotBefore_1 rfl hl (by decide) rfl (fun ls hl => ?_)
  have loop_2 : ∀ (fu_2 : Nat) (i : Nat) (hi : i ≤ n) (hv : fdN (fun j => decide (w ≤ ra j)) (n - i) i = rowF ra w n) (hfu_2 : n + 1 ≤ i + fu_2) (H : Heap) (locs : List Loc) (ls : Array Slot), va_P (dC, dI) vwCl [(h, .inr (2, [.ref a1, .ref a2, .int (nI n)])), (a1, .inl (cJ, 20, .inr (.inl ra))), (a2, .inl (cJ, 20, .inr (.inl rf)))] H → va_D A [(h, .inr (2, [.ref a1, .ref a2, .int (nI n)])), (a1, .inl (cJ, 20, .inr (.inl ra))), (a2, .inl (cJ, 20, .inr (.inl rf)))] → va_S A s.heap H locs → lv_has ls 4 [(0, .ref h), (1, .long w), (3, .int (nI i))] → W p l e { frames := 0, cells := 0, slots := 0, locals := 0 } s m [.ref h, .long w].toArray below meth c H locs 0 0 (MQ below (q_S_firstNotBefore dC dI cJ cI cZ h a1 a2 ra rf n w A) [.ref h, .long w].toArray s 0 0 A) (F0 m 2 ls []) := by
    intro fu_2
    induction fu_2 with
    | zero =>
      intro i hi hv hfu_2 H locs ls hP hD hS hl
      exact absurd hfu_2 (by omega)
    | succ fu_2 ih_2 =>
      intro i hi hv hfu_2 H locs ls hP hD hS hl
      refine lv_iload_n hx hb d_S_firstNotBefore_2 rfl (lv_at hl 2 rfl) ?_
      refine lv_aload_n hx hb d_S_firstNotBefore_3 rfl (lv_at hl 0 rfl) ?_
      refine va_get (D := (dC, dI)) (ci := 2) (v := .int (nI n)) (C := R_S) (T := T_S) (N := 3) hx hb hts iT_S hown hK hP 0 rfl rfl 2 (by decide) (hts _ wd_33) (fun _ h9 => h9) rfl d_S_firstNotBefore_4 ?_
      refine k_nge (tgt := 29) hx hb d_S_firstNotBefore_7 (by decide) (by omega) (by omega) (fun c_7 => ?_) (fun c_7 => ?_)
      · refine lv_aload_n hx hb d_S_firstNotBefore_29 rfl (lv_at hl 0 rfl) ?_
        refine va_get (D := (dC, dI)) (ci := 2) (v := .int (nI n)) (C := R_S) (T := T_S) (N := 3) hx hb hts iT_S hown hK hP 0 rfl rfl 2 (by decide) (hts _ wd_33) (fun _ h9 => h9) rfl d_S_firstNotBefore_30 ?_
        exact k_iret (v := nI n) hx hb hr hlocks () (by rw [← hv, fdN_end (P := fun j => decide (w ≤ ra j)) c_7]; exact congrArg nI (by omega)) hP hD hK hS [0, 1, 2] (by decide) rfl d_S_firstNotBefore_33
      · refine lv_aload_n hx hb d_S_firstNotBefore_10 rfl (lv_at hl 0 rfl) ?_
        refine va_get (D := (dC, dI)) (ci := 2) (v := .ref a1) (C := R_S) (T := T_S) (N := 3) hx hb hts iT_S hown hK hP 0 rfl rfl 0 (by decide) (hts _ wd_31) (fun _ h9 => h9) rfl d_S_firstNotBefore_11 ?_
        refine lv_iload_n hx hb d_S_firstNotBefore_14 rfl (lv_at hl 2 rfl) ?_
        refine k_lald (j := i) hx hb hK hP 1 0 rfl rfl (by omega) (by decide) d_S_firstNotBefore_15 ?_
        refine lv_lload_n hx hb d_S_firstNotBefore_16 rfl (lv_at hl 1 rfl) ?_
        refine k_jlt (tgt := 23) hx hb d_S_firstNotBefore_17 d_S_firstNotBefore_18 (by decide) (fun c_17 => ?_) (fun c_17 => ?_)
        · refine lv_iinc (v := nI (i + 1)) (lv' := [(3, .int (nI (i + 1))), (0, .ref h), (1, .long w)]) hx hb d_S_firstNotBefore_23 hl (k := 2) rfl (nI_add i 1) (by decide) rfl (fun ls hl => ?_)
          refine lv_goto (tgt := 2) hx hb d_S_firstNotBefore_26 (by decide) ?_
          exact ih_2 (i + 1) (by omega) ((fdN_go (P := fun j => decide (w ≤ ra j)) c_7 (decide_eq_false (Int64.not_le.mpr c_17))).symm.trans hv) (by omega) _ _ _ hP hD hS (lv_sub hl [1, 2, 0] rfl)
        · refine lv_iload_n hx hb d_S_firstNotBefore_21 rfl (lv_at hl 2 rfl) ?_
          exact k_iret (v := nI i) hx hb hr hlocks () (by rw [← hv, fdN_hit (P := fun j => decide (w ≤ ra j)) c_7 (decide_eq_true c_17)]) hP hD hK hS [0, 1, 2] (by decide) rfl d_S_firstNotBefore_22
  exact loop_2 (n + 1) 0 (by omega) rfl (by omega) _ _ _ hP hD hS (lv_sub hl [1, 2, 0] rfl)
/-- between two rows -/
abbrev q_S_between (dC : Nat → ClassId) (dI : Nat → Nat → Nat) (cJ cI cZ : ClassId) (h : Nat) (a1 : Nat) (a2 : Nat) (ra : Nat → Int64) (rf : Nat → Int64) (n : Nat) (a : Nat) (b : Nat) (w : Int64) (A : Nat → Prop) : Array Value → State → Outcome → State → Prop := va_Ql (fun (r : Int64) (_ : Unit) => r = btwF ra rf a b w) (kB (dC, dI) vwCl [(cJ, .long), (cI, .int), (cZ, .boolean)] A (fun (_ : Unit) => [(h, .inr (2, [.ref a1, .ref a2, .int (nI n)])), (a1, .inl (cJ, 20, .inr (.inl ra))), (a2, .inl (cJ, 20, .inr (.inl rf)))])) A
set_option maxHeartbeats 4000000 in
set_option maxRecDepth 100000 in
theorem k_S_between (l : Launch) (dC : Nat → ClassId) (dI : Nat → Nat → Nat) (cJ cI cZ : ClassId) (sz : Nat) (h : Nat) (a1 : Nat) (a2 : Nat) (ra : Nat → Int64) (rf : Nat → Int64) (n : Nat) (a : Nat) (b : Nat) (w : Int64) (hn : n ≤ 20) (ha : a < 20) (hb9 : b < 20) (hne : ¬ ra b - ra a = 0) : Met l y_S_between w_S_between { frames := 1, cells := 0, slots := 0, locals := 25 } (kPc (dC, dI) vwCl [(cJ, .long), (cI, .int), (cZ, .boolean)] [(h, .inr (2, [.ref a1, .ref a2, .int (nI n)])), (a1, .inl (cJ, 20, .inr (.inl ra))), (a2, .inl (cJ, 20, .inr (.inl rf)))] sz [.ref h, .int (nI a), .int (nI b), .long w]) (q_S_between dC dI cJ cI cZ h a1 a2 ra rf n a b w (va_A [(h, .inr (2, [.ref a1, .ref a2, .int (nI n)])), (a1, .inl (cJ, 20, .inr (.inl ra))), (a2, .inl (cJ, 20, .inr (.inl rf)))] sz)) 0 0 (va_A [(h, .inr (2, [.ref a1, .ref a2, .int (nI n)])), (a1, .inl (cJ, 20, .inr (.inl ra))), (a2, .inl (cJ, 20, .inr (.inl rf)))] sz) := by
  refine k_met (q_S_between dC dI cJ cI cZ h a1 a2 ra rf n a b w) (by decide +kernel) rfl (Nat.le_of_ble_eq_true rfl) ?_
  intro p e s m below meth c A hx hb hr hml hown hts hlocks hin hA H hP hK hD hS ls hl
  have hl : lv_has ls 7 [(0, .ref h), (1, .int (nI a)), (2, .int (nI b)), (3, .long w)] := hl
  have hown : s.vm.findClass R_S = some m.cls := hown
  have hts : ∀ wW ∈ kT, wW.before [.ref h, .int (nI a), .int (nI b), .long w].toArray s = true := fun wW hW => hts wW (List.mem_cons_of_mem _ hW)
  refine lv_aload_n hx hb d_S_between_0 rfl (lv_at hl 0 rfl) ?_
  refine va_get (D := (dC, dI)) (ci := 2) (v := .ref a2) (C := R_S) (T := T_S) (N := 3) hx hb hts iT_S hown hK hP 0 rfl rfl 1 (by decide) (hts _ wd_32) (fun _ h9 => h9) rfl d_S_between_1 ?_
  refine lv_iload_n hx hb d_S_between_4 rfl (lv_at hl 2 rfl) ?_
  refine k_lald (j := b) hx hb hK hP 2 0 rfl rfl (by omega) (by decide) d_S_between_5 ?_
  refine lv_aload_n hx hb d_S_between_6 rfl (lv_at hl 0 rfl) ?_
  refine va_get (D := (dC, dI)) (ci := 2) (v := .ref a2) (C := R_S) (T := T_S) (N := 3) hx hb hts iT_S hown hK hP 0 rfl rfl 1 (by decide) (hts _ wd_32) (fun _ h9 => h9) rfl d_S_between_7 ?_
  refine lv_iload_n hx hb d_S_between_10 rfl (lv_at hl 1 rfl) ?_
  refine k_lald (j := a) hx hb hK hP 2 0 rfl rfl (by omega) (by decide) d_S_between_11 ?_
  refine lv_lsub hx hb d_S_between_12 ?_
  refine lv_lload_n hx hb d_S_between_13 rfl (lv_at hl 3 rfl) ?_
  refine lv_aload_n hx hb d_S_between_14 rfl (lv_at hl 0 rfl) ?_
  refine va_get (D := (dC, dI)) (ci := 2) (v := .ref a1) (C := R_S) (T := T_S) (N := 3) hx hb hts iT_S hown hK hP 0 rfl rfl 0 (by decide) (hts _ wd_31) (fun _ h9 => h9) rfl d_S_between_15 ?_
  refine lv_iload_n hx hb d_S_between_18 rfl (lv_at hl 1 rfl) ?_
  refine k_lald (j := a) hx hb hK hP 1 0 rfl rfl (by omega) (by decide) d_S_between_19 ?_
  refine lv_lsub hx hb d_S_between_20 ?_
  refine lv_lmul hx hb d_S_between_21 ?_
  refine lv_lstore (lv' := [(5, .long (((rf b) - (rf a)) * (w - (ra a)))), (0, .ref h), (1, .int (nI a)), (2, .int (nI b)), (3, .long w)]) hx hb d_S_between_22 hl (by decide) rfl (fun ls hl => ?_)
  refine lv_aload_n hx hb d_S_between_24 rfl (lv_at hl 1 rfl) ?_
  refine va_get (D := (dC, dI)) (ci := 2) (v := .ref a2) (C := R_S) (T := T_S) (N := 3) hx hb hts iT_S hown hK hP 0 rfl rfl 1 (by decide) (hts _ wd_32) (fun _ h9 => h9) rfl d_S_between_25 ?_
  refine lv_iload_n hx hb d_S_between_28 rfl (lv_at hl 2 rfl) ?_
  refine k_lald (j := a) hx hb hK hP 2 0 rfl rfl (by omega) (by decide) d_S_between_29 ?_
  refine lv_lload hx hb d_S_between_30 (lv_at hl 0 rfl) ?_
  refine lv_aload_n hx hb d_S_between_32 rfl (lv_at hl 1 rfl) ?_
  refine va_get (D := (dC, dI)) (ci := 2) (v := .ref a1) (C := R_S) (T := T_S) (N := 3) hx hb hts iT_S hown hK hP 0 rfl rfl 0 (by decide) (hts _ wd_31) (fun _ h9 => h9) rfl d_S_between_33 ?_
  refine lv_iload_n hx hb d_S_between_36 rfl (lv_at hl 3 rfl) ?_
  refine k_lald (j := b) hx hb hK hP 1 0 rfl rfl (by omega) (by decide) d_S_between_37 ?_
  refine lv_aload_n hx hb d_S_between_38 rfl (lv_at hl 1 rfl) ?_
  refine va_get (D := (dC, dI)) (ci := 2) (v := .ref a1) (C := R_S) (T := T_S) (N := 3) hx hb hts iT_S hown hK hP 0 rfl rfl 0 (by decide) (hts _ wd_31) (fun _ h9 => h9) rfl d_S_between_39 ?_
  refine lv_iload_n hx hb d_S_between_42 rfl (lv_at hl 2 rfl) ?_
  refine k_lald (j := a) hx hb hK hP 1 0 rfl rfl (by omega) (by decide) d_S_between_43 ?_
  refine lv_lsub hx hb d_S_between_44 ?_
  refine k_calll (wr := [(h, .inr (2, [.ref a1, .ref a2, .int (nI n)])), (a1, .inl (cJ, 20, .inr (.inl ra))), (a2, .inl (cJ, 20, .inr (.inl rf)))]) (va_runS (As := [.long (((rf b) - (rf a)) * (w - (ra a))), .long ((ra b) - (ra a))]) (rest := [.long (rf a)]) ⟨hx, hb, hml, hown, hts⟩ (k_FD l dC dI cJ cI cZ _ (((rf b) - (rf a)) * (w - (ra a))) ((ra b) - (ra a)) hne) (k_cs (y := y_J_floorDiv) (own := R_S) hts wd_88 wd_85 wd_87 wd_86 hd_J_floorDiv ⟨Nat.le_of_ble_eq_true rfl, Nat.le_of_ble_eq_true rfl⟩) (k_preS hP hD hK [] rfl (by decide)) rfl rfl hl.1 rfl (lv_room (Nat.le_of_ble_eq_true rfl)) d_S_between_45 ⟨Nat.le_of_ble_eq_true rfl, Nat.le_of_ble_eq_true rfl⟩) hP hD hS hA [] [0, 1, 2] rfl rfl (by decide) (by decide) (fun r_45 uu H locs hpo hP hD hS => ?_)
  have hpo : r_45 = fdiv (((rf b) - (rf a)) * (w - (ra a))) ((ra b) - (ra a)) := hpo
  subst hpo
  have hP : va_P (dC, dI) vwCl [(h, .inr (2, [.ref a1, .ref a2, .int (nI n)])), (a1, .inl (cJ, 20, .inr (.inl ra))), (a2, .inl (cJ, 20, .inr (.inl rf)))] H := hP
  have hD : va_D A [(h, .inr (2, [.ref a1, .ref a2, .int (nI n)])), (a1, .inl (cJ, 20, .inr (.inl ra))), (a2, .inl (cJ, 20, .inr (.inl rf)))] := hD
  refine lv_ladd hx hb d_S_between_48 ?_
  exact k_lret (v := (rf a) + (fdiv (((rf b) - (rf a)) * (w - (ra a))) ((ra b) - (ra a)))) hx hb hr hlocks () rfl hP hD hK hS [0, 1, 2] (by decide) rfl d_S_between_49
/-- the fat of the skim -/
abbrev q_S_skimFatAt (dC : Nat → ClassId) (dI : Nat → Nat → Nat) (cJ cI cZ : ClassId) (h : Nat) (a1 : Nat) (a2 : Nat) (ra : Nat → Int64) (rf : Nat → Int64) (n : Nat) (w : Int64) (A : Nat → Prop) : Array Value → State → Outcome → State → Prop := va_Ql (fun (r : Int64) (_ : Unit) => r = skF ra rf n w) (kB (dC, dI) vwCl [(cJ, .long), (cI, .int), (cZ, .boolean)] A (fun (_ : Unit) => [(h, .inr (2, [.ref a1, .ref a2, .int (nI n)])), (a1, .inl (cJ, 20, .inr (.inl ra))), (a2, .inl (cJ, 20, .inr (.inl rf)))])) A
set_option maxHeartbeats 4000000 in
set_option maxRecDepth 100000 in
theorem k_S_skimFatAt (l : Launch) (dC : Nat → ClassId) (dI : Nat → Nat → Nat) (cJ cI cZ : ClassId) (sz : Nat) (h : Nat) (a1 : Nat) (a2 : Nat) (ra : Nat → Int64) (rf : Nat → Int64) (n : Nat) (w : Int64) (hn : n ≤ 20) : Met l y_S_skimFatAt w_S_skimFatAt { frames := 2, cells := 0, slots := 0, locals := 51 } (kPc (dC, dI) vwCl [(cJ, .long), (cI, .int), (cZ, .boolean)] [(h, .inr (2, [.ref a1, .ref a2, .int (nI n)])), (a1, .inl (cJ, 20, .inr (.inl ra))), (a2, .inl (cJ, 20, .inr (.inl rf)))] sz [.ref h, .long w]) (q_S_skimFatAt dC dI cJ cI cZ h a1 a2 ra rf n w (va_A [(h, .inr (2, [.ref a1, .ref a2, .int (nI n)])), (a1, .inl (cJ, 20, .inr (.inl ra))), (a2, .inl (cJ, 20, .inr (.inl rf)))] sz)) 0 0 (va_A [(h, .inr (2, [.ref a1, .ref a2, .int (nI n)])), (a1, .inl (cJ, 20, .inr (.inl ra))), (a2, .inl (cJ, 20, .inr (.inl rf)))] sz) := by
  refine k_met (q_S_skimFatAt dC dI cJ cI cZ h a1 a2 ra rf n w) (by decide +kernel) rfl (Nat.le_of_ble_eq_true rfl) ?_
  intro p e s m below meth c A hx hb hr hml hown hts hlocks hin hA H hP hK hD hS ls hl
  have hl : lv_has ls 4 [(0, .ref h), (1, .long w)] := hl
  have hown : s.vm.findClass R_S = some m.cls := hown
  have hts : ∀ wW ∈ kT, wW.before [.ref h, .long w].toArray s = true := fun wW hW => hts wW (List.mem_cons_of_mem _ hW)
  refine lv_aload_n hx hb d_S_skimFatAt_0 rfl (lv_at hl 0 rfl) ?_
  refine va_get (D := (dC, dI)) (ci := 2) (v := .int (nI n)) (C := R_S) (T := T_S) (N := 3) hx hb hts iT_S hown hK hP 0 rfl rfl 2 (by decide) (hts _ wd_33) (fun _ h9 => h9) rfl d_S_skimFatAt_1 ?_
  refine k_n0ne (tgt := 9) hx hb d_S_skimFatAt_4 (by decide) (by omega) (fun c_4 => ?_) (fun c_4 => ?_)
  · refine lv_aload_n hx hb d_S_skimFatAt_9 rfl (lv_at hl 0 rfl) ?_
    refine lv_lload_n hx hb d_S_skimFatAt_10 rfl (lv_at hl 1 rfl) ?_
    refine k_calli (wr := []) (va_runV (As := [.long w]) (rest := []) ⟨hx, hb, hml, hown, hts⟩ (k_S_firstNotBefore l dC dI cJ cI cZ _ h a1 a2 ra rf n w (by omega)) (k_cw (y := y_S_firstNotBefore) (own := R_S) hts wd_83 wd_21 wd_79 wd_77 wd_78 hd_S_firstNotBefore ⟨Nat.le_of_ble_eq_true rfl, Nat.le_of_ble_eq_true rfl⟩) (k_preV (ci := 2) (q0 := 0) hP hD hK [0, 1, 2] rfl (by decide) rfl rfl) rfl rfl hl.1 rfl (lv_room (Nat.le_of_ble_eq_true rfl)) d_S_skimFatAt_11 ⟨Nat.le_of_ble_eq_true rfl, Nat.le_of_ble_eq_true rfl⟩) hP hD hS hA [0, 1, 2] [] rfl rfl (by decide) (by decide) (fun r_11 uu H locs hpo hP hD hS => ?_)
    have hpo : r_11 = nI (rowF ra w n) := hpo
    subst hpo
    have hP : va_P (dC, dI) vwCl [(h, .inr (2, [.ref a1, .ref a2, .int (nI n)])), (a1, .inl (cJ, 20, .inr (.inl ra))), (a2, .inl (cJ, 20, .inr (.inl rf)))] H := hP
    have hD : va_D A [(h, .inr (2, [.ref a1, .ref a2, .int (nI n)])), (a1, .inl (cJ, 20, .inr (.inl ra))), (a2, .inl (cJ, 20, .inr (.inl rf)))] := hD
    have hrn := rowF_le ra w n
    refine lv_istore_n (lv' := [(3, .int (nI (rowF ra w n))), (0, .ref h), (1, .long w)]) hx hb d_S_skimFatAt_14 rfl hl (by decide) rfl (fun ls hl => ?_)
    refine lv_iload_n hx hb d_S_skimFatAt_15 rfl (lv_at hl 0 rfl) ?_
    refine lv_aload_n hx hb d_S_skimFatAt_16 rfl (lv_at hl 1 rfl) ?_
    refine va_get (D := (dC, dI)) (ci := 2) (v := .int (nI n)) (C := R_S) (T := T_S) (N := 3) hx hb hts iT_S hown hK hP 0 rfl rfl 2 (by decide) (hts _ wd_33) (fun _ h9 => h9) rfl d_S_skimFatAt_17 ?_
    refine k_nne (tgt := 35) hx hb d_S_skimFatAt_20 (by decide) (by omega) (by omega) (fun c_20 => ?_) (fun c_20 => ?_)
    · refine lv_iload_n hx hb d_S_skimFatAt_35 rfl (lv_at hl 0 rfl) ?_
      refine k_n0eq (tgt := 50) hx hb d_S_skimFatAt_36 (by decide) (by omega) (fun c_36 => ?_) (fun c_36 => ?_)
      · refine lv_aload_n hx hb d_S_skimFatAt_50 rfl (lv_at hl 1 rfl) ?_
        refine va_get (D := (dC, dI)) (ci := 2) (v := .ref a2) (C := R_S) (T := T_S) (N := 3) hx hb hts iT_S hown hK hP 0 rfl rfl 1 (by decide) (hts _ wd_32) (fun _ h9 => h9) rfl d_S_skimFatAt_51 ?_
        refine lv_iload_n hx hb d_S_skimFatAt_54 rfl (lv_at hl 0 rfl) ?_
        refine k_lald (j := rowF ra w n) hx hb hK hP 2 0 rfl rfl (by omega) (by decide) d_S_skimFatAt_55 ?_
        exact k_lret (v := rf (rowF ra w n)) hx hb hr hlocks () (by first | (unfold skF; rw [if_neg c_4, if_neg c_20, if_pos (Or.inl c_36)]; done) | (unfold skF; rw [if_neg c_4, if_neg c_20, if_pos (Or.inr c_46)]; done)) hP hD hK hS [0, 1, 2] (by decide) rfl d_S_skimFatAt_56
      · refine lv_aload_n hx hb d_S_skimFatAt_39 rfl (lv_at hl 1 rfl) ?_
        refine va_get (D := (dC, dI)) (ci := 2) (v := .ref a1) (C := R_S) (T := T_S) (N := 3) hx hb hts iT_S hown hK hP 0 rfl rfl 0 (by decide) (hts _ wd_31) (fun _ h9 => h9) rfl d_S_skimFatAt_40 ?_
        refine lv_iload_n hx hb d_S_skimFatAt_43 rfl (lv_at hl 0 rfl) ?_
        refine k_lald (j := rowF ra w n) hx hb hK hP 1 0 rfl rfl (by omega) (by decide) d_S_skimFatAt_44 ?_
        refine lv_lload_n hx hb d_S_skimFatAt_45 rfl (lv_at hl 2 rfl) ?_
        refine k_jne (tgt := 57) hx hb d_S_skimFatAt_46 d_S_skimFatAt_47 (by decide) (fun c_46 => ?_) (fun c_46 => ?_)
        · refine lv_aload_n hx hb d_S_skimFatAt_57 rfl (lv_at hl 1 rfl) ?_
          refine lv_iload_n hx hb d_S_skimFatAt_58 rfl (lv_at hl 0 rfl) ?_
          refine lv_iconst (v := nI 1) hx hb d_S_skimFatAt_59 (by decide) ?_
          refine lv_isub hx hb d_S_skimFatAt_60 ?_
          refine k_toi (pk_sub (by omega)) ?_
          refine lv_iload_n hx hb d_S_skimFatAt_61 rfl (lv_at hl 0 rfl) ?_
          refine lv_lload_n hx hb d_S_skimFatAt_62 rfl (lv_at hl 2 rfl) ?_
          refine k_calll (wr := []) (va_runV (As := [.int (nI ((rowF ra w n) - 1)), .int (nI (rowF ra w n)), .long w]) (rest := []) ⟨hx, hb, hml, hown, hts⟩ (k_S_between l dC dI cJ cI cZ _ h a1 a2 ra rf n ((rowF ra w n) - 1) (rowF ra w n) w (by omega) (by omega) (by omega) (sk_ne (by omega) (by omega))) (k_cw (y := y_S_between) (own := R_S) hts wd_84 wd_21 wd_82 wd_80 wd_81 hd_S_between ⟨Nat.le_of_ble_eq_true rfl, Nat.le_of_ble_eq_true rfl⟩) (k_preV (ci := 2) (q0 := 0) hP hD hK [0, 1, 2] rfl (by decide) rfl rfl) rfl rfl hl.1 rfl (lv_room (Nat.le_of_ble_eq_true rfl)) d_S_skimFatAt_63 ⟨Nat.le_of_ble_eq_true rfl, Nat.le_of_ble_eq_true rfl⟩) hP hD hS hA [0, 1, 2] [] rfl rfl (by decide) (by decide) (fun r_63 uu H locs hpo hP hD hS => ?_)
          have hpo : r_63 = btwF ra rf ((rowF ra w n) - 1) (rowF ra w n) w := hpo
          subst hpo
          have hP : va_P (dC, dI) vwCl [(h, .inr (2, [.ref a1, .ref a2, .int (nI n)])), (a1, .inl (cJ, 20, .inr (.inl ra))), (a2, .inl (cJ, 20, .inr (.inl rf)))] H := hP
          have hD : va_D A [(h, .inr (2, [.ref a1, .ref a2, .int (nI n)])), (a1, .inl (cJ, 20, .inr (.inl ra))), (a2, .inl (cJ, 20, .inr (.inl rf)))] := hD
          exact k_lret (v := btwF ra rf ((rowF ra w n) - 1) (rowF ra w n) w) hx hb hr hlocks () (by unfold skF; rw [if_neg c_4, if_neg c_20, if_neg (fun h => h.elim c_36 c_46)]) hP hD hK hS [0, 1, 2] (by decide) rfl d_S_skimFatAt_66
        · refine lv_aload_n hx hb d_S_skimFatAt_50 rfl (lv_at hl 1 rfl) ?_
          refine va_get (D := (dC, dI)) (ci := 2) (v := .ref a2) (C := R_S) (T := T_S) (N := 3) hx hb hts iT_S hown hK hP 0 rfl rfl 1 (by decide) (hts _ wd_32) (fun _ h9 => h9) rfl d_S_skimFatAt_51 ?_
          refine lv_iload_n hx hb d_S_skimFatAt_54 rfl (lv_at hl 0 rfl) ?_
          refine k_lald (j := rowF ra w n) hx hb hK hP 2 0 rfl rfl (by omega) (by decide) d_S_skimFatAt_55 ?_
          exact k_lret (v := rf (rowF ra w n)) hx hb hr hlocks () (by first | (unfold skF; rw [if_neg c_4, if_neg c_20, if_pos (Or.inl c_36)]; done) | (unfold skF; rw [if_neg c_4, if_neg c_20, if_pos (Or.inr c_46)]; done)) hP hD hK hS [0, 1, 2] (by decide) rfl d_S_skimFatAt_56
    · refine lv_aload_n hx hb d_S_skimFatAt_23 rfl (lv_at hl 1 rfl) ?_
      refine va_get (D := (dC, dI)) (ci := 2) (v := .ref a2) (C := R_S) (T := T_S) (N := 3) hx hb hts iT_S hown hK hP 0 rfl rfl 1 (by decide) (hts _ wd_32) (fun _ h9 => h9) rfl d_S_skimFatAt_24 ?_
      refine lv_aload_n hx hb d_S_skimFatAt_27 rfl (lv_at hl 1 rfl) ?_
      refine va_get (D := (dC, dI)) (ci := 2) (v := .int (nI n)) (C := R_S) (T := T_S) (N := 3) hx hb hts iT_S hown hK hP 0 rfl rfl 2 (by decide) (hts _ wd_33) (fun _ h9 => h9) rfl d_S_skimFatAt_28 ?_
      refine lv_iconst (v := nI 1) hx hb d_S_skimFatAt_31 (by decide) ?_
      refine lv_isub hx hb d_S_skimFatAt_32 ?_
      refine k_toi (pk_sub (by omega)) ?_
      refine k_lald (j := n - 1) hx hb hK hP 2 0 rfl rfl (by omega) (by decide) d_S_skimFatAt_33 ?_
      exact k_lret (v := rf (n - 1)) hx hb hr hlocks () (by unfold skF; rw [if_neg c_4, if_pos c_20]) hP hD hK hS [0, 1, 2] (by decide) rfl d_S_skimFatAt_34
  · refine lv_lconst (v := 0) hx hb d_S_skimFatAt_7 (by decide) ?_
    exact k_lret (v := 0) hx hb hr hlocks () (by unfold skF; rw [if_pos c_4]) hP hD hK hS [0, 1, 2] (by decide) rfl d_S_skimFatAt_8
/-- a row comes, or gives way -/
abbrev q_S_put (dC : Nat → ClassId) (dI : Nat → Nat → Nat) (cJ cI cZ : ClassId) (h : Nat) (a1 : Nat) (a2 : Nat) (ra : Nat → Int64) (rf : Nat → Int64) (n : Nat) (w : Int64) (f : Int64) (A : Nat → Prop) : Array Value → State → Outcome → State → Prop := va_Qi (fun (r : Int32) (_ : Unit) => r = zI (putB ra n w)) (kB (dC, dI) vwCl [(cJ, .long), (cI, .int), (cZ, .boolean)] A (fun (_ : Unit) => [(h, .inr (2, [.ref a1, .ref a2, .int (nI (putN ra n w))])), (a1, .inl (cJ, 20, .inr (.inl (putA ra n w)))), (a2, .inl (cJ, 20, .inr (.inl (putF ra rf n w f))))])) A
set_option maxHeartbeats 4000000 in
set_option maxRecDepth 100000 in
theorem k_S_put (l : Launch) (dC : Nat → ClassId) (dI : Nat → Nat → Nat) (cJ cI cZ : ClassId) (sz : Nat) (h : Nat) (a1 : Nat) (a2 : Nat) (ra : Nat → Int64) (rf : Nat → Int64) (n : Nat) (w : Int64) (f : Int64) (hn : n ≤ 20) : Met l y_S_put w_S_put { frames := 1, cells := 0, slots := 0, locals := 23 } (kPc (dC, dI) vwCl [(cJ, .long), (cI, .int), (cZ, .boolean)] [(h, .inr (2, [.ref a1, .ref a2, .int (nI n)])), (a1, .inl (cJ, 20, .inr (.inl ra))), (a2, .inl (cJ, 20, .inr (.inl rf)))] sz [.ref h, .long w, .long f]) (q_S_put dC dI cJ cI cZ h a1 a2 ra rf n w f (va_A [(h, .inr (2, [.ref a1, .ref a2, .int (nI n)])), (a1, .inl (cJ, 20, .inr (.inl ra))), (a2, .inl (cJ, 20, .inr (.inl rf)))] sz)) 0 0 (va_A [(h, .inr (2, [.ref a1, .ref a2, .int (nI n)])), (a1, .inl (cJ, 20, .inr (.inl ra))), (a2, .inl (cJ, 20, .inr (.inl rf)))] sz) := by
  refine k_met (q_S_put dC dI cJ cI cZ h a1 a2 ra rf n w f) (by decide +kernel) rfl (Nat.le_of_ble_eq_true rfl) ?_
  intro p e s m below meth c A hx hb hr hml hown hts hlocks hin hA H hP hK hD hS ls hl
  have hl : lv_has ls 7 [(0, .ref h), (1, .long w), (3, .long f)] := hl
  have hown : s.vm.findClass R_S = some m.cls := hown
  have hts : ∀ wW ∈ kT, wW.before [.ref h, .long w, .long f].toArray s = true := fun wW hW => hts wW (List.mem_cons_of_mem _ hW)
  refine lv_aload_n hx hb d_S_put_0 rfl (lv_at hl 0 rfl) ?_
  refine lv_lload_n hx hb d_S_put_1 rfl (lv_at hl 1 rfl) ?_
  refine k_calli (wr := []) (va_runV (As := [.long w]) (rest := []) ⟨hx, hb, hml, hown, hts⟩ (k_S_firstNotBefore l dC dI cJ cI cZ _ h a1 a2 ra rf n w (by omega)) (k_cw (y := y_S_firstNotBefore) (own := R_S) hts wd_83 wd_21 wd_79 wd_77 wd_78 hd_S_firstNotBefore ⟨Nat.le_of_ble_eq_true rfl, Nat.le_of_ble_eq_true rfl⟩) (k_preV (ci := 2) (q0 := 0) hP hD hK [0, 1, 2] rfl (by decide) rfl rfl) rfl rfl hl.1 rfl (lv_room (Nat.le_of_ble_eq_true rfl)) d_S_put_2 ⟨Nat.le_of_ble_eq_true rfl, Nat.le_of_ble_eq_true rfl⟩) hP hD hS hA [0, 1, 2] [] rfl rfl (by decide) (by decide) (fun r_2 uu H locs hpo hP hD hS => ?_)
  have hpo : r_2 = nI (rowF ra w n) := hpo
  subst hpo
  have hP : va_P (dC, dI) vwCl [(h, .inr (2, [.ref a1, .ref a2, .int (nI n)])), (a1, .inl (cJ, 20, .inr (.inl ra))), (a2, .inl (cJ, 20, .inr (.inl rf)))] H := hP
  have hD : va_D A [(h, .inr (2, [.ref a1, .ref a2, .int (nI n)])), (a1, .inl (cJ, 20, .inr (.inl ra))), (a2, .inl (cJ, 20, .inr (.inl rf)))] := hD
  have hrn := rowF_le ra w n
  refine lv_istore (lv' := [(5, .int (nI (rowF ra w n))), (0, .ref h), (1, .long w), (3, .long f)]) hx hb d_S_put_5 hl (by decide) rfl (fun ls hl => ?_)
  have cut_38 : ∀ (hno : ¬ (rowF ra w n < n ∧ ra (rowF ra w n) = w)) (H : Heap) (locs : List Loc) (ls : Array Slot), va_P (dC, dI) vwCl [(h, .inr (2, [.ref a1, .ref a2, .int (nI n)])), (a1, .inl (cJ, 20, .inr (.inl ra))), (a2, .inl (cJ, 20, .inr (.inl rf)))] H → va_D A [(h, .inr (2, [.ref a1, .ref a2, .int (nI n)])), (a1, .inl (cJ, 20, .inr (.inl ra))), (a2, .inl (cJ, 20, .inr (.inl rf)))] → va_S A s.heap H locs → lv_has ls 7 [(0, .ref h), (1, .long w), (3, .long f), (5, .int (nI (rowF ra w n)))] → W p l e { frames := 1, cells := 0, slots := 0, locals := 23 } s m [.ref h, .long w, .long f].toArray below meth c H locs 0 0 (MQ below (q_S_put dC dI cJ cI cZ h a1 a2 ra rf n w f A) [.ref h, .long w, .long f].toArray s 0 0 A) (F0 m 38 ls []) := by
    intro hno H locs ls hP hD hS hl
    refine lv_aload_n hx hb d_S_put_38 rfl (lv_at hl 0 rfl) ?_
    refine va_get (D := (dC, dI)) (ci := 2) (v := .int (nI n)) (C := R_S) (T := T_S) (N := 3) hx hb hts iT_S hown hK hP 0 rfl rfl 2 (by decide) (hts _ wd_33) (fun _ h9 => h9) rfl d_S_put_39 ?_
    refine lv_bipush (v := nI 20) hx hb d_S_put_42 (by decide) ?_
    refine k_nlt (tgt := 49) hx hb d_S_put_44 (by decide) (by omega) (by omega) (fun c_44 => ?_) (fun c_44 => ?_)
    · refine lv_aload_n hx hb d_S_put_49 rfl (lv_at hl 0 rfl) ?_
      refine va_get (D := (dC, dI)) (ci := 2) (v := .int (nI n)) (C := R_S) (T := T_S) (N := 3) hx hb hts iT_S hown hK hP 0 rfl rfl 2 (by decide) (hts _ wd_33) (fun _ h9 => h9) rfl d_S_put_50 ?_
      refine lv_istore (lv' := [(6, .int (nI n)), (0, .ref h), (1, .long w), (3, .long f), (5, .int (nI (rowF ra w n)))]) hx hb d_S_put_53 hl (by decide) rfl (fun ls hl => ?_)
      have hP : va_P (dC, dI) vwCl [(h, .inr (2, [.ref a1, .ref a2, .int (nI n)])), (a1, .inl (cJ, 20, .inr (.inl (shf ra n n)))), (a2, .inl (cJ, 20, .inr (.inl rf)))] H := by rw [shf_n ra n]; exact hP
      have hD : va_D A [(h, .inr (2, [.ref a1, .ref a2, .int (nI n)])), (a1, .inl (cJ, 20, .inr (.inl (shf ra n n)))), (a2, .inl (cJ, 20, .inr (.inl rf)))] := by rw [shf_n ra n]; exact hD
      have hP : va_P (dC, dI) vwCl [(h, .inr (2, [.ref a1, .ref a2, .int (nI n)])), (a1, .inl (cJ, 20, .inr (.inl (shf ra n n)))), (a2, .inl (cJ, 20, .inr (.inl (shf rf n n))))] H := by rw [shf_n rf n]; exact hP
      have hD : va_D A [(h, .inr (2, [.ref a1, .ref a2, .int (nI n)])), (a1, .inl (cJ, 20, .inr (.inl (shf ra n n)))), (a2, .inl (cJ, 20, .inr (.inl (shf rf n n))))] := by rw [shf_n rf n]; exact hD
      have loop_55 : ∀ (fu_55 : Nat) (i : Nat) (hi : i ≤ n) (hir : rowF ra w n ≤ i) (hfu_55 : i + 1 ≤ rowF ra w n + fu_55) (H : Heap) (locs : List Loc) (ls : Array Slot), va_P (dC, dI) vwCl [(h, .inr (2, [.ref a1, .ref a2, .int (nI n)])), (a1, .inl (cJ, 20, .inr (.inl (shf ra i n)))), (a2, .inl (cJ, 20, .inr (.inl (shf rf i n))))] H → va_D A [(h, .inr (2, [.ref a1, .ref a2, .int (nI n)])), (a1, .inl (cJ, 20, .inr (.inl (shf ra i n)))), (a2, .inl (cJ, 20, .inr (.inl (shf rf i n))))] → va_S A s.heap H locs → lv_has ls 7 [(0, .ref h), (1, .long w), (3, .long f), (5, .int (nI (rowF ra w n))), (6, .int (nI i))] → W p l e { frames := 1, cells := 0, slots := 0, locals := 23 } s m [.ref h, .long w, .long f].toArray below meth c H locs 0 0 (MQ below (q_S_put dC dI cJ cI cZ h a1 a2 ra rf n w f A) [.ref h, .long w, .long f].toArray s 0 0 A) (F0 m 55 ls []) := by
        intro fu_55
        induction fu_55 with
        | zero =>
          intro i hi hir hfu_55 H locs ls hP hD hS hl
          exact absurd hfu_55 (by omega)
        | succ fu_55 ih_55 =>
          intro i hi hir hfu_55 H locs ls hP hD hS hl
          refine lv_iload hx hb d_S_put_55 (lv_at hl 4 rfl) ?_
          refine lv_iload hx hb d_S_put_57 (lv_at hl 3 rfl) ?_
          refine k_nle (tgt := 100) hx hb d_S_put_59 (by decide) (by omega) (by omega) (fun c_59 => ?_) (fun c_59 => ?_)
          · obtain rfl : i = rowF ra w n := by omega
            refine lv_aload_n hx hb d_S_put_100 rfl (lv_at hl 0 rfl) ?_
            refine va_get (D := (dC, dI)) (ci := 2) (v := .ref a1) (C := R_S) (T := T_S) (N := 3) hx hb hts iT_S hown hK hP 0 rfl rfl 0 (by decide) (hts _ wd_31) (fun _ h9 => h9) rfl d_S_put_101 ?_
            refine lv_iload hx hb d_S_put_104 (lv_at hl 3 rfl) ?_
            refine lv_lload_n hx hb d_S_put_106 rfl (lv_at hl 1 rfl) ?_
            refine k_last (j := rowF ra w n) hx hb hK hP hD hS 1 0 rfl rfl (by omega) (by decide) d_S_put_107 (fun H locs hP hD hS => ?_)
            have hP : va_P (dC, dI) vwCl [(h, .inr (2, [.ref a1, .ref a2, .int (nI n)])), (a1, .inl (cJ, 20, .inr (.inl (vp_updL (shf ra (rowF ra w n) n) (rowF ra w n) w)))), (a2, .inl (cJ, 20, .inr (.inl (shf rf (rowF ra w n) n))))] H := hP
            have hD : va_D A [(h, .inr (2, [.ref a1, .ref a2, .int (nI n)])), (a1, .inl (cJ, 20, .inr (.inl (vp_updL (shf ra (rowF ra w n) n) (rowF ra w n) w)))), (a2, .inl (cJ, 20, .inr (.inl (shf rf (rowF ra w n) n))))] := hD
            refine lv_aload_n hx hb d_S_put_108 rfl (lv_at hl 0 rfl) ?_
            refine va_get (D := (dC, dI)) (ci := 2) (v := .ref a2) (C := R_S) (T := T_S) (N := 3) hx hb hts iT_S hown hK hP 0 rfl rfl 1 (by decide) (hts _ wd_32) (fun _ h9 => h9) rfl d_S_put_109 ?_
            refine lv_iload hx hb d_S_put_112 (lv_at hl 3 rfl) ?_
            refine lv_lload_n hx hb d_S_put_114 rfl (lv_at hl 2 rfl) ?_
            refine k_last (j := rowF ra w n) hx hb hK hP hD hS 2 0 rfl rfl (by omega) (by decide) d_S_put_115 (fun H locs hP hD hS => ?_)
            have hP : va_P (dC, dI) vwCl [(h, .inr (2, [.ref a1, .ref a2, .int (nI n)])), (a1, .inl (cJ, 20, .inr (.inl (vp_updL (shf ra (rowF ra w n) n) (rowF ra w n) w)))), (a2, .inl (cJ, 20, .inr (.inl (vp_updL (shf rf (rowF ra w n) n) (rowF ra w n) f))))] H := hP
            have hD : va_D A [(h, .inr (2, [.ref a1, .ref a2, .int (nI n)])), (a1, .inl (cJ, 20, .inr (.inl (vp_updL (shf ra (rowF ra w n) n) (rowF ra w n) w)))), (a2, .inl (cJ, 20, .inr (.inl (vp_updL (shf rf (rowF ra w n) n) (rowF ra w n) f))))] := hD
            refine lv_aload_n hx hb d_S_put_116 rfl (lv_at hl 0 rfl) ?_
            refine lv_dup hx hb d_S_put_117 rfl ?_
            refine va_get (D := (dC, dI)) (ci := 2) (v := .int (nI n)) (C := R_S) (T := T_S) (N := 3) hx hb hts iT_S hown hK hP 0 rfl rfl 2 (by decide) (hts _ wd_33) (fun _ h9 => h9) rfl d_S_put_118 ?_
            refine lv_iconst (v := nI 1) hx hb d_S_put_121 (by decide) ?_
            refine lv_iadd hx hb d_S_put_122 ?_
            refine k_toi (nI_add n 1) ?_
            refine va_put (D := (dC, dI)) (ci := 2) (v := .int (nI (n + 1))) (ty := .int) (C := R_S) (T := T_S) (N := 3) hx hb hts iT_S t_S t_S_ok n_S hown hK hP hD hS 0 rfl rfl 2 (by decide) (hts _ wd_33) (fun _ h9 => h9) rfl (by decide +kernel) rfl rfl (Nat.le_of_ble_eq_true rfl) d_S_put_123 (fun H locs hP hD hS => ?_)
            have hP : va_P (dC, dI) vwCl [(h, .inr (2, [.ref a1, .ref a2, .int (nI (n + 1))])), (a1, .inl (cJ, 20, .inr (.inl (vp_updL (shf ra (rowF ra w n) n) (rowF ra w n) w)))), (a2, .inl (cJ, 20, .inr (.inl (vp_updL (shf rf (rowF ra w n) n) (rowF ra w n) f))))] H := hP
            have hD : va_D A [(h, .inr (2, [.ref a1, .ref a2, .int (nI (n + 1))])), (a1, .inl (cJ, 20, .inr (.inl (vp_updL (shf ra (rowF ra w n) n) (rowF ra w n) w)))), (a2, .inl (cJ, 20, .inr (.inl (vp_updL (shf rf (rowF ra w n) n) (rowF ra w n) f))))] := hD
            refine lv_iconst (v := nI 1) hx hb d_S_put_126 (by decide) ?_
            have fq_0 : putA ra n w = vp_updL (shf ra (rowF ra w n) n) (rowF ra w n) w := by unfold putA; rw [if_neg hno, if_neg (by omega)]
            have fq_1 : putF ra rf n w f = vp_updL (shf rf (rowF ra w n) n) (rowF ra w n) f := by unfold putF; rw [if_neg hno, if_neg (by omega)]
            have fq_2 : putN ra n w = n + 1 := by unfold putN; rw [if_neg hno, if_neg (by omega)]
            have hP : va_P (dC, dI) vwCl [(h, .inr (2, [.ref a1, .ref a2, .int (nI (putN ra n w))])), (a1, .inl (cJ, 20, .inr (.inl (putA ra n w)))), (a2, .inl (cJ, 20, .inr (.inl (putF ra rf n w f))))] H := by rw [fq_0, fq_1, fq_2]; exact hP
            have hD : va_D A [(h, .inr (2, [.ref a1, .ref a2, .int (nI (putN ra n w))])), (a1, .inl (cJ, 20, .inr (.inl (putA ra n w)))), (a2, .inl (cJ, 20, .inr (.inl (putF ra rf n w f))))] := by rw [fq_0, fq_1, fq_2]; exact hD
            exact k_zret (v := nI 1) hx hb hr hlocks rfl () (by unfold putB; rw [if_neg hno, if_neg (by omega)]; rfl) hP hD hK hS [0, 1, 2] (by decide) rfl d_S_put_127
          · refine lv_aload_n hx hb d_S_put_62 rfl (lv_at hl 0 rfl) ?_
            refine va_get (D := (dC, dI)) (ci := 2) (v := .ref a1) (C := R_S) (T := T_S) (N := 3) hx hb hts iT_S hown hK hP 0 rfl rfl 0 (by decide) (hts _ wd_31) (fun _ h9 => h9) rfl d_S_put_63 ?_
            refine lv_iload hx hb d_S_put_66 (lv_at hl 4 rfl) ?_
            refine lv_aload_n hx hb d_S_put_68 rfl (lv_at hl 0 rfl) ?_
            refine va_get (D := (dC, dI)) (ci := 2) (v := .ref a1) (C := R_S) (T := T_S) (N := 3) hx hb hts iT_S hown hK hP 0 rfl rfl 0 (by decide) (hts _ wd_31) (fun _ h9 => h9) rfl d_S_put_69 ?_
            refine lv_iload hx hb d_S_put_72 (lv_at hl 4 rfl) ?_
            refine lv_iconst (v := nI 1) hx hb d_S_put_74 (by decide) ?_
            refine lv_isub hx hb d_S_put_75 ?_
            refine k_toi (pk_sub (by omega)) ?_
            refine k_lald (j := i - 1) hx hb hK hP 1 0 rfl rfl (by omega) (by decide) d_S_put_76 ?_
            refine k_last (j := i) hx hb hK hP hD hS 1 0 rfl rfl (by omega) (by decide) d_S_put_77 (fun H locs hP hD hS => ?_)
            have ef_77 : vp_updL (shf ra i n) i ((shf ra i n) (i - 1)) = shf ra (i - 1) n := shf_step ra (by omega) hi
            rw [ef_77] at hP hD
            have hP : va_P (dC, dI) vwCl [(h, .inr (2, [.ref a1, .ref a2, .int (nI n)])), (a1, .inl (cJ, 20, .inr (.inl (shf ra (i - 1) n)))), (a2, .inl (cJ, 20, .inr (.inl (shf rf i n))))] H := hP
            have hD : va_D A [(h, .inr (2, [.ref a1, .ref a2, .int (nI n)])), (a1, .inl (cJ, 20, .inr (.inl (shf ra (i - 1) n)))), (a2, .inl (cJ, 20, .inr (.inl (shf rf i n))))] := hD
            refine lv_aload_n hx hb d_S_put_78 rfl (lv_at hl 0 rfl) ?_
            refine va_get (D := (dC, dI)) (ci := 2) (v := .ref a2) (C := R_S) (T := T_S) (N := 3) hx hb hts iT_S hown hK hP 0 rfl rfl 1 (by decide) (hts _ wd_32) (fun _ h9 => h9) rfl d_S_put_79 ?_
            refine lv_iload hx hb d_S_put_82 (lv_at hl 4 rfl) ?_
            refine lv_aload_n hx hb d_S_put_84 rfl (lv_at hl 0 rfl) ?_
            refine va_get (D := (dC, dI)) (ci := 2) (v := .ref a2) (C := R_S) (T := T_S) (N := 3) hx hb hts iT_S hown hK hP 0 rfl rfl 1 (by decide) (hts _ wd_32) (fun _ h9 => h9) rfl d_S_put_85 ?_
            refine lv_iload hx hb d_S_put_88 (lv_at hl 4 rfl) ?_
            refine lv_iconst (v := nI 1) hx hb d_S_put_90 (by decide) ?_
            refine lv_isub hx hb d_S_put_91 ?_
            refine k_toi (pk_sub (by omega)) ?_
            refine k_lald (j := i - 1) hx hb hK hP 2 0 rfl rfl (by omega) (by decide) d_S_put_92 ?_
            refine k_last (j := i) hx hb hK hP hD hS 2 0 rfl rfl (by omega) (by decide) d_S_put_93 (fun H locs hP hD hS => ?_)
            have ef_93 : vp_updL (shf rf i n) i ((shf rf i n) (i - 1)) = shf rf (i - 1) n := shf_step rf (by omega) hi
            rw [ef_93] at hP hD
            have hP : va_P (dC, dI) vwCl [(h, .inr (2, [.ref a1, .ref a2, .int (nI n)])), (a1, .inl (cJ, 20, .inr (.inl (shf ra (i - 1) n)))), (a2, .inl (cJ, 20, .inr (.inl (shf rf (i - 1) n))))] H := hP
            have hD : va_D A [(h, .inr (2, [.ref a1, .ref a2, .int (nI n)])), (a1, .inl (cJ, 20, .inr (.inl (shf ra (i - 1) n)))), (a2, .inl (cJ, 20, .inr (.inl (shf rf (i - 1) n))))] := hD
            refine lv_iinc (v := nI (i - 1)) (lv' := [(6, .int (nI (i - 1))), (0, .ref h), (1, .long w), (3, .long f), (5, .int (nI (rowF ra w n)))]) hx hb d_S_put_94 hl (k := 4) rfl (sb_m1 (by omega)) (by decide) rfl (fun ls hl => ?_)
            refine lv_goto (tgt := 55) hx hb d_S_put_97 (by decide) ?_
            exact ih_55 (i - 1) (by omega) (by omega) (by omega) _ _ _ hP hD hS (lv_sub hl [1, 2, 3, 4, 0] rfl)
      exact loop_55 (n + 1) n (by omega) (by omega) (by omega) _ _ _ hP hD hS (lv_sub hl [1, 2, 3, 4, 0] rfl)
    · refine lv_iconst (v := nI 0) hx hb d_S_put_47 (by decide) ?_
      have fq_0 : putA ra n w = ra := by unfold putA; rw [if_neg hno, if_pos c_44]
      have fq_1 : putF ra rf n w f = rf := by unfold putF; rw [if_neg hno, if_pos c_44]
      have fq_2 : putN ra n w = n := by unfold putN; rw [if_neg hno, if_pos c_44]
      have hP : va_P (dC, dI) vwCl [(h, .inr (2, [.ref a1, .ref a2, .int (nI (putN ra n w))])), (a1, .inl (cJ, 20, .inr (.inl (putA ra n w)))), (a2, .inl (cJ, 20, .inr (.inl (putF ra rf n w f))))] H := by rw [fq_0, fq_1, fq_2]; exact hP
      have hD : va_D A [(h, .inr (2, [.ref a1, .ref a2, .int (nI (putN ra n w))])), (a1, .inl (cJ, 20, .inr (.inl (putA ra n w)))), (a2, .inl (cJ, 20, .inr (.inl (putF ra rf n w f))))] := by rw [fq_0, fq_1, fq_2]; exact hD
      exact k_zret (v := nI 0) hx hb hr hlocks rfl () (by unfold putB; rw [if_neg hno, if_pos c_44]; rfl) hP hD hK hS [0, 1, 2] (by decide) rfl d_S_put_48
  refine lv_iload hx hb d_S_put_7 (lv_at hl 0 rfl) ?_
  refine lv_aload_n hx hb d_S_put_9 rfl (lv_at hl 1 rfl) ?_
  refine va_get (D := (dC, dI)) (ci := 2) (v := .int (nI n)) (C := R_S) (T := T_S) (N := 3) hx hb hts iT_S hown hK hP 0 rfl rfl 2 (by decide) (hts _ wd_33) (fun _ h9 => h9) rfl d_S_put_10 ?_
  refine k_nge (tgt := 38) hx hb d_S_put_13 (by decide) (by omega) (by omega) (fun c_13 => ?_) (fun c_13 => ?_)
  · exact cut_38 (fun h => absurd h.1 (by omega)) _ _ _ hP hD hS (lv_sub hl [1, 2, 3, 0] rfl)
  · refine lv_aload_n hx hb d_S_put_16 rfl (lv_at hl 1 rfl) ?_
    refine va_get (D := (dC, dI)) (ci := 2) (v := .ref a1) (C := R_S) (T := T_S) (N := 3) hx hb hts iT_S hown hK hP 0 rfl rfl 0 (by decide) (hts _ wd_31) (fun _ h9 => h9) rfl d_S_put_17 ?_
    refine lv_iload hx hb d_S_put_20 (lv_at hl 0 rfl) ?_
    refine k_lald (j := rowF ra w n) hx hb hK hP 1 0 rfl rfl (by omega) (by decide) d_S_put_22 ?_
    refine lv_lload_n hx hb d_S_put_23 rfl (lv_at hl 2 rfl) ?_
    refine k_jne (tgt := 38) hx hb d_S_put_24 d_S_put_25 (by decide) (fun c_24 => ?_) (fun c_24 => ?_)
    · exact cut_38 (fun h => c_24 h.2) _ _ _ hP hD hS (lv_sub hl [1, 2, 3, 0] rfl)
    · refine lv_aload_n hx hb d_S_put_28 rfl (lv_at hl 1 rfl) ?_
      refine va_get (D := (dC, dI)) (ci := 2) (v := .ref a2) (C := R_S) (T := T_S) (N := 3) hx hb hts iT_S hown hK hP 0 rfl rfl 1 (by decide) (hts _ wd_32) (fun _ h9 => h9) rfl d_S_put_29 ?_
      refine lv_iload hx hb d_S_put_32 (lv_at hl 0 rfl) ?_
      refine lv_lload_n hx hb d_S_put_34 rfl (lv_at hl 3 rfl) ?_
      refine k_last (j := rowF ra w n) hx hb hK hP hD hS 2 0 rfl rfl (by omega) (by decide) d_S_put_35 (fun H locs hP hD hS => ?_)
      have hP : va_P (dC, dI) vwCl [(h, .inr (2, [.ref a1, .ref a2, .int (nI n)])), (a1, .inl (cJ, 20, .inr (.inl ra))), (a2, .inl (cJ, 20, .inr (.inl (vp_updL rf (rowF ra w n) f))))] H := hP
      have hD : va_D A [(h, .inr (2, [.ref a1, .ref a2, .int (nI n)])), (a1, .inl (cJ, 20, .inr (.inl ra))), (a2, .inl (cJ, 20, .inr (.inl (vp_updL rf (rowF ra w n) f))))] := hD
      refine lv_iconst (v := nI 1) hx hb d_S_put_36 (by decide) ?_
      have fq_0 : putA ra n w = ra := by unfold putA; rw [if_pos ⟨c_13, c_24⟩]
      have fq_1 : putF ra rf n w f = vp_updL rf (rowF ra w n) f := by unfold putF; rw [if_pos ⟨c_13, c_24⟩]
      have fq_2 : putN ra n w = n := by unfold putN; rw [if_pos ⟨c_13, c_24⟩]
      have hP : va_P (dC, dI) vwCl [(h, .inr (2, [.ref a1, .ref a2, .int (nI (putN ra n w))])), (a1, .inl (cJ, 20, .inr (.inl (putA ra n w)))), (a2, .inl (cJ, 20, .inr (.inl (putF ra rf n w f))))] H := by rw [fq_0, fq_1, fq_2]; exact hP
      have hD : va_D A [(h, .inr (2, [.ref a1, .ref a2, .int (nI (putN ra n w))])), (a1, .inl (cJ, 20, .inr (.inl (putA ra n w)))), (a2, .inl (cJ, 20, .inr (.inl (putF ra rf n w f))))] := by rw [fq_0, fq_1, fq_2]; exact hD
      exact k_zret (v := nI 1) hx hb hr hlocks rfl () (by unfold putB; rw [if_pos ⟨c_13, c_24⟩]; rfl) hP hD hK hS [0, 1, 2] (by decide) rfl d_S_put_37
