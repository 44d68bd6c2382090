/-- X_isLot -/
abbrev q_X_isLot (dC : Nat → ClassId) (dI : Nat → Nat → Nat) (cJ cI cZ : ClassId) (h : Nat) (aK : Nat) (aF : Nat) (aS : Nat) (aZ : Nat) (aL : Nat) (aP : Nat) (aC : Nat) (aH : Nat) (aE : Nat) (aM : Nat) (n : Nat) (sc : Nat) (np : Nat) (nc : Nat) (x : Int32) (A : Nat → Prop) : Array Value → State → Outcome → State → Prop := va_Qi (fun (r : Int32) (_ : Unit) => r = zI (lotB n x)) (kB (dC, dI) vwCl [(cJ, .long), (cI, .int), (cZ, .boolean)] A (fun (_ : Unit) => [(h, .inr (0, [.ref aK, .ref aF, .ref aS, .ref aZ, .int (nI n), .ref aL, .int (nI sc), .ref aP, .ref aC, .int (nI np), .ref aH, .int (nI nc), .ref aE, .ref aM]))])) A
set_option maxHeartbeats 4000000 in
set_option maxRecDepth 100000 in
theorem k_X_isLot (l : Launch) (dC : Nat → ClassId) (dI : Nat → Nat → Nat) (cJ cI cZ : ClassId) (sz : Nat) (h : Nat) (aK : Nat) (aF : Nat) (aS : Nat) (aZ : Nat) (aL : Nat) (aP : Nat) (aC : Nat) (aH : Nat) (aE : Nat) (aM : Nat) (n : Nat) (sc : Nat) (np : Nat) (nc : Nat) (x : Int32)  : Met l y_X_isLot w_X_isLot { frames := 0, cells := 0, slots := 0, locals := 0 } (kPc (dC, dI) vwCl [(cJ, .long), (cI, .int), (cZ, .boolean)] [(h, .inr (0, [.ref aK, .ref aF, .ref aS, .ref aZ, .int (nI n), .ref aL, .int (nI sc), .ref aP, .ref aC, .int (nI np), .ref aH, .int (nI nc), .ref aE, .ref aM]))] sz [.ref h, .int x]) (q_X_isLot dC dI cJ cI cZ h aK aF aS aZ aL aP aC aH aE aM n sc np nc x (va_A [(h, .inr (0, [.ref aK, .ref aF, .ref aS, .ref aZ, .int (nI n), .ref aL, .int (nI sc), .ref aP, .ref aC, .int (nI np), .ref aH, .int (nI nc), .ref aE, .ref aM]))] sz)) 0 0 (va_A [(h, .inr (0, [.ref aK, .ref aF, .ref aS, .ref aZ, .int (nI n), .ref aL, .int (nI sc), .ref aP, .ref aC, .int (nI np), .ref aH, .int (nI nc), .ref aE, .ref aM]))] sz) := by
  refine k_met (q_X_isLot dC dI cJ cI cZ h aK aF aS aZ aL aP aC aH aE aM n sc np nc x) (by decide +kernel) rfl (Nat.le_of_ble_eq_true rfl) ?_
  intro p e s m below meth c A hx hb hr hml hown hts hlocks hin hA H hP hK hD hS ls hl
  have hl : lv_has ls 2 [(0, .ref h), (1, .int x)] := hl
  have hown : s.vm.findClass R_X = some m.cls := hown
  have hts : ∀ wW ∈ kT, wW.before [.ref h, .int x].toArray s = true := fun wW hW => hts wW (List.mem_cons_of_mem _ hW)
  refine lv_iload_n hx hb d_X_isLot_0 rfl (lv_at hl 1 rfl) ?_
  refine lv_if_lt (tgt := 16) hx hb d_X_isLot_1 (by decide) (fun c_1 => ?_) (fun c_1 => ?_)
  · refine lv_iconst (v := nI 0) hx hb d_X_isLot_16 (by decide) ?_
    exact k_zret (v := nI 0) hx hb hr hlocks rfl () (by first | (unfold lotB; rw [decide_eq_true c_1]; rfl) | (unfold lotB; rw [decide_eq_false c_1, decide_eq_true c_9]; rfl) | (unfold lotB; rw [decide_eq_false c_1, decide_eq_false c_9]; rfl)) hP hD hK hS [0] (by decide) rfl d_X_isLot_17
  · refine lv_iload_n hx hb d_X_isLot_4 rfl (lv_at hl 1 rfl) ?_
    refine lv_aload_n hx hb d_X_isLot_5 rfl (lv_at hl 0 rfl) ?_
    refine va_get (D := (dC, dI)) (ci := 0) (v := .int (nI n)) (C := R_X) (T := T_X) (N := 14) hx hb hts iT_X hown hK hP 0 rfl rfl 4 (by decide) (hts _ wd_10) (fun _ h9 => h9) rfl d_X_isLot_6 ?_
    refine lv_icmp_ge (tgt := 16) hx hb d_X_isLot_9 (by decide) (fun c_9 => ?_) (fun c_9 => ?_)
    · refine lv_iconst (v := nI 0) hx hb d_X_isLot_16 (by decide) ?_
      exact k_zret (v := nI 0) hx hb hr hlocks rfl () (by first | (unfold lotB; rw [decide_eq_true c_1]; rfl) | (unfold lotB; rw [decide_eq_false c_1, decide_eq_true c_9]; rfl) | (unfold lotB; rw [decide_eq_false c_1, decide_eq_false c_9]; rfl)) hP hD hK hS [0] (by decide) rfl d_X_isLot_17
    · refine lv_iconst (v := nI 1) hx hb d_X_isLot_12 (by decide) ?_
      refine lv_goto (tgt := 17) hx hb d_X_isLot_13 (by decide) ?_
      exact k_zret (v := nI 1) hx hb hr hlocks rfl () (by first | (unfold lotB; rw [decide_eq_true c_1]; rfl) | (unfold lotB; rw [decide_eq_false c_1, decide_eq_true c_9]; rfl) | (unfold lotB; rw [decide_eq_false c_1, decide_eq_false c_9]; rfl)) hP hD hK hS [0] (by decide) rfl d_X_isLot_17
/-- X_isUnseparated -/
abbrev q_X_isUnseparated (dC : Nat → ClassId) (dI : Nat → Nat → Nat) (cJ cI cZ : ClassId) (h : Nat) (aK : Nat) (aF : Nat) (aS : Nat) (aZ : Nat) (aL : Nat) (aP : Nat) (aC : Nat) (aH : Nat) (aE : Nat) (aM : Nat) (n : Nat) (sc : Nat) (np : Nat) (nc : Nat) (sp : Nat → Int32) (x : Int32) (A : Nat → Prop) : Array Value → State → Outcome → State → Prop := va_Qi (fun (r : Int32) (_ : Unit) => r = zI (unB n sp x)) (kB (dC, dI) vwCl [(cJ, .long), (cI, .int), (cZ, .boolean)] A (fun (_ : Unit) => [(h, .inr (0, [.ref aK, .ref aF, .ref aS, .ref aZ, .int (nI n), .ref aL, .int (nI sc), .ref aP, .ref aC, .int (nI np), .ref aH, .int (nI nc), .ref aE, .ref aM])), (aZ, .inl (cZ, 60, .inl sp))])) A
set_option maxHeartbeats 4000000 in
set_option maxRecDepth 100000 in
theorem k_X_isUnseparated (l : Launch) (dC : Nat → ClassId) (dI : Nat → Nat → Nat) (cJ cI cZ : ClassId) (sz : Nat) (h : Nat) (aK : Nat) (aF : Nat) (aS : Nat) (aZ : Nat) (aL : Nat) (aP : Nat) (aC : Nat) (aH : Nat) (aE : Nat) (aM : Nat) (n : Nat) (sc : Nat) (np : Nat) (nc : Nat) (sp : Nat → Int32) (x : Int32) (hn : n ≤ 60) : Met l y_X_isUnseparated w_X_isUnseparated { frames := 1, cells := 0, slots := 0, locals := 21 } (kPc (dC, dI) vwCl [(cJ, .long), (cI, .int), (cZ, .boolean)] [(h, .inr (0, [.ref aK, .ref aF, .ref aS, .ref aZ, .int (nI n), .ref aL, .int (nI sc), .ref aP, .ref aC, .int (nI np), .ref aH, .int (nI nc), .ref aE, .ref aM])), (aZ, .inl (cZ, 60, .inl sp))] sz [.ref h, .int x]) (q_X_isUnseparated dC dI cJ cI cZ h aK aF aS aZ aL aP aC aH aE aM n sc np nc sp x (va_A [(h, .inr (0, [.ref aK, .ref aF, .ref aS, .ref aZ, .int (nI n), .ref aL, .int (nI sc), .ref aP, .ref aC, .int (nI np), .ref aH, .int (nI nc), .ref aE, .ref aM])), (aZ, .inl (cZ, 60, .inl sp))] sz)) 0 0 (va_A [(h, .inr (0, [.ref aK, .ref aF, .ref aS, .ref aZ, .int (nI n), .ref aL, .int (nI sc), .ref aP, .ref aC, .int (nI np), .ref aH, .int (nI nc), .ref aE, .ref aM])), (aZ, .inl (cZ, 60, .inl sp))] sz) := by
  refine k_met (q_X_isUnseparated dC dI cJ cI cZ h aK aF aS aZ aL aP aC aH aE aM n sc np nc sp x) (by decide +kernel) rfl (Nat.le_of_ble_eq_true rfl) ?_
  intro p e s m below meth c A hx hb hr hml hown hts hlocks hin hA H hP hK hD hS ls hl
  have hl : lv_has ls 2 [(0, .ref h), (1, .int x)] := hl
  have hown : s.vm.findClass R_X = some m.cls := hown
  have hts : ∀ wW ∈ kT, wW.before [.ref h, .int x].toArray s = true := fun wW hW => hts wW (List.mem_cons_of_mem _ hW)
  refine lv_aload_n hx hb d_X_isUnseparated_0 rfl (lv_at hl 0 rfl) ?_
  refine lv_iload_n hx hb d_X_isUnseparated_1 rfl (lv_at hl 1 rfl) ?_
  refine k_calli (wr := [(aZ, .inl (cZ, 60, .inl sp))]) (va_runV (As := [.int x]) (rest := []) ⟨hx, hb, hml, hown, hts⟩ (k_X_isLot l dC dI cJ cI cZ _ h aK aF aS aZ aL aP aC aH aE aM n sc np nc x) (k_cw (y := y_X_isLot) (own := R_X) hts wd_68 wd_46 wd_67 wd_65 wd_66 hd_X_isLot ⟨Nat.le_of_ble_eq_true rfl, Nat.le_of_ble_eq_true rfl⟩) (k_preV (ci := 0) (q0 := 0) hP hD hK [0] rfl (by decide) rfl rfl) rfl rfl hl.1 rfl (lv_room (Nat.le_of_ble_eq_true rfl)) d_X_isUnseparated_2 ⟨Nat.le_of_ble_eq_true rfl, Nat.le_of_ble_eq_true rfl⟩) hP hD hS hA [0] [1] rfl rfl (by decide) (by decide) (fun r_2 uu H locs hpo hP hD hS => ?_)
  have hpo : r_2 = zI (lotB n x) := hpo
  subst hpo
  have hP : va_P (dC, dI) vwCl [(aZ, .inl (cZ, 60, .inl sp)), (h, .inr (0, [.ref aK, .ref aF, .ref aS, .ref aZ, .int (nI n), .ref aL, .int (nI sc), .ref aP, .ref aC, .int (nI np), .ref aH, .int (nI nc), .ref aE, .ref aM]))] H := hP
  have hD : va_D A [(aZ, .inl (cZ, 60, .inl sp)), (h, .inr (0, [.ref aK, .ref aF, .ref aS, .ref aZ, .int (nI n), .ref aL, .int (nI sc), .ref aP, .ref aC, .int (nI np), .ref aH, .int (nI nc), .ref aE, .ref aM]))] := hD
  refine k_zeq (tgt := 21) hx hb d_X_isUnseparated_5 (by decide) (fun c_5 => ?_) (fun c_5 => ?_)
  · refine lv_iconst (v := nI 0) hx hb d_X_isUnseparated_21 (by decide) ?_
    exact k_zret (v := nI 0) hx hb hr hlocks rfl () (by first | (unfold unB; rw [c_5]; rfl) | (unfold unB; rw [c_5, hcl, decide_eq_false c_14]; rfl) | (unfold unB; rw [c_5, hcl, decide_eq_true c_14]; rfl)) hP hD hK hS [1, 0] (by decide) rfl d_X_isUnseparated_22
  · obtain ⟨j, hj, rfl⟩ := lotB_nat (by omega) c_5
    have hcl : (nI j).toNatClampNeg = j := nI_clamp (by omega)
    refine lv_aload_n hx hb d_X_isUnseparated_8 rfl (lv_at hl 0 rfl) ?_
    refine va_get (D := (dC, dI)) (ci := 0) (v := .ref aZ) (C := R_X) (T := T_X) (N := 14) hx hb hts iT_X hown hK hP 1 rfl rfl 3 (by decide) (hts _ wd_9) (fun _ h9 => h9) rfl d_X_isUnseparated_9 ?_
    refine lv_iload_n hx hb d_X_isUnseparated_12 rfl (lv_at hl 1 rfl) ?_
    refine k_zald (j := j) hx hb hK hP 0 2 rfl rfl (by omega) (by decide) d_X_isUnseparated_13 ?_
    refine lv_if_ne (tgt := 21) hx hb d_X_isUnseparated_14 (by decide) (fun c_14 => ?_) (fun c_14 => ?_)
    · refine lv_iconst (v := nI 0) hx hb d_X_isUnseparated_21 (by decide) ?_
      exact k_zret (v := nI 0) hx hb hr hlocks rfl () (by first | (unfold unB; rw [c_5]; rfl) | (unfold unB; rw [c_5, hcl, decide_eq_false c_14]; rfl) | (unfold unB; rw [c_5, hcl, decide_eq_true c_14]; rfl)) hP hD hK hS [1, 0] (by decide) rfl d_X_isUnseparated_22
    · refine lv_iconst (v := nI 1) hx hb d_X_isUnseparated_17 (by decide) ?_
      refine lv_goto (tgt := 22) hx hb d_X_isUnseparated_18 (by decide) ?_
      exact k_zret (v := nI 1) hx hb hr hlocks rfl () (by first | (unfold unB; rw [c_5]; rfl) | (unfold unB; rw [c_5, hcl, decide_eq_false c_14]; rfl) | (unfold unB; rw [c_5, hcl, decide_eq_true c_14]; rfl)) hP hD hK hS [1, 0] (by decide) rfl d_X_isUnseparated_22
/-- X_addLot -/
abbrev q_X_addLot (dC : Nat → ClassId) (dI : Nat → Nat → Nat) (cJ cI cZ : ClassId) (h : Nat) (aK : Nat) (aF : Nat) (aS : Nat) (aZ : Nat) (aL : Nat) (aP : Nat) (aC : Nat) (aH : Nat) (aE : Nat) (aM : Nat) (n : Nat) (sc : Nat) (np : Nat) (nc : Nat) (kg : Nat → Int64) (ft : Nat → Int64) (so : Nat → Int64) (w : Int64) (f : Int64) (g : Int64) (A : Nat → Prop) : Array Value → State → Outcome → State → Prop := va_Qi (fun (r : Int32) (_ : Unit) => r = nI n) (kB (dC, dI) vwCl [(cJ, .long), (cI, .int), (cZ, .boolean)] A (fun (_ : Unit) => [(h, .inr (0, [.ref aK, .ref aF, .ref aS, .ref aZ, .int (nI (n + 1)), .ref aL, .int (nI sc), .ref aP, .ref aC, .int (nI np), .ref aH, .int (nI nc), .ref aE, .ref aM])), (aK, .inl (cJ, 60, .inr (.inl (vp_updL kg n w)))), (aF, .inl (cJ, 60, .inr (.inl (vp_updL ft n f)))), (aS, .inl (cJ, 60, .inr (.inl (vp_updL so n g))))])) A
set_option maxHeartbeats 4000000 in
set_option maxRecDepth 100000 in
theorem k_X_addLot (l : Launch) (dC : Nat → ClassId) (dI : Nat → Nat → Nat) (cJ cI cZ : ClassId) (sz : Nat) (h : Nat) (aK : Nat) (aF : Nat) (aS : Nat) (aZ : Nat) (aL : Nat) (aP : Nat) (aC : Nat) (aH : Nat) (aE : Nat) (aM : Nat) (n : Nat) (sc : Nat) (np : Nat) (nc : Nat) (kg : Nat → Int64) (ft : Nat → Int64) (so : Nat → Int64) (w : Int64) (f : Int64) (g : Int64) (hn : n < 60) : Met l y_X_addLot w_X_addLot { frames := 0, cells := 0, slots := 0, locals := 0 } (kPc (dC, dI) vwCl [(cJ, .long), (cI, .int), (cZ, .boolean)] [(h, .inr (0, [.ref aK, .ref aF, .ref aS, .ref aZ, .int (nI n), .ref aL, .int (nI sc), .ref aP, .ref aC, .int (nI np), .ref aH, .int (nI nc), .ref aE, .ref aM])), (aK, .inl (cJ, 60, .inr (.inl kg))), (aF, .inl (cJ, 60, .inr (.inl ft))), (aS, .inl (cJ, 60, .inr (.inl so)))] sz [.ref h, .long w, .long f, .long g]) (q_X_addLot dC dI cJ cI cZ h aK aF aS aZ aL aP aC aH aE aM n sc np nc kg ft so w f g (va_A [(h, .inr (0, [.ref aK, .ref aF, .ref aS, .ref aZ, .int (nI n), .ref aL, .int (nI sc), .ref aP, .ref aC, .int (nI np), .ref aH, .int (nI nc), .ref aE, .ref aM])), (aK, .inl (cJ, 60, .inr (.inl kg))), (aF, .inl (cJ, 60, .inr (.inl ft))), (aS, .inl (cJ, 60, .inr (.inl so)))] sz)) 0 0 (va_A [(h, .inr (0, [.ref aK, .ref aF, .ref aS, .ref aZ, .int (nI n), .ref aL, .int (nI sc), .ref aP, .ref aC, .int (nI np), .ref aH, .int (nI nc), .ref aE, .ref aM])), (aK, .inl (cJ, 60, .inr (.inl kg))), (aF, .inl (cJ, 60, .inr (.inl ft))), (aS, .inl (cJ, 60, .inr (.inl so)))] sz) := by
  refine k_met (q_X_addLot dC dI cJ cI cZ h aK aF aS aZ aL aP aC aH aE aM n sc np nc kg ft so w f g) (by decide +kernel) rfl (Nat.le_of_ble_eq_true rfl) ?_
  intro p e s m below meth c A hx hb hr hml hown hts hlocks hin hA H hP hK hD hS ls hl
  have hl : lv_has ls 8 [(0, .ref h), (1, .long w), (3, .long f), (5, .long g)] := hl
  have hown : s.vm.findClass R_X = some m.cls := hown
  have hts : ∀ wW ∈ kT, wW.before [.ref h, .long w, .long f, .long g].toArray s = true := fun wW hW => hts wW (List.mem_cons_of_mem _ hW)
  refine lv_aload_n hx hb d_X_addLot_0 rfl (lv_at hl 0 rfl) ?_
  refine va_get (D := (dC, dI)) (ci := 0) (v := .int (nI n)) (C := R_X) (T := T_X) (N := 14) hx hb hts iT_X hown hK hP 0 rfl rfl 4 (by decide) (hts _ wd_10) (fun _ h9 => h9) rfl d_X_addLot_1 ?_
  refine lv_istore (lv' := [(7, .int (nI n)), (0, .ref h), (1, .long w), (3, .long f), (5, .long g)]) hx hb d_X_addLot_4 hl (by decide) rfl (fun ls hl => ?_)
  refine lv_aload_n hx hb d_X_addLot_6 rfl (lv_at hl 1 rfl) ?_
  refine va_get (D := (dC, dI)) (ci := 0) (v := .ref aK) (C := R_X) (T := T_X) (N := 14) hx hb hts iT_X hown hK hP 0 rfl rfl 0 (by decide) (hts _ wd_5) (fun _ h9 => h9) rfl d_X_addLot_7 ?_
  refine lv_iload hx hb d_X_addLot_10 (lv_at hl 0 rfl) ?_
  refine lv_lload_n hx hb d_X_addLot_12 rfl (lv_at hl 2 rfl) ?_
  refine k_last (j := n) hx hb hK hP hD hS 1 0 rfl rfl (by omega) (by decide) d_X_addLot_13 (fun H locs hP hD hS => ?_)
  have hP : va_P (dC, dI) vwCl [(h, .inr (0, [.ref aK, .ref aF, .ref aS, .ref aZ, .int (nI n), .ref aL, .int (nI sc), .ref aP, .ref aC, .int (nI np), .ref aH, .int (nI nc), .ref aE, .ref aM])), (aK, .inl (cJ, 60, .inr (.inl (vp_updL kg n w)))), (aF, .inl (cJ, 60, .inr (.inl ft))), (aS, .inl (cJ, 60, .inr (.inl so)))] H := hP
  have hD : va_D A [(h, .inr (0, [.ref aK, .ref aF, .ref aS, .ref aZ, .int (nI n), .ref aL, .int (nI sc), .ref aP, .ref aC, .int (nI np), .ref aH, .int (nI nc), .ref aE, .ref aM])), (aK, .inl (cJ, 60, .inr (.inl (vp_updL kg n w)))), (aF, .inl (cJ, 60, .inr (.inl ft))), (aS, .inl (cJ, 60, .inr (.inl so)))] := hD
  refine lv_aload_n hx hb d_X_addLot_14 rfl (lv_at hl 1 rfl) ?_
  refine va_get (D := (dC, dI)) (ci := 0) (v := .ref aF) (C := R_X) (T := T_X) (N := 14) hx hb hts iT_X hown hK hP 0 rfl rfl 1 (by decide) (hts _ wd_6) (fun _ h9 => h9) rfl d_X_addLot_15 ?_
  refine lv_iload hx hb d_X_addLot_18 (lv_at hl 0 rfl) ?_
  refine lv_lload_n hx hb d_X_addLot_20 rfl (lv_at hl 3 rfl) ?_
  refine k_last (j := n) hx hb hK hP hD hS 2 0 rfl rfl (by omega) (by decide) d_X_addLot_21 (fun H locs hP hD hS => ?_)
  have hP : va_P (dC, dI) vwCl [(h, .inr (0, [.ref aK, .ref aF, .ref aS, .ref aZ, .int (nI n), .ref aL, .int (nI sc), .ref aP, .ref aC, .int (nI np), .ref aH, .int (nI nc), .ref aE, .ref aM])), (aK, .inl (cJ, 60, .inr (.inl (vp_updL kg n w)))), (aF, .inl (cJ, 60, .inr (.inl (vp_updL ft n f)))), (aS, .inl (cJ, 60, .inr (.inl so)))] H := hP
  have hD : va_D A [(h, .inr (0, [.ref aK, .ref aF, .ref aS, .ref aZ, .int (nI n), .ref aL, .int (nI sc), .ref aP, .ref aC, .int (nI np), .ref aH, .int (nI nc), .ref aE, .ref aM])), (aK, .inl (cJ, 60, .inr (.inl (vp_updL kg n w)))), (aF, .inl (cJ, 60, .inr (.inl (vp_updL ft n f)))), (aS, .inl (cJ, 60, .inr (.inl so)))] := hD
  refine lv_aload_n hx hb d_X_addLot_22 rfl (lv_at hl 1 rfl) ?_
  refine va_get (D := (dC, dI)) (ci := 0) (v := .ref aS) (C := R_X) (T := T_X) (N := 14) hx hb hts iT_X hown hK hP 0 rfl rfl 2 (by decide) (hts _ wd_7) (fun _ h9 => h9) rfl d_X_addLot_23 ?_
  refine lv_iload hx hb d_X_addLot_26 (lv_at hl 0 rfl) ?_
  refine lv_lload hx hb d_X_addLot_28 (lv_at hl 4 rfl) ?_
  refine k_last (j := n) hx hb hK hP hD hS 3 0 rfl rfl (by omega) (by decide) d_X_addLot_30 (fun H locs hP hD hS => ?_)
  have hP : va_P (dC, dI) vwCl [(h, .inr (0, [.ref aK, .ref aF, .ref aS, .ref aZ, .int (nI n), .ref aL, .int (nI sc), .ref aP, .ref aC, .int (nI np), .ref aH, .int (nI nc), .ref aE, .ref aM])), (aK, .inl (cJ, 60, .inr (.inl (vp_updL kg n w)))), (aF, .inl (cJ, 60, .inr (.inl (vp_updL ft n f)))), (aS, .inl (cJ, 60, .inr (.inl (vp_updL so n g))))] H := hP
  have hD : va_D A [(h, .inr (0, [.ref aK, .ref aF, .ref aS, .ref aZ, .int (nI n), .ref aL, .int (nI sc), .ref aP, .ref aC, .int (nI np), .ref aH, .int (nI nc), .ref aE, .ref aM])), (aK, .inl (cJ, 60, .inr (.inl (vp_updL kg n w)))), (aF, .inl (cJ, 60, .inr (.inl (vp_updL ft n f)))), (aS, .inl (cJ, 60, .inr (.inl (vp_updL so n g))))] := hD
  refine lv_aload_n hx hb d_X_addLot_31 rfl (lv_at hl 1 rfl) ?_
  refine lv_dup hx hb d_X_addLot_32 rfl ?_
  refine va_get (D := (dC, dI)) (ci := 0) (v := .int (nI n)) (C := R_X) (T := T_X) (N := 14) hx hb hts iT_X hown hK hP 0 rfl rfl 4 (by decide) (hts _ wd_10) (fun _ h9 => h9) rfl d_X_addLot_33 ?_
  refine lv_iconst (v := nI 1) hx hb d_X_addLot_36 (by decide) ?_
  refine lv_iadd hx hb d_X_addLot_37 ?_
  refine k_toi (nI_add n 1) ?_
  refine va_put (D := (dC, dI)) (ci := 0) (v := .int (nI (n + 1))) (ty := .int) (C := R_X) (T := T_X) (N := 14) hx hb hts iT_X t_X t_X_ok n_X hown hK hP hD hS 0 rfl rfl 4 (by decide) (hts _ wd_10) (fun _ h9 => h9) rfl (by decide +kernel) rfl rfl (Nat.le_of_ble_eq_true rfl) d_X_addLot_38 (fun H locs hP hD hS => ?_)
  have hP : va_P (dC, dI) vwCl [(h, .inr (0, [.ref aK, .ref aF, .ref aS, .ref aZ, .int (nI (n + 1)), .ref aL, .int (nI sc), .ref aP, .ref aC, .int (nI np), .ref aH, .int (nI nc), .ref aE, .ref aM])), (aK, .inl (cJ, 60, .inr (.inl (vp_updL kg n w)))), (aF, .inl (cJ, 60, .inr (.inl (vp_updL ft n f)))), (aS, .inl (cJ, 60, .inr (.inl (vp_updL so n g))))] H := hP
  have hD : va_D A [(h, .inr (0, [.ref aK, .ref aF, .ref aS, .ref aZ, .int (nI (n + 1)), .ref aL, .int (nI sc), .ref aP, .ref aC, .int (nI np), .ref aH, .int (nI nc), .ref aE, .ref aM])), (aK, .inl (cJ, 60, .inr (.inl (vp_updL kg n w)))), (aF, .inl (cJ, 60, .inr (.inl (vp_updL ft n f)))), (aS, .inl (cJ, 60, .inr (.inl (vp_updL so n g))))] := hD
  refine lv_iload hx hb d_X_addLot_41 (lv_at hl 0 rfl) ?_
  exact k_iret (v := nI n) hx hb hr hlocks () rfl hP hD hK hS [0, 1, 2, 3] (by decide) rfl d_X_addLot_43
/-- X_lot -/
abbrev q_X_lot (dC : Nat → ClassId) (dI : Nat → Nat → Nat) (cJ cI cZ : ClassId) (h : Nat) (aK : Nat) (aF : Nat) (aS : Nat) (aZ : Nat) (aL : Nat) (aP : Nat) (aC : Nat) (aH : Nat) (aE : Nat) (aM : Nat) (n : Nat) (sc : Nat) (np : Nat) (nc : Nat) (kg : Nat → Int64) (ft : Nat → Int64) (so : Nat → Int64) (w : Int64) (a : Int64) (b : Int64) (A : Nat → Prop) : Array Value → State → Outcome → State → Prop := va_Qi (fun (r : Int32) (_ : Unit) => r = loA n w a b) (kB (dC, dI) vwCl [(cJ, .long), (cI, .int), (cZ, .boolean)] A (fun (_ : Unit) => [(h, .inr (0, [.ref aK, .ref aF, .ref aS, .ref aZ, .int (nI (bN (loY n w a b) (n + 1) n)), .ref aL, .int (nI sc), .ref aP, .ref aC, .int (nI np), .ref aH, .int (nI nc), .ref aE, .ref aM])), (aK, .inl (cJ, 60, .inr (.inl (bL (loY n w a b) (vp_updL kg n w) kg)))), (aF, .inl (cJ, 60, .inr (.inl (bL (loY n w a b) (vp_updL ft n (wpF a b)) ft)))), (aS, .inl (cJ, 60, .inr (.inl (bL (loY n w a b) (vp_updL so n 0) so))))])) A
set_option maxHeartbeats 4000000 in
set_option maxRecDepth 100000 in
theorem k_X_lot (l : Launch) (dC : Nat → ClassId) (dI : Nat → Nat → Nat) (cJ cI cZ : ClassId) (sz : Nat) (h : Nat) (aK : Nat) (aF : Nat) (aS : Nat) (aZ : Nat) (aL : Nat) (aP : Nat) (aC : Nat) (aH : Nat) (aE : Nat) (aM : Nat) (n : Nat) (sc : Nat) (np : Nat) (nc : Nat) (kg : Nat → Int64) (ft : Nat → Int64) (so : Nat → Int64) (w : Int64) (a : Int64) (b : Int64) (hn : n ≤ 60) : Met l y_X_lot w_X_lot { frames := 2, cells := 0, slots := 0, locals := 50 } (kPc (dC, dI) vwCl [(cJ, .long), (cI, .int), (cZ, .boolean)] [(h, .inr (0, [.ref aK, .ref aF, .ref aS, .ref aZ, .int (nI n), .ref aL, .int (nI sc), .ref aP, .ref aC, .int (nI np), .ref aH, .int (nI nc), .ref aE, .ref aM])), (aK, .inl (cJ, 60, .inr (.inl kg))), (aF, .inl (cJ, 60, .inr (.inl ft))), (aS, .inl (cJ, 60, .inr (.inl so)))] sz [.ref h, .long w, .long a, .long b]) (q_X_lot dC dI cJ cI cZ h aK aF aS aZ aL aP aC aH aE aM n sc np nc kg ft so w a b (va_A [(h, .inr (0, [.ref aK, .ref aF, .ref aS, .ref aZ, .int (nI n), .ref aL, .int (nI sc), .ref aP, .ref aC, .int (nI np), .ref aH, .int (nI nc), .ref aE, .ref aM])), (aK, .inl (cJ, 60, .inr (.inl kg))), (aF, .inl (cJ, 60, .inr (.inl ft))), (aS, .inl (cJ, 60, .inr (.inl so)))] sz)) 0 0 (va_A [(h, .inr (0, [.ref aK, .ref aF, .ref aS, .ref aZ, .int (nI n), .ref aL, .int (nI sc), .ref aP, .ref aC, .int (nI np), .ref aH, .int (nI nc), .ref aE, .ref aM])), (aK, .inl (cJ, 60, .inr (.inl kg))), (aF, .inl (cJ, 60, .inr (.inl ft))), (aS, .inl (cJ, 60, .inr (.inl so)))] sz) := by
  refine k_met (q_X_lot dC dI cJ cI cZ h aK aF aS aZ aL aP aC aH aE aM n sc np nc kg ft so w a b) (by decide +kernel) rfl (Nat.le_of_ble_eq_true rfl) ?_
  intro p e s m below meth c A hx hb hr hml hown hts hlocks hin hA H hP hK hD hS ls hl
  have hl : lv_has ls 9 [(0, .ref h), (1, .long w), (3, .long a), (5, .long b)] := hl
  have hown : s.vm.findClass R_X = some m.cls := hown
  have hts : ∀ wW ∈ kT, wW.before [.ref h, .long w, .long a, .long b].toArray s = true := fun wW hW => hts wW (List.mem_cons_of_mem _ hW)
  refine lv_lload_n hx hb d_X_lot_0 rfl (lv_at hl 2 rfl) ?_
  refine lv_lload hx hb d_X_lot_1 (lv_at hl 3 rfl) ?_
  refine k_calll (wr := [(h, .inr (0, [.ref aK, .ref aF, .ref aS, .ref aZ, .int (nI n), .ref aL, .int (nI sc), .ref aP, .ref aC, .int (nI np), .ref aH, .int (nI nc), .ref aE, .ref aM])), (aK, .inl (cJ, 60, .inr (.inl kg))), (aF, .inl (cJ, 60, .inr (.inl ft))), (aS, .inl (cJ, 60, .inr (.inl so)))]) (va_runS (As := [.long a, .long b]) (rest := []) ⟨hx, hb, hml, hown, hts⟩ (k_X_wholeParts l dC dI cJ cI cZ _ a b) (k_cs (y := y_X_wholeParts) (own := R_X) hts wd_56 wd_46 wd_48 wd_47 hd_X_wholeParts ⟨Nat.le_of_ble_eq_true rfl, Nat.le_of_ble_eq_true rfl⟩) (k_preS hP hD hK [] rfl (by decide)) rfl rfl hl.1 rfl (lv_room (Nat.le_of_ble_eq_true rfl)) d_X_lot_3 ⟨Nat.le_of_ble_eq_true rfl, Nat.le_of_ble_eq_true rfl⟩) hP hD hS hA [] [0, 1, 2, 3] rfl rfl (by decide) (by decide) (fun r_3 uu H locs hpo hP hD hS => ?_)
  have hpo : r_3 = wpF a b := hpo
  subst hpo
  have hP : va_P (dC, dI) vwCl [(h, .inr (0, [.ref aK, .ref aF, .ref aS, .ref aZ, .int (nI n), .ref aL, .int (nI sc), .ref aP, .ref aC, .int (nI np), .ref aH, .int (nI nc), .ref aE, .ref aM])), (aK, .inl (cJ, 60, .inr (.inl kg))), (aF, .inl (cJ, 60, .inr (.inl ft))), (aS, .inl (cJ, 60, .inr (.inl so)))] H := hP
  have hD : va_D A [(h, .inr (0, [.ref aK, .ref aF, .ref aS, .ref aZ, .int (nI n), .ref aL, .int (nI sc), .ref aP, .ref aC, .int (nI np), .ref aH, .int (nI nc), .ref aE, .ref aM])), (aK, .inl (cJ, 60, .inr (.inl kg))), (aF, .inl (cJ, 60, .inr (.inl ft))), (aS, .inl (cJ, 60, .inr (.inl so)))] := hD
  refine lv_lstore (lv' := [(7, .long (wpF a b)), (0, .ref h), (1, .long w), (3, .long a), (5, .long b)]) hx hb d_X_lot_6 hl (by decide) rfl (fun ls hl => ?_)
  refine lv_lload_n hx hb d_X_lot_8 rfl (lv_at hl 2 rfl) ?_
  refine lv_lconst (v := 1) hx hb d_X_lot_9 (by decide) ?_
  refine lv_ldc2 (v := 1000000) hx hb hown (hts _ wd_49) d_X_lot_10 ?_
  refine k_calli (wr := [(h, .inr (0, [.ref aK, .ref aF, .ref aS, .ref aZ, .int (nI n), .ref aL, .int (nI sc), .ref aP, .ref aC, .int (nI np), .ref aH, .int (nI nc), .ref aE, .ref aM])), (aK, .inl (cJ, 60, .inr (.inl kg))), (aF, .inl (cJ, 60, .inr (.inl ft))), (aS, .inl (cJ, 60, .inr (.inl so)))]) (va_runS (As := [.long w, .long 1, .long 1000000]) (rest := []) ⟨hx, hb, hml, hown, hts⟩ (k_X_isWithin l dC dI cJ cI cZ _ w 1 1000000) (k_cs (y := y_X_isWithin) (own := R_X) hts wd_58 wd_46 wd_51 wd_50 hd_X_isWithin ⟨Nat.le_of_ble_eq_true rfl, Nat.le_of_ble_eq_true rfl⟩) (k_preS hP hD hK [] rfl (by decide)) rfl rfl hl.1 rfl (lv_room (Nat.le_of_ble_eq_true rfl)) d_X_lot_13 ⟨Nat.le_of_ble_eq_true rfl, Nat.le_of_ble_eq_true rfl⟩) hP hD hS hA [] [0, 1, 2, 3] rfl rfl (by decide) (by decide) (fun r_13 uu H locs hpo hP hD hS => ?_)
  have hpo : r_13 = zI (inB w 1 1000000) := hpo
  subst hpo
  have hP : va_P (dC, dI) vwCl [(h, .inr (0, [.ref aK, .ref aF, .ref aS, .ref aZ, .int (nI n), .ref aL, .int (nI sc), .ref aP, .ref aC, .int (nI np), .ref aH, .int (nI nc), .ref aE, .ref aM])), (aK, .inl (cJ, 60, .inr (.inl kg))), (aF, .inl (cJ, 60, .inr (.inl ft))), (aS, .inl (cJ, 60, .inr (.inl so)))] H := hP
  have hD : va_D A [(h, .inr (0, [.ref aK, .ref aF, .ref aS, .ref aZ, .int (nI n), .ref aL, .int (nI sc), .ref aP, .ref aC, .int (nI np), .ref aH, .int (nI nc), .ref aE, .ref aM])), (aK, .inl (cJ, 60, .inr (.inl kg))), (aF, .inl (cJ, 60, .inr (.inl ft))), (aS, .inl (cJ, 60, .inr (.inl so)))] := hD
  refine k_zeq (tgt := 28) hx hb d_X_lot_16 (by decide) (fun c_16 => ?_) (fun c_16 => ?_)
  · refine lv_iconst (v := (-1)) hx hb d_X_lot_28 (by decide) ?_
    have hR : loR w a b = false := by first | (unfold loR; rw [c_16]; rfl) | (unfold loR nP; rw [c_16, decide_eq_true c_24]; rfl)
    have hY : loY n w a b = false := by unfold loY; rw [hR]; rfl
    have fq_0 : bN (loY n w a b) (n + 1) n = n := bN_f hY
    have fq_1 : bL (loY n w a b) (vp_updL kg n w) kg = kg := bL_f hY
    have fq_2 : bL (loY n w a b) (vp_updL ft n (wpF a b)) ft = ft := bL_f hY
    have fq_3 : bL (loY n w a b) (vp_updL so n 0) so = so := bL_f hY
    have hP : va_P (dC, dI) vwCl [(h, .inr (0, [.ref aK, .ref aF, .ref aS, .ref aZ, .int (nI (bN (loY n w a b) (n + 1) n)), .ref aL, .int (nI sc), .ref aP, .ref aC, .int (nI np), .ref aH, .int (nI nc), .ref aE, .ref aM])), (aK, .inl (cJ, 60, .inr (.inl (bL (loY n w a b) (vp_updL kg n w) kg)))), (aF, .inl (cJ, 60, .inr (.inl (bL (loY n w a b) (vp_updL ft n (wpF a b)) ft)))), (aS, .inl (cJ, 60, .inr (.inl (bL (loY n w a b) (vp_updL so n 0) so))))] H := by rw [fq_0, fq_1, fq_2, fq_3]; exact hP
    have hD : va_D A [(h, .inr (0, [.ref aK, .ref aF, .ref aS, .ref aZ, .int (nI (bN (loY n w a b) (n + 1) n)), .ref aL, .int (nI sc), .ref aP, .ref aC, .int (nI np), .ref aH, .int (nI nc), .ref aE, .ref aM])), (aK, .inl (cJ, 60, .inr (.inl (bL (loY n w a b) (vp_updL kg n w) kg)))), (aF, .inl (cJ, 60, .inr (.inl (bL (loY n w a b) (vp_updL ft n (wpF a b)) ft)))), (aS, .inl (cJ, 60, .inr (.inl (bL (loY n w a b) (vp_updL so n 0) so))))] := by rw [fq_0, fq_1, fq_2, fq_3]; exact hD
    exact k_iret (v := (-1)) hx hb hr hlocks () (by unfold loA; rw [hR]; rfl) hP hD hK hS [0, 1, 2, 3] (by decide) rfl d_X_lot_29
  · refine lv_lload hx hb d_X_lot_19 (lv_at hl 0 rfl) ?_
    refine lv_ldc2 (v := (-1)) hx hb hown (hts _ wd_52) d_X_lot_21 ?_
    refine k_jne (tgt := 30) hx hb d_X_lot_24 d_X_lot_25 (by decide) (fun c_24 => ?_) (fun c_24 => ?_)
    · refine lv_aload_n hx hb d_X_lot_30 rfl (lv_at hl 1 rfl) ?_
      refine va_get (D := (dC, dI)) (ci := 0) (v := .int (nI n)) (C := R_X) (T := T_X) (N := 14) hx hb hts iT_X hown hK hP 0 rfl rfl 4 (by decide) (hts _ wd_10) (fun _ h9 => h9) rfl d_X_lot_31 ?_
      refine lv_bipush (v := nI 60) hx hb d_X_lot_34 (by decide) ?_
      refine k_nlt (tgt := 42) hx hb d_X_lot_36 (by decide) (by omega) (by omega) (fun c_36 => ?_) (fun c_36 => ?_)
      · refine lv_aload_n hx hb d_X_lot_42 rfl (lv_at hl 1 rfl) ?_
        refine lv_lload_n hx hb d_X_lot_43 rfl (lv_at hl 2 rfl) ?_
        refine lv_lload hx hb d_X_lot_44 (lv_at hl 0 rfl) ?_
        refine lv_lconst (v := 0) hx hb d_X_lot_46 (by decide) ?_
        refine k_calli (wr := []) (va_runV (As := [.long w, .long (wpF a b), .long 0]) (rest := []) ⟨hx, hb, hml, hown, hts⟩ (k_X_addLot l dC dI cJ cI cZ _ h aK aF aS aZ aL aP aC aH aE aM n sc np nc kg ft so w (wpF a b) 0 (by omega)) (k_cw (y := y_X_addLot) (own := R_X) hts wd_59 wd_46 wd_55 wd_53 wd_54 hd_X_addLot ⟨Nat.le_of_ble_eq_true rfl, Nat.le_of_ble_eq_true rfl⟩) (k_preV (ci := 0) (q0 := 0) hP hD hK [0, 1, 2, 3] rfl (by decide) rfl rfl) rfl rfl hl.1 rfl (lv_room (Nat.le_of_ble_eq_true rfl)) d_X_lot_47 ⟨Nat.le_of_ble_eq_true rfl, Nat.le_of_ble_eq_true rfl⟩) hP hD hS hA [0, 1, 2, 3] [] rfl rfl (by decide) (by decide) (fun r_47 uu H locs hpo hP hD hS => ?_)
        have hpo : r_47 = nI n := hpo
        subst hpo
        have hP : va_P (dC, dI) vwCl [(h, .inr (0, [.ref aK, .ref aF, .ref aS, .ref aZ, .int (nI (n + 1)), .ref aL, .int (nI sc), .ref aP, .ref aC, .int (nI np), .ref aH, .int (nI nc), .ref aE, .ref aM])), (aK, .inl (cJ, 60, .inr (.inl (vp_updL kg n w)))), (aF, .inl (cJ, 60, .inr (.inl (vp_updL ft n (wpF a b))))), (aS, .inl (cJ, 60, .inr (.inl (vp_updL so n 0))))] H := hP
        have hD : va_D A [(h, .inr (0, [.ref aK, .ref aF, .ref aS, .ref aZ, .int (nI (n + 1)), .ref aL, .int (nI sc), .ref aP, .ref aC, .int (nI np), .ref aH, .int (nI nc), .ref aE, .ref aM])), (aK, .inl (cJ, 60, .inr (.inl (vp_updL kg n w)))), (aF, .inl (cJ, 60, .inr (.inl (vp_updL ft n (wpF a b))))), (aS, .inl (cJ, 60, .inr (.inl (vp_updL so n 0))))] := hD
        have hR : loR w a b = true := by unfold loR nP; rw [c_16, decide_eq_false c_24]; rfl
        have hY : loY n w a b = true := by unfold loY; rw [hR, decide_eq_true c_36]; rfl
        have fq_0 : bN (loY n w a b) (n + 1) n = n + 1 := bN_t hY
        have fq_1 : bL (loY n w a b) (vp_updL kg n w) kg = vp_updL kg n w := bL_t hY
        have fq_2 : bL (loY n w a b) (vp_updL ft n (wpF a b)) ft = vp_updL ft n (wpF a b) := bL_t hY
        have fq_3 : bL (loY n w a b) (vp_updL so n 0) so = vp_updL so n 0 := bL_t hY
        have hP : va_P (dC, dI) vwCl [(h, .inr (0, [.ref aK, .ref aF, .ref aS, .ref aZ, .int (nI (bN (loY n w a b) (n + 1) n)), .ref aL, .int (nI sc), .ref aP, .ref aC, .int (nI np), .ref aH, .int (nI nc), .ref aE, .ref aM])), (aK, .inl (cJ, 60, .inr (.inl (bL (loY n w a b) (vp_updL kg n w) kg)))), (aF, .inl (cJ, 60, .inr (.inl (bL (loY n w a b) (vp_updL ft n (wpF a b)) ft)))), (aS, .inl (cJ, 60, .inr (.inl (bL (loY n w a b) (vp_updL so n 0) so))))] H := by rw [fq_0, fq_1, fq_2, fq_3]; exact hP
        have hD : va_D A [(h, .inr (0, [.ref aK, .ref aF, .ref aS, .ref aZ, .int (nI (bN (loY n w a b) (n + 1) n)), .ref aL, .int (nI sc), .ref aP, .ref aC, .int (nI np), .ref aH, .int (nI nc), .ref aE, .ref aM])), (aK, .inl (cJ, 60, .inr (.inl (bL (loY n w a b) (vp_updL kg n w) kg)))), (aF, .inl (cJ, 60, .inr (.inl (bL (loY n w a b) (vp_updL ft n (wpF a b)) ft)))), (aS, .inl (cJ, 60, .inr (.inl (bL (loY n w a b) (vp_updL so n 0) so))))] := by rw [fq_0, fq_1, fq_2, fq_3]; exact hD
        exact k_iret (v := nI n) hx hb hr hlocks () (by unfold loA; rw [hR, if_pos c_36]; rfl) hP hD hK hS [0, 1, 2, 3] (by decide) rfl d_X_lot_50
      · refine lv_bipush (v := (-2)) hx hb d_X_lot_39 (by decide) ?_
        have hR : loR w a b = true := by unfold loR nP; rw [c_16, decide_eq_false c_24]; rfl
        have hY : loY n w a b = false := by unfold loY; rw [hR, decide_eq_false (by omega)]; rfl
        have fq_0 : bN (loY n w a b) (n + 1) n = n := bN_f hY
        have fq_1 : bL (loY n w a b) (vp_updL kg n w) kg = kg := bL_f hY
        have fq_2 : bL (loY n w a b) (vp_updL ft n (wpF a b)) ft = ft := bL_f hY
        have fq_3 : bL (loY n w a b) (vp_updL so n 0) so = so := bL_f hY
        have hP : va_P (dC, dI) vwCl [(h, .inr (0, [.ref aK, .ref aF, .ref aS, .ref aZ, .int (nI (bN (loY n w a b) (n + 1) n)), .ref aL, .int (nI sc), .ref aP, .ref aC, .int (nI np), .ref aH, .int (nI nc), .ref aE, .ref aM])), (aK, .inl (cJ, 60, .inr (.inl (bL (loY n w a b) (vp_updL kg n w) kg)))), (aF, .inl (cJ, 60, .inr (.inl (bL (loY n w a b) (vp_updL ft n (wpF a b)) ft)))), (aS, .inl (cJ, 60, .inr (.inl (bL (loY n w a b) (vp_updL so n 0) so))))] H := by rw [fq_0, fq_1, fq_2, fq_3]; exact hP
        have hD : va_D A [(h, .inr (0, [.ref aK, .ref aF, .ref aS, .ref aZ, .int (nI (bN (loY n w a b) (n + 1) n)), .ref aL, .int (nI sc), .ref aP, .ref aC, .int (nI np), .ref aH, .int (nI nc), .ref aE, .ref aM])), (aK, .inl (cJ, 60, .inr (.inl (bL (loY n w a b) (vp_updL kg n w) kg)))), (aF, .inl (cJ, 60, .inr (.inl (bL (loY n w a b) (vp_updL ft n (wpF a b)) ft)))), (aS, .inl (cJ, 60, .inr (.inl (bL (loY n w a b) (vp_updL so n 0) so))))] := by rw [fq_0, fq_1, fq_2, fq_3]; exact hD
        exact k_iret (v := (-2)) hx hb hr hlocks () (by unfold loA; rw [hR, if_neg (Nat.not_lt.mpr c_36)]; rfl) hP hD hK hS [0, 1, 2, 3] (by decide) rfl d_X_lot_41
    · refine lv_iconst (v := (-1)) hx hb d_X_lot_28 (by decide) ?_
      have hR : loR w a b = false := by first | (unfold loR; rw [c_16]; rfl) | (unfold loR nP; rw [c_16, decide_eq_true c_24]; rfl)
      have hY : loY n w a b = false := by unfold loY; rw [hR]; rfl
      have fq_0 : bN (loY n w a b) (n + 1) n = n := bN_f hY
      have fq_1 : bL (loY n w a b) (vp_updL kg n w) kg = kg := bL_f hY
      have fq_2 : bL (loY n w a b) (vp_updL ft n (wpF a b)) ft = ft := bL_f hY
      have fq_3 : bL (loY n w a b) (vp_updL so n 0) so = so := bL_f hY
      have hP : va_P (dC, dI) vwCl [(h, .inr (0, [.ref aK, .ref aF, .ref aS, .ref aZ, .int (nI (bN (loY n w a b) (n + 1) n)), .ref aL, .int (nI sc), .ref aP, .ref aC, .int (nI np), .ref aH, .int (nI nc), .ref aE, .ref aM])), (aK, .inl (cJ, 60, .inr (.inl (bL (loY n w a b) (vp_updL kg n w) kg)))), (aF, .inl (cJ, 60, .inr (.inl (bL (loY n w a b) (vp_updL ft n (wpF a b)) ft)))), (aS, .inl (cJ, 60, .inr (.inl (bL (loY n w a b) (vp_updL so n 0) so))))] H := by rw [fq_0, fq_1, fq_2, fq_3]; exact hP
      have hD : va_D A [(h, .inr (0, [.ref aK, .ref aF, .ref aS, .ref aZ, .int (nI (bN (loY n w a b) (n + 1) n)), .ref aL, .int (nI sc), .ref aP, .ref aC, .int (nI np), .ref aH, .int (nI nc), .ref aE, .ref aM])), (aK, .inl (cJ, 60, .inr (.inl (bL (loY n w a b) (vp_updL kg n w) kg)))), (aF, .inl (cJ, 60, .inr (.inl (bL (loY n w a b) (vp_updL ft n (wpF a b)) ft)))), (aS, .inl (cJ, 60, .inr (.inl (bL (loY n w a b) (vp_updL so n 0) so))))] := by rw [fq_0, fq_1, fq_2, fq_3]; exact hD
      exact k_iret (v := (-1)) hx hb hr hlocks () (by unfold loA; rw [hR]; rfl) hP hD hK hS [0, 1, 2, 3] (by decide) rfl d_X_lot_29
/-- X_solids -/
abbrev q_X_solids (dC : Nat → ClassId) (dI : Nat → Nat → Nat) (cJ cI cZ : ClassId) (h : Nat) (aK : Nat) (aF : Nat) (aS : Nat) (aZ : Nat) (aL : Nat) (aP : Nat) (aC : Nat) (aH : Nat) (aE : Nat) (aM : Nat) (n : Nat) (sc : Nat) (np : Nat) (nc : Nat) (sp : Nat → Int32) (ft : Nat → Int64) (so : Nat → Int64) (x : Int32) (a : Int64) (b : Int64) (A : Nat → Prop) : Array Value → State → Outcome → State → Prop := va_Qi (fun (r : Int32) (_ : Unit) => r = zI (soY n sp ft x a b)) (kB (dC, dI) vwCl [(cJ, .long), (cI, .int), (cZ, .boolean)] A (fun (_ : Unit) => [(h, .inr (0, [.ref aK, .ref aF, .ref aS, .ref aZ, .int (nI n), .ref aL, .int (nI sc), .ref aP, .ref aC, .int (nI np), .ref aH, .int (nI nc), .ref aE, .ref aM])), (aZ, .inl (cZ, 60, .inl sp)), (aF, .inl (cJ, 60, .inr (.inl ft))), (aS, .inl (cJ, 60, .inr (.inl (bL (soY n sp ft x a b) (vp_updL so x.toNatClampNeg (wpF a b)) so))))])) A
set_option maxHeartbeats 4000000 in
set_option maxRecDepth 100000 in
theorem k_X_solids (l : Launch) (dC : Nat → ClassId) (dI : Nat → Nat → Nat) (cJ cI cZ : ClassId) (sz : Nat) (h : Nat) (aK : Nat) (aF : Nat) (aS : Nat) (aZ : Nat) (aL : Nat) (aP : Nat) (aC : Nat) (aH : Nat) (aE : Nat) (aM : Nat) (n : Nat) (sc : Nat) (np : Nat) (nc : Nat) (sp : Nat → Int32) (ft : Nat → Int64) (so : Nat → Int64) (x : Int32) (a : Int64) (b : Int64) (hn : n ≤ 60) : Met l y_X_solids w_X_solids { frames := 2, cells := 0, slots := 0, locals := 50 } (kPc (dC, dI) vwCl [(cJ, .long), (cI, .int), (cZ, .boolean)] [(h, .inr (0, [.ref aK, .ref aF, .ref aS, .ref aZ, .int (nI n), .ref aL, .int (nI sc), .ref aP, .ref aC, .int (nI np), .ref aH, .int (nI nc), .ref aE, .ref aM])), (aZ, .inl (cZ, 60, .inl sp)), (aF, .inl (cJ, 60, .inr (.inl ft))), (aS, .inl (cJ, 60, .inr (.inl so)))] sz [.ref h, .int x, .long a, .long b]) (q_X_solids dC dI cJ cI cZ h aK aF aS aZ aL aP aC aH aE aM n sc np nc sp ft so x a b (va_A [(h, .inr (0, [.ref aK, .ref aF, .ref aS, .ref aZ, .int (nI n), .ref aL, .int (nI sc), .ref aP, .ref aC, .int (nI np), .ref aH, .int (nI nc), .ref aE, .ref aM])), (aZ, .inl (cZ, 60, .inl sp)), (aF, .inl (cJ, 60, .inr (.inl ft))), (aS, .inl (cJ, 60, .inr (.inl so)))] sz)) 0 0 (va_A [(h, .inr (0, [.ref aK, .ref aF, .ref aS, .ref aZ, .int (nI n), .ref aL, .int (nI sc), .ref aP, .ref aC, .int (nI np), .ref aH, .int (nI nc), .ref aE, .ref aM])), (aZ, .inl (cZ, 60, .inl sp)), (aF, .inl (cJ, 60, .inr (.inl ft))), (aS, .inl (cJ, 60, .inr (.inl so)))] sz) := by
  refine k_met (q_X_solids dC dI cJ cI cZ h aK aF aS aZ aL aP aC aH aE aM n sc np nc sp ft so x a b) (by decide +kernel) rfl (Nat.le_of_ble_eq_true rfl) ?_
  intro p e s m below meth c A hx hb hr hml hown hts hlocks hin hA H hP hK hD hS ls hl
  have hl : lv_has ls 8 [(0, .ref h), (1, .int x), (2, .long a), (4, .long b)] := hl
  have hown : s.vm.findClass R_X = some m.cls := hown
  have hts : ∀ wW ∈ kT, wW.before [.ref h, .int x, .long a, .long b].toArray s = true := fun wW hW => hts wW (List.mem_cons_of_mem _ hW)
  refine lv_lload_n hx hb d_X_solids_0 rfl (lv_at hl 2 rfl) ?_
  refine lv_lload hx hb d_X_solids_1 (lv_at hl 3 rfl) ?_
  refine k_calll (wr := [(h, .inr (0, [.ref aK, .ref aF, .ref aS, .ref aZ, .int (nI n), .ref aL, .int (nI sc), .ref aP, .ref aC, .int (nI np), .ref aH, .int (nI nc), .ref aE, .ref aM])), (aZ, .inl (cZ, 60, .inl sp)), (aF, .inl (cJ, 60, .inr (.inl ft))), (aS, .inl (cJ, 60, .inr (.inl so)))]) (va_runS (As := [.long a, .long b]) (rest := []) ⟨hx, hb, hml, hown, hts⟩ (k_X_wholeParts l dC dI cJ cI cZ _ a b) (k_cs (y := y_X_wholeParts) (own := R_X) hts wd_56 wd_46 wd_48 wd_47 hd_X_wholeParts ⟨Nat.le_of_ble_eq_true rfl, Nat.le_of_ble_eq_true rfl⟩) (k_preS hP hD hK [] rfl (by decide)) rfl rfl hl.1 rfl (lv_room (Nat.le_of_ble_eq_true rfl)) d_X_solids_3 ⟨Nat.le_of_ble_eq_true rfl, Nat.le_of_ble_eq_true rfl⟩) hP hD hS hA [] [0, 1, 2, 3] rfl rfl (by decide) (by decide) (fun r_3 uu H locs hpo hP hD hS => ?_)
  have hpo : r_3 = wpF a b := hpo
  subst hpo
  have hP : va_P (dC, dI) vwCl [(h, .inr (0, [.ref aK, .ref aF, .ref aS, .ref aZ, .int (nI n), .ref aL, .int (nI sc), .ref aP, .ref aC, .int (nI np), .ref aH, .int (nI nc), .ref aE, .ref aM])), (aZ, .inl (cZ, 60, .inl sp)), (aF, .inl (cJ, 60, .inr (.inl ft))), (aS, .inl (cJ, 60, .inr (.inl so)))] H := hP
  have hD : va_D A [(h, .inr (0, [.ref aK, .ref aF, .ref aS, .ref aZ, .int (nI n), .ref aL, .int (nI sc), .ref aP, .ref aC, .int (nI np), .ref aH, .int (nI nc), .ref aE, .ref aM])), (aZ, .inl (cZ, 60, .inl sp)), (aF, .inl (cJ, 60, .inr (.inl ft))), (aS, .inl (cJ, 60, .inr (.inl so)))] := hD
  refine lv_lstore (lv' := [(6, .long (wpF a b)), (0, .ref h), (1, .int x), (2, .long a), (4, .long b)]) hx hb d_X_solids_6 hl (by decide) rfl (fun ls hl => ?_)
  refine lv_aload_n hx hb d_X_solids_8 rfl (lv_at hl 1 rfl) ?_
  refine lv_iload_n hx hb d_X_solids_9 rfl (lv_at hl 2 rfl) ?_
  refine k_calli (wr := [(aF, .inl (cJ, 60, .inr (.inl ft))), (aS, .inl (cJ, 60, .inr (.inl so)))]) (va_runV (As := [.int x]) (rest := []) ⟨hx, hb, hml, hown, hts⟩ (k_X_isUnseparated l dC dI cJ cI cZ _ h aK aF aS aZ aL aP aC aH aE aM n sc np nc sp x (by omega)) (k_cw (y := y_X_isUnseparated) (own := R_X) hts wd_64 wd_46 wd_63 wd_61 wd_62 hd_X_isUnseparated ⟨Nat.le_of_ble_eq_true rfl, Nat.le_of_ble_eq_true rfl⟩) (k_preV (ci := 0) (q0 := 0) hP hD hK [0, 1] rfl (by decide) rfl rfl) rfl rfl hl.1 rfl (lv_room (Nat.le_of_ble_eq_true rfl)) d_X_solids_10 ⟨Nat.le_of_ble_eq_true rfl, Nat.le_of_ble_eq_true rfl⟩) hP hD hS hA [0, 1] [2, 3] rfl rfl (by decide) (by decide) (fun r_10 uu H locs hpo hP hD hS => ?_)
  have hpo : r_10 = zI (unB n sp x) := hpo
  subst hpo
  have hP : va_P (dC, dI) vwCl [(aF, .inl (cJ, 60, .inr (.inl ft))), (aS, .inl (cJ, 60, .inr (.inl so))), (h, .inr (0, [.ref aK, .ref aF, .ref aS, .ref aZ, .int (nI n), .ref aL, .int (nI sc), .ref aP, .ref aC, .int (nI np), .ref aH, .int (nI nc), .ref aE, .ref aM])), (aZ, .inl (cZ, 60, .inl sp))] H := hP
  have hD : va_D A [(aF, .inl (cJ, 60, .inr (.inl ft))), (aS, .inl (cJ, 60, .inr (.inl so))), (h, .inr (0, [.ref aK, .ref aF, .ref aS, .ref aZ, .int (nI n), .ref aL, .int (nI sc), .ref aP, .ref aC, .int (nI np), .ref aH, .int (nI nc), .ref aE, .ref aM])), (aZ, .inl (cZ, 60, .inl sp))] := hD
  refine k_zeq (tgt := 41) hx hb d_X_solids_13 (by decide) (fun c_13 => ?_) (fun c_13 => ?_)
  · refine lv_iconst (v := nI 0) hx hb d_X_solids_41 (by decide) ?_
    have hY : soY n sp ft x a b = false := by first | (unfold soY; rw [c_13]; rfl) | (unfold soY nP; rw [c_13, decide_eq_true c_21]; rfl) | (unfold soY nP; rw [c_13, decide_eq_false c_21, hcl, decide_eq_false (Int64.not_le.mpr c_37)]; rfl)
    have fq_0 : bL (soY n sp ft x a b) (vp_updL so x.toNatClampNeg (wpF a b)) so = so := bL_f hY
    have hP : va_P (dC, dI) vwCl [(aF, .inl (cJ, 60, .inr (.inl ft))), (aS, .inl (cJ, 60, .inr (.inl (bL (soY n sp ft x a b) (vp_updL so x.toNatClampNeg (wpF a b)) so)))), (h, .inr (0, [.ref aK, .ref aF, .ref aS, .ref aZ, .int (nI n), .ref aL, .int (nI sc), .ref aP, .ref aC, .int (nI np), .ref aH, .int (nI nc), .ref aE, .ref aM])), (aZ, .inl (cZ, 60, .inl sp))] H := by rw [fq_0]; exact hP
    have hD : va_D A [(aF, .inl (cJ, 60, .inr (.inl ft))), (aS, .inl (cJ, 60, .inr (.inl (bL (soY n sp ft x a b) (vp_updL so x.toNatClampNeg (wpF a b)) so)))), (h, .inr (0, [.ref aK, .ref aF, .ref aS, .ref aZ, .int (nI n), .ref aL, .int (nI sc), .ref aP, .ref aC, .int (nI np), .ref aH, .int (nI nc), .ref aE, .ref aM])), (aZ, .inl (cZ, 60, .inl sp))] := by rw [fq_0]; exact hD
    exact k_zret (v := nI 0) hx hb hr hlocks rfl () (by rw [hY]; rfl) hP hD hK hS [2, 3, 0, 1] (by decide) rfl d_X_solids_42
  · obtain ⟨j, hj, rfl, hsp⟩ := unB_nat (by omega) c_13
    have hcl : (nI j).toNatClampNeg = j := nI_clamp (by omega)
    refine lv_lload hx hb d_X_solids_16 (lv_at hl 0 rfl) ?_
    refine lv_ldc2 (v := (-1)) hx hb hown (hts _ wd_52) d_X_solids_18 ?_
    refine k_jeq (tgt := 41) hx hb d_X_solids_21 d_X_solids_22 (by decide) (fun c_21 => ?_) (fun c_21 => ?_)
    · refine lv_iconst (v := nI 0) hx hb d_X_solids_41 (by decide) ?_
      have hY : soY n sp ft (nI j) a b = false := by first | (unfold soY; rw [c_13]; rfl) | (unfold soY nP; rw [c_13, decide_eq_true c_21]; rfl) | (unfold soY nP; rw [c_13, decide_eq_false c_21, hcl, decide_eq_false (Int64.not_le.mpr c_37)]; rfl)
      have fq_0 : bL (soY n sp ft (nI j) a b) (vp_updL so (nI j).toNatClampNeg (wpF a b)) so = so := bL_f hY
      have hP : va_P (dC, dI) vwCl [(aF, .inl (cJ, 60, .inr (.inl ft))), (aS, .inl (cJ, 60, .inr (.inl (bL (soY n sp ft (nI j) a b) (vp_updL so (nI j).toNatClampNeg (wpF a b)) so)))), (h, .inr (0, [.ref aK, .ref aF, .ref aS, .ref aZ, .int (nI n), .ref aL, .int (nI sc), .ref aP, .ref aC, .int (nI np), .ref aH, .int (nI nc), .ref aE, .ref aM])), (aZ, .inl (cZ, 60, .inl sp))] H := by rw [fq_0]; exact hP
      have hD : va_D A [(aF, .inl (cJ, 60, .inr (.inl ft))), (aS, .inl (cJ, 60, .inr (.inl (bL (soY n sp ft (nI j) a b) (vp_updL so (nI j).toNatClampNeg (wpF a b)) so)))), (h, .inr (0, [.ref aK, .ref aF, .ref aS, .ref aZ, .int (nI n), .ref aL, .int (nI sc), .ref aP, .ref aC, .int (nI np), .ref aH, .int (nI nc), .ref aE, .ref aM])), (aZ, .inl (cZ, 60, .inl sp))] := by rw [fq_0]; exact hD
      exact k_zret (v := nI 0) hx hb hr hlocks rfl () (by rw [hY]; rfl) hP hD hK hS [2, 3, 0, 1] (by decide) rfl d_X_solids_42
    · refine lv_aload_n hx hb d_X_solids_25 rfl (lv_at hl 1 rfl) ?_
      refine va_get (D := (dC, dI)) (ci := 0) (v := .ref aF) (C := R_X) (T := T_X) (N := 14) hx hb hts iT_X hown hK hP 2 rfl rfl 1 (by decide) (hts _ wd_6) (fun _ h9 => h9) rfl d_X_solids_26 ?_
      refine lv_iload_n hx hb d_X_solids_29 rfl (lv_at hl 2 rfl) ?_
      refine k_lald (j := j) hx hb hK hP 0 0 rfl rfl (by omega) (by decide) d_X_solids_30 ?_
      refine lv_lload hx hb d_X_solids_31 (lv_at hl 0 rfl) ?_
      refine lv_ladd hx hb d_X_solids_33 ?_
      refine lv_ldc2 (v := 10000) hx hb hown (hts _ wd_57) d_X_solids_34 ?_
      refine k_jle (tgt := 43) hx hb d_X_solids_37 d_X_solids_38 (by decide) (fun c_37 => ?_) (fun c_37 => ?_)
      · refine lv_aload_n hx hb d_X_solids_43 rfl (lv_at hl 1 rfl) ?_
        refine va_get (D := (dC, dI)) (ci := 0) (v := .ref aS) (C := R_X) (T := T_X) (N := 14) hx hb hts iT_X hown hK hP 2 rfl rfl 2 (by decide) (hts _ wd_7) (fun _ h9 => h9) rfl d_X_solids_44 ?_
        refine lv_iload_n hx hb d_X_solids_47 rfl (lv_at hl 2 rfl) ?_
        refine lv_lload hx hb d_X_solids_48 (lv_at hl 0 rfl) ?_
        refine k_last (j := j) hx hb hK hP hD hS 1 0 rfl rfl (by omega) (by decide) d_X_solids_50 (fun H locs hP hD hS => ?_)
        have hP : va_P (dC, dI) vwCl [(aF, .inl (cJ, 60, .inr (.inl ft))), (aS, .inl (cJ, 60, .inr (.inl (vp_updL so j (wpF a b))))), (h, .inr (0, [.ref aK, .ref aF, .ref aS, .ref aZ, .int (nI n), .ref aL, .int (nI sc), .ref aP, .ref aC, .int (nI np), .ref aH, .int (nI nc), .ref aE, .ref aM])), (aZ, .inl (cZ, 60, .inl sp))] H := hP
        have hD : va_D A [(aF, .inl (cJ, 60, .inr (.inl ft))), (aS, .inl (cJ, 60, .inr (.inl (vp_updL so j (wpF a b))))), (h, .inr (0, [.ref aK, .ref aF, .ref aS, .ref aZ, .int (nI n), .ref aL, .int (nI sc), .ref aP, .ref aC, .int (nI np), .ref aH, .int (nI nc), .ref aE, .ref aM])), (aZ, .inl (cZ, 60, .inl sp))] := hD
        refine lv_iconst (v := nI 1) hx hb d_X_solids_51 (by decide) ?_
        have hY : soY n sp ft (nI j) a b = true := by unfold soY nP; rw [c_13, decide_eq_false c_21, hcl, decide_eq_true c_37]; rfl
        have fq_0 : bL (soY n sp ft (nI j) a b) (vp_updL so (nI j).toNatClampNeg (wpF a b)) so = vp_updL so j (wpF a b) := (bL_t hY).trans (by rw [hcl])
        have hP : va_P (dC, dI) vwCl [(aF, .inl (cJ, 60, .inr (.inl ft))), (aS, .inl (cJ, 60, .inr (.inl (bL (soY n sp ft (nI j) a b) (vp_updL so (nI j).toNatClampNeg (wpF a b)) so)))), (h, .inr (0, [.ref aK, .ref aF, .ref aS, .ref aZ, .int (nI n), .ref aL, .int (nI sc), .ref aP, .ref aC, .int (nI np), .ref aH, .int (nI nc), .ref aE, .ref aM])), (aZ, .inl (cZ, 60, .inl sp))] H := by rw [fq_0]; exact hP
        have hD : va_D A [(aF, .inl (cJ, 60, .inr (.inl ft))), (aS, .inl (cJ, 60, .inr (.inl (bL (soY n sp ft (nI j) a b) (vp_updL so (nI j).toNatClampNeg (wpF a b)) so)))), (h, .inr (0, [.ref aK, .ref aF, .ref aS, .ref aZ, .int (nI n), .ref aL, .int (nI sc), .ref aP, .ref aC, .int (nI np), .ref aH, .int (nI nc), .ref aE, .ref aM])), (aZ, .inl (cZ, 60, .inl sp))] := by rw [fq_0]; exact hD
        exact k_zret (v := nI 1) hx hb hr hlocks rfl () (by rw [hY]; rfl) hP hD hK hS [2, 3, 0, 1] (by decide) rfl d_X_solids_52
      · refine lv_iconst (v := nI 0) hx hb d_X_solids_41 (by decide) ?_
        have hY : soY n sp ft (nI j) a b = false := by first | (unfold soY; rw [c_13]; rfl) | (unfold soY nP; rw [c_13, decide_eq_true c_21]; rfl) | (unfold soY nP; rw [c_13, decide_eq_false c_21, hcl, decide_eq_false (Int64.not_le.mpr c_37)]; rfl)
        have fq_0 : bL (soY n sp ft (nI j) a b) (vp_updL so (nI j).toNatClampNeg (wpF a b)) so = so := bL_f hY
        have hP : va_P (dC, dI) vwCl [(aF, .inl (cJ, 60, .inr (.inl ft))), (aS, .inl (cJ, 60, .inr (.inl (bL (soY n sp ft (nI j) a b) (vp_updL so (nI j).toNatClampNeg (wpF a b)) so)))), (h, .inr (0, [.ref aK, .ref aF, .ref aS, .ref aZ, .int (nI n), .ref aL, .int (nI sc), .ref aP, .ref aC, .int (nI np), .ref aH, .int (nI nc), .ref aE, .ref aM])), (aZ, .inl (cZ, 60, .inl sp))] H := by rw [fq_0]; exact hP
        have hD : va_D A [(aF, .inl (cJ, 60, .inr (.inl ft))), (aS, .inl (cJ, 60, .inr (.inl (bL (soY n sp ft (nI j) a b) (vp_updL so (nI j).toNatClampNeg (wpF a b)) so)))), (h, .inr (0, [.ref aK, .ref aF, .ref aS, .ref aZ, .int (nI n), .ref aL, .int (nI sc), .ref aP, .ref aC, .int (nI np), .ref aH, .int (nI nc), .ref aE, .ref aM])), (aZ, .inl (cZ, 60, .inl sp))] := by rw [fq_0]; exact hD
        exact k_zret (v := nI 0) hx hb hr hlocks rfl () (by rw [hY]; rfl) hP hD hK hS [2, 3, 0, 1] (by decide) rfl d_X_solids_42
/-- X_placeAmongChosen -/
abbrev q_X_placeAmongChosen (dC : Nat → ClassId) (dI : Nat → Nat → Nat) (cJ cI cZ : ClassId) (h : Nat) (aK : Nat) (aF : Nat) (aS : Nat) (aZ : Nat) (aL : Nat) (aP : Nat) (aC : Nat) (aH : Nat) (aE : Nat) (aM : Nat) (n : Nat) (sc : Nat) (np : Nat) (nc : Nat) (cn : Nat → Nat) (x : Nat) (A : Nat → Prop) : Array Value → State → Outcome → State → Prop := va_Qi (fun (r : Int32) (_ : Unit) => r = plF cn nc x) (kB (dC, dI) vwCl [(cJ, .long), (cI, .int), (cZ, .boolean)] A (fun (_ : Unit) => [(h, .inr (0, [.ref aK, .ref aF, .ref aS, .ref aZ, .int (nI n), .ref aL, .int (nI sc), .ref aP, .ref aC, .int (nI np), .ref aH, .int (nI nc), .ref aE, .ref aM])), (aH, .inl (cI, 4, .inl (fun ix => nI (cn ix))))])) A
set_option maxHeartbeats 4000000 in
set_option maxRecDepth 100000 in
theorem k_X_placeAmongChosen (l : Launch) (dC : Nat → ClassId) (dI : Nat → Nat → Nat) (cJ cI cZ : ClassId) (sz : Nat) (h : Nat) (aK : Nat) (aF : Nat) (aS : Nat) (aZ : Nat) (aL : Nat) (aP : Nat) (aC : Nat) (aH : Nat) (aE : Nat) (aM : Nat) (n : Nat) (sc : Nat) (np : Nat) (nc : Nat) (cn : Nat → Nat) (x : Nat) (hnc : nc ≤ 4) (hcn : ∀ i, i < nc → cn i < 60) (hx9 : x < 60) : Met l y_X_placeAmongChosen w_X_placeAmongChosen { frames := 0, cells := 0, slots := 0, locals := 0 } (kPc (dC, dI) vwCl [(cJ, .long), (cI, .int), (cZ, .boolean)] [(h, .inr (0, [.ref aK, .ref aF, .ref aS, .ref aZ, .int (nI n), .ref aL, .int (nI sc), .ref aP, .ref aC, .int (nI np), .ref aH, .int (nI nc), .ref aE, .ref aM])), (aH, .inl (cI, 4, .inl (fun ix => nI (cn ix))))] sz [.ref h, .int (nI x)]) (q_X_placeAmongChosen dC dI cJ cI cZ h aK aF aS aZ aL aP aC aH aE aM n sc np nc cn x (va_A [(h, .inr (0, [.ref aK, .ref aF, .ref aS, .ref aZ, .int (nI n), .ref aL, .int (nI sc), .ref aP, .ref aC, .int (nI np), .ref aH, .int (nI nc), .ref aE, .ref aM])), (aH, .inl (cI, 4, .inl (fun ix => nI (cn ix))))] sz)) 0 0 (va_A [(h, .inr (0, [.ref aK, .ref aF, .ref aS, .ref aZ, .int (nI n), .ref aL, .int (nI sc), .ref aP, .ref aC, .int (nI np), .ref aH, .int (nI nc), .ref aE, .ref aM])), (aH, .inl (cI, 4, .inl (fun ix => nI (cn ix))))] sz) := by
  refine k_met (q_X_placeAmongChosen dC dI cJ cI cZ h aK aF aS aZ aL aP aC aH aE aM n sc np nc cn x) (by decide +kernel) rfl (Nat.le_of_ble_eq_true rfl) ?_
  intro p e s m below meth c A hx hb hr hml hown hts hlocks hin hA H hP hK hD hS ls hl
  have hl : lv_has ls 3 [(0, .ref h), (1, .int (nI x))] := hl
  have hown : s.vm.findClass R_X = some m.cls := hown
  have hts : ∀ wW ∈ kT, wW.before [.ref h, .int (nI x)].toArray s = true := fun wW hW => hts wW (List.mem_cons_of_mem _ hW)
  refine lv_iconst (v := nI 0) hx hb d_X_placeAmongChosen_0 (by decide) ?_
  refine lv_istore_n (lv' := [(2, .int (nI 0)), (0, .ref h), (1, .int (nI x))]) hx hb d_X_placeAmongChosen_1 rfl hl (by decide) rfl (fun ls hl => ?_)
  have loop_2 : ∀ (fu_2 : Nat) (i : Nat) (hi : i ≤ nc) (hv : fdN (fun i => decide (cn i = x)) (nc - i) i = pl cn nc x) (hfu_2 : nc + 1 ≤ i + fu_2) (H : Heap) (locs : List Loc) (ls : Array Slot), va_P (dC, dI) vwCl [(h, .inr (0, [.ref aK, .ref aF, .ref aS, .ref aZ, .int (nI n), .ref aL, .int (nI sc), .ref aP, .ref aC, .int (nI np), .ref aH, .int (nI nc), .ref aE, .ref aM])), (aH, .inl (cI, 4, .inl (fun ix => nI (cn ix))))] H → va_D A [(h, .inr (0, [.ref aK, .ref aF, .ref aS, .ref aZ, .int (nI n), .ref aL, .int (nI sc), .ref aP, .ref aC, .int (nI np), .ref aH, .int (nI nc), .ref aE, .ref aM])), (aH, .inl (cI, 4, .inl (fun ix => nI (cn ix))))] → va_S A s.heap H locs → lv_has ls 3 [(0, .ref h), (1, .int (nI x)), (2, .int (nI i))] → W p l e { frames := 0, cells := 0, slots := 0, locals := 0 } s m [.ref h, .int (nI x)].toArray below meth c H locs 0 0 (MQ below (q_X_placeAmongChosen dC dI cJ cI cZ h aK aF aS aZ aL aP aC aH aE aM n sc np nc cn x A) [.ref h, .int (nI x)].toArray s 0 0 A) (F0 m 2 ls []) := by
    intro fu_2
    induction fu_2 with
    | zero =>
      intro i hi hv hfu_2 H locs ls hP hD hS hl
      exact absurd hfu_2 (by omega)
    | succ fu_2 ih_2 =>
      intro i hi hv hfu_2 H locs ls hP hD hS hl
      refine lv_iload_n hx hb d_X_placeAmongChosen_2 rfl (lv_at hl 2 rfl) ?_
      refine lv_aload_n hx hb d_X_placeAmongChosen_3 rfl (lv_at hl 0 rfl) ?_
      refine va_get (D := (dC, dI)) (ci := 0) (v := .int (nI nc)) (C := R_X) (T := T_X) (N := 14) hx hb hts iT_X hown hK hP 0 rfl rfl 11 (by decide) (hts _ wd_18) (fun _ h9 => h9) rfl d_X_placeAmongChosen_4 ?_
      refine k_nge (tgt := 28) hx hb d_X_placeAmongChosen_7 (by decide) (by omega) (by omega) (fun c_7 => ?_) (fun c_7 => ?_)
      · refine lv_iconst (v := (-1)) hx hb d_X_placeAmongChosen_28 (by decide) ?_
        exact k_iret (v := (-1)) hx hb hr hlocks () (by unfold plF; rw [← hv, fdN_end (P := fun i => decide (cn i = x)) c_7, if_neg (by omega)]) hP hD hK hS [0, 1] (by decide) rfl d_X_placeAmongChosen_29
      · refine lv_aload_n hx hb d_X_placeAmongChosen_10 rfl (lv_at hl 0 rfl) ?_
        refine va_get (D := (dC, dI)) (ci := 0) (v := .ref aH) (C := R_X) (T := T_X) (N := 14) hx hb hts iT_X hown hK hP 0 rfl rfl 10 (by decide) (hts _ wd_17) (fun _ h9 => h9) rfl d_X_placeAmongChosen_11 ?_
        refine lv_iload_n hx hb d_X_placeAmongChosen_14 rfl (lv_at hl 2 rfl) ?_
        refine k_iald (j := i) hx hb hK hP 1 1 rfl rfl (by omega) (by decide) d_X_placeAmongChosen_15 ?_
        refine lv_iload_n hx hb d_X_placeAmongChosen_16 rfl (lv_at hl 1 rfl) ?_
        have hci := hcn i c_7
        refine k_nne (tgt := 22) hx hb d_X_placeAmongChosen_17 (by decide) (by omega) (by omega) (fun c_17 => ?_) (fun c_17 => ?_)
        · refine lv_iinc (v := nI (i + 1)) (lv' := [(2, .int (nI (i + 1))), (0, .ref h), (1, .int (nI x))]) hx hb d_X_placeAmongChosen_22 hl (k := 2) rfl (nI_add i 1) (by decide) rfl (fun ls hl => ?_)
          refine lv_goto (tgt := 2) hx hb d_X_placeAmongChosen_25 (by decide) ?_
          exact ih_2 (i + 1) (by omega) ((fdN_go (P := fun i => decide (cn i = x)) c_7 (decide_eq_false c_17)).symm.trans hv) (by omega) _ _ _ hP hD hS (lv_sub hl [1, 2, 0] rfl)
        · refine lv_iload_n hx hb d_X_placeAmongChosen_20 rfl (lv_at hl 2 rfl) ?_
          exact k_iret (v := nI i) hx hb hr hlocks () (by unfold plF; rw [← hv, fdN_hit (P := fun i => decide (cn i = x)) c_7 (decide_eq_true c_17), if_pos c_7]) hP hD hK hS [0, 1] (by decide) rfl d_X_placeAmongChosen_21
  exact loop_2 (nc + 1) 0 (by omega) rfl (by omega) _ _ _ hP hD hS (lv_sub hl [1, 2, 0] rfl)
/-- X_unchoose -/
abbrev q_X_unchoose (dC : Nat → ClassId) (dI : Nat → Nat → Nat) (cJ cI cZ : ClassId) (h : Nat) (aK : Nat) (aF : Nat) (aS : Nat) (aZ : Nat) (aL : Nat) (aP : Nat) (aC : Nat) (aH : Nat) (aE : Nat) (aM : Nat) (n : Nat) (sc : Nat) (np : Nat) (nc : Nat) (cn : Nat → Nat) (x : Nat) (A : Nat → Prop) : Array Value → State → Outcome → State → Prop := va_Qv (fun (_ : Unit) => True) (kB (dC, dI) vwCl [(cJ, .long), (cI, .int), (cZ, .boolean)] A (fun (_ : Unit) => [(h, .inr (0, [.ref aK, .ref aF, .ref aS, .ref aZ, .int (nI n), .ref aL, .int (nI sc), .ref aP, .ref aC, .int (nI np), .ref aH, .int (nI (ucN cn nc x)), .ref aE, .ref aM])), (aH, .inl (cI, 4, .inl (fun ix => nI ((ucC cn nc x) ix))))])) A
set_option maxHeartbeats 4000000 in
set_option maxRecDepth 100000 in
theorem k_X_unchoose (l : Launch) (dC : Nat → ClassId) (dI : Nat → Nat → Nat) (cJ cI cZ : ClassId) (sz : Nat) (h : Nat) (aK : Nat) (aF : Nat) (aS : Nat) (aZ : Nat) (aL : Nat) (aP : Nat) (aC : Nat) (aH : Nat) (aE : Nat) (aM : Nat) (n : Nat) (sc : Nat) (np : Nat) (nc : Nat) (cn : Nat → Nat) (x : Nat) (hnc : nc ≤ 4) (hcn : ∀ i, i < nc → cn i < 60) (hx9 : x < 60) : Met l y_X_unchoose w_X_unchoose { frames := 1, cells := 0, slots := 0, locals := 22 } (kPc (dC, dI) vwCl [(cJ, .long), (cI, .int), (cZ, .boolean)] [(h, .inr (0, [.ref aK, .ref aF, .ref aS, .ref aZ, .int (nI n), .ref aL, .int (nI sc), .ref aP, .ref aC, .int (nI np), .ref aH, .int (nI nc), .ref aE, .ref aM])), (aH, .inl (cI, 4, .inl (fun ix => nI (cn ix))))] sz [.ref h, .int (nI x)]) (q_X_unchoose dC dI cJ cI cZ h aK aF aS aZ aL aP aC aH aE aM n sc np nc cn x (va_A [(h, .inr (0, [.ref aK, .ref aF, .ref aS, .ref aZ, .int (nI n), .ref aL, .int (nI sc), .ref aP, .ref aC, .int (nI np), .ref aH, .int (nI nc), .ref aE, .ref aM])), (aH, .inl (cI, 4, .inl (fun ix => nI (cn ix))))] sz)) 0 0 (va_A [(h, .inr (0, [.ref aK, .ref aF, .ref aS, .ref aZ, .int (nI n), .ref aL, .int (nI sc), .ref aP, .ref aC, .int (nI np), .ref aH, .int (nI nc), .ref aE, .ref aM])), (aH, .inl (cI, 4, .inl (fun ix => nI (cn ix))))] sz) := by
  refine k_met (q_X_unchoose dC dI cJ cI cZ h aK aF aS aZ aL aP aC aH aE aM n sc np nc cn x) (by decide +kernel) rfl (Nat.le_of_ble_eq_true rfl) ?_
  intro p e s m below meth c A hx hb hr hml hown hts hlocks hin hA H hP hK hD hS ls hl
  have hl : lv_has ls 4 [(0, .ref h), (1, .int (nI x))] := hl
  have hown : s.vm.findClass R_X = some m.cls := hown
  have hts : ∀ wW ∈ kT, wW.before [.ref h, .int (nI x)].toArray s = true := fun wW hW => hts wW (List.mem_cons_of_mem _ hW)
  refine lv_aload_n hx hb d_X_unchoose_0 rfl (lv_at hl 0 rfl) ?_
  refine lv_iload_n hx hb d_X_unchoose_1 rfl (lv_at hl 1 rfl) ?_
  refine k_calli (wr := []) (va_runV (As := [.int (nI x)]) (rest := []) ⟨hx, hb, hml, hown, hts⟩ (k_X_placeAmongChosen l dC dI cJ cI cZ _ h aK aF aS aZ aL aP aC aH aE aM n sc np nc cn x (by omega) (by omega) (by omega)) (k_cw (y := y_X_placeAmongChosen) (own := R_X) hts wd_97 wd_46 wd_96 wd_94 wd_95 hd_X_placeAmongChosen ⟨Nat.le_of_ble_eq_true rfl, Nat.le_of_ble_eq_true rfl⟩) (k_preV (ci := 0) (q0 := 0) hP hD hK [0, 1] rfl (by decide) rfl rfl) rfl rfl hl.1 rfl (lv_room (Nat.le_of_ble_eq_true rfl)) d_X_unchoose_2 ⟨Nat.le_of_ble_eq_true rfl, Nat.le_of_ble_eq_true rfl⟩) hP hD hS hA [0, 1] [] rfl rfl (by decide) (by decide) (fun r_2 uu H locs hpo hP hD hS => ?_)
  have hpo : r_2 = plF cn nc x := hpo
  subst hpo
  have hP : va_P (dC, dI) vwCl [(h, .inr (0, [.ref aK, .ref aF, .ref aS, .ref aZ, .int (nI n), .ref aL, .int (nI sc), .ref aP, .ref aC, .int (nI np), .ref aH, .int (nI nc), .ref aE, .ref aM])), (aH, .inl (cI, 4, .inl (fun ix => nI (cn ix))))] H := hP
  have hD : va_D A [(h, .inr (0, [.ref aK, .ref aF, .ref aS, .ref aZ, .int (nI n), .ref aL, .int (nI sc), .ref aP, .ref aC, .int (nI np), .ref aH, .int (nI nc), .ref aE, .ref aM])), (aH, .inl (cI, 4, .inl (fun ix => nI (cn ix))))] := hD
  refine lv_istore_n (lv' := [(2, .int (plF cn nc x)), (0, .ref h), (1, .int (nI x))]) hx hb d_X_unchoose_5 rfl hl (by decide) rfl (fun ls hl => ?_)
  refine lv_iload_n hx hb d_X_unchoose_6 rfl (lv_at hl 0 rfl) ?_
  refine lv_iconst (v := (-1)) hx hb d_X_unchoose_7 (by decide) ?_
  refine lv_icmp_ne (tgt := 12) hx hb d_X_unchoose_8 (by decide) (fun c_8 => ?_) (fun c_8 => ?_)
  · have hpl := plF_p c_8
    have hpe : plF cn nc x = nI (pl cn nc x) := if_pos hpl
    rw [hpe] at hl
    refine lv_iload_n hx hb d_X_unchoose_12 rfl (lv_at hl 0 rfl) ?_
    refine lv_iconst (v := nI 1) hx hb d_X_unchoose_13 (by decide) ?_
    refine lv_iadd hx hb d_X_unchoose_14 ?_
    refine k_toi (nI_add (pl cn nc x) 1) ?_
    refine lv_istore_n (lv' := [(3, .int (nI ((pl cn nc x) + 1))), (2, .int (nI (pl cn nc x))), (0, .ref h), (1, .int (nI x))]) hx hb d_X_unchoose_15 rfl hl (by decide) rfl (fun ls hl => ?_)
    have hP : va_P (dC, dI) vwCl [(h, .inr (0, [.ref aK, .ref aF, .ref aS, .ref aZ, .int (nI n), .ref aL, .int (nI sc), .ref aP, .ref aC, .int (nI np), .ref aH, .int (nI nc), .ref aE, .ref aM])), (aH, .inl (cI, 4, .inl (fun ix => nI (shl cn (pl cn nc x) (pl cn nc x + 1) ix))))] H := by rw [shl_0]; exact hP
    have hD : va_D A [(h, .inr (0, [.ref aK, .ref aF, .ref aS, .ref aZ, .int (nI n), .ref aL, .int (nI sc), .ref aP, .ref aC, .int (nI np), .ref aH, .int (nI nc), .ref aE, .ref aM])), (aH, .inl (cI, 4, .inl (fun ix => nI (shl cn (pl cn nc x) (pl cn nc x + 1) ix))))] := by rw [shl_0]; exact hD
    have loop_16 : ∀ (fu_16 : Nat) (i : Nat) (hi : i ≤ nc) (hgi : pl cn nc x < i) (hfu_16 : nc + 1 ≤ i + fu_16) (H : Heap) (locs : List Loc) (ls : Array Slot), va_P (dC, dI) vwCl [(h, .inr (0, [.ref aK, .ref aF, .ref aS, .ref aZ, .int (nI n), .ref aL, .int (nI sc), .ref aP, .ref aC, .int (nI np), .ref aH, .int (nI nc), .ref aE, .ref aM])), (aH, .inl (cI, 4, .inl (fun ix => nI (shl cn (pl cn nc x) i ix))))] H → va_D A [(h, .inr (0, [.ref aK, .ref aF, .ref aS, .ref aZ, .int (nI n), .ref aL, .int (nI sc), .ref aP, .ref aC, .int (nI np), .ref aH, .int (nI nc), .ref aE, .ref aM])), (aH, .inl (cI, 4, .inl (fun ix => nI (shl cn (pl cn nc x) i ix))))] → va_S A s.heap H locs → lv_has ls 4 [(0, .ref h), (1, .int (nI x)), (2, .int (nI (pl cn nc x))), (3, .int (nI i))] → W p l e { frames := 1, cells := 0, slots := 0, locals := 22 } s m [.ref h, .int (nI x)].toArray below meth c H locs 0 0 (MQ below (q_X_unchoose dC dI cJ cI cZ h aK aF aS aZ aL aP aC aH aE aM n sc np nc cn x A) [.ref h, .int (nI x)].toArray s 0 0 A) (F0 m 16 ls []) := by
      intro fu_16
      induction fu_16 with
      | zero =>
        intro i hi hgi hfu_16 H locs ls hP hD hS hl
        exact absurd hfu_16 (by omega)
      | succ fu_16 ih_16 =>
        intro i hi hgi hfu_16 H locs ls hP hD hS hl
        refine lv_iload_n hx hb d_X_unchoose_16 rfl (lv_at hl 3 rfl) ?_
        refine lv_aload_n hx hb d_X_unchoose_17 rfl (lv_at hl 0 rfl) ?_
        refine va_get (D := (dC, dI)) (ci := 0) (v := .int (nI nc)) (C := R_X) (T := T_X) (N := 14) hx hb hts iT_X hown hK hP 0 rfl rfl 11 (by decide) (hts _ wd_18) (fun _ h9 => h9) rfl d_X_unchoose_18 ?_
        refine k_nge (tgt := 44) hx hb d_X_unchoose_21 (by decide) (by omega) (by omega) (fun c_21 => ?_) (fun c_21 => ?_)
        · have ei9 : i = nc := by omega
          subst i
          refine lv_aload_n hx hb d_X_unchoose_44 rfl (lv_at hl 0 rfl) ?_
          refine lv_dup hx hb d_X_unchoose_45 rfl ?_
          refine va_get (D := (dC, dI)) (ci := 0) (v := .int (nI nc)) (C := R_X) (T := T_X) (N := 14) hx hb hts iT_X hown hK hP 0 rfl rfl 11 (by decide) (hts _ wd_18) (fun _ h9 => h9) rfl d_X_unchoose_46 ?_
          refine lv_iconst (v := nI 1) hx hb d_X_unchoose_49 (by decide) ?_
          refine lv_isub hx hb d_X_unchoose_50 ?_
          refine k_toi (pk_sub (by omega)) ?_
          refine va_put (D := (dC, dI)) (ci := 0) (v := .int (nI (nc - 1))) (ty := .int) (C := R_X) (T := T_X) (N := 14) hx hb hts iT_X t_X t_X_ok n_X hown hK hP hD hS 0 rfl rfl 11 (by decide) (hts _ wd_18) (fun _ h9 => h9) rfl (by decide +kernel) rfl rfl (Nat.le_of_ble_eq_true rfl) d_X_unchoose_51 (fun H locs hP hD hS => ?_)
          have hP : va_P (dC, dI) vwCl [(h, .inr (0, [.ref aK, .ref aF, .ref aS, .ref aZ, .int (nI n), .ref aL, .int (nI sc), .ref aP, .ref aC, .int (nI np), .ref aH, .int (nI (nc - 1)), .ref aE, .ref aM])), (aH, .inl (cI, 4, .inl (fun ix => nI (shl cn (pl cn nc x) nc ix))))] H := hP
          have hD : va_D A [(h, .inr (0, [.ref aK, .ref aF, .ref aS, .ref aZ, .int (nI n), .ref aL, .int (nI sc), .ref aP, .ref aC, .int (nI np), .ref aH, .int (nI (nc - 1)), .ref aE, .ref aM])), (aH, .inl (cI, 4, .inl (fun ix => nI (shl cn (pl cn nc x) nc ix))))] := hD
          have fq_0 : ucN cn nc x = nc - 1 := if_pos hpl
          have fq_1 : ucC cn nc x = shl cn (pl cn nc x) nc := if_pos hpl
          have hP : va_P (dC, dI) vwCl [(h, .inr (0, [.ref aK, .ref aF, .ref aS, .ref aZ, .int (nI n), .ref aL, .int (nI sc), .ref aP, .ref aC, .int (nI np), .ref aH, .int (nI (ucN cn nc x)), .ref aE, .ref aM])), (aH, .inl (cI, 4, .inl (fun ix => nI ((ucC cn nc x) ix))))] H := by rw [fq_0, fq_1]; exact hP
          have hD : va_D A [(h, .inr (0, [.ref aK, .ref aF, .ref aS, .ref aZ, .int (nI n), .ref aL, .int (nI sc), .ref aP, .ref aC, .int (nI np), .ref aH, .int (nI (ucN cn nc x)), .ref aE, .ref aM])), (aH, .inl (cI, 4, .inl (fun ix => nI ((ucC cn nc x) ix))))] := by rw [fq_0, fq_1]; exact hD
          exact k_vret hx hb hr hlocks () trivial hP hD hK hS [0, 1] (by decide) rfl d_X_unchoose_54
        · refine lv_aload_n hx hb d_X_unchoose_24 rfl (lv_at hl 0 rfl) ?_
          refine va_get (D := (dC, dI)) (ci := 0) (v := .ref aH) (C := R_X) (T := T_X) (N := 14) hx hb hts iT_X hown hK hP 0 rfl rfl 10 (by decide) (hts _ wd_17) (fun _ h9 => h9) rfl d_X_unchoose_25 ?_
          refine lv_iload_n hx hb d_X_unchoose_28 rfl (lv_at hl 3 rfl) ?_
          refine lv_iconst (v := nI 1) hx hb d_X_unchoose_29 (by decide) ?_
          refine lv_isub hx hb d_X_unchoose_30 ?_
          refine k_toi (pk_sub (by omega)) ?_
          refine lv_aload_n hx hb d_X_unchoose_31 rfl (lv_at hl 0 rfl) ?_
          refine va_get (D := (dC, dI)) (ci := 0) (v := .ref aH) (C := R_X) (T := T_X) (N := 14) hx hb hts iT_X hown hK hP 0 rfl rfl 10 (by decide) (hts _ wd_17) (fun _ h9 => h9) rfl d_X_unchoose_32 ?_
          refine lv_iload_n hx hb d_X_unchoose_35 rfl (lv_at hl 3 rfl) ?_
          refine k_iald (j := i) hx hb hK hP 1 1 rfl rfl (by omega) (by decide) d_X_unchoose_36 ?_
          refine k_iast (j := i - 1) hx hb hK hP hD hS 1 1 rfl rfl (by omega) (by decide) d_X_unchoose_37 (fun H locs hP hD hS => ?_)
          have ef_37 : upd (fun ix => nI (shl cn (pl cn nc x) i ix)) (i - 1) (nI (shl cn (pl cn nc x) i i)) = fun ix => nI (shl cn (pl cn nc x) (i + 1) ix) := shl_step cn hgi
          rw [ef_37] at hP hD
          have hP : va_P (dC, dI) vwCl [(h, .inr (0, [.ref aK, .ref aF, .ref aS, .ref aZ, .int (nI n), .ref aL, .int (nI sc), .ref aP, .ref aC, .int (nI np), .ref aH, .int (nI nc), .ref aE, .ref aM])), (aH, .inl (cI, 4, .inl (fun ix => nI (shl cn (pl cn nc x) (i + 1) ix))))] H := hP
          have hD : va_D A [(h, .inr (0, [.ref aK, .ref aF, .ref aS, .ref aZ, .int (nI n), .ref aL, .int (nI sc), .ref aP, .ref aC, .int (nI np), .ref aH, .int (nI nc), .ref aE, .ref aM])), (aH, .inl (cI, 4, .inl (fun ix => nI (shl cn (pl cn nc x) (i + 1) ix))))] := hD
          refine lv_iinc (v := nI (i + 1)) (lv' := [(3, .int (nI (i + 1))), (0, .ref h), (1, .int (nI x)), (2, .int (nI (pl cn nc x)))]) hx hb d_X_unchoose_38 hl (k := 3) rfl (nI_add i 1) (by decide) rfl (fun ls hl => ?_)
          refine lv_goto (tgt := 16) hx hb d_X_unchoose_41 (by decide) ?_
          exact ih_16 (i + 1) (by omega) (by omega) (by omega) _ _ _ hP hD hS (lv_sub hl [1, 2, 3, 0] rfl)
    exact loop_16 (nc + 1) ((pl cn nc x) + 1) (by omega) (by omega) (by omega) _ _ _ hP hD hS (lv_sub hl [2, 3, 1, 0] rfl)
  · have hpl := plF_n c_8
    have fq_0 : ucN cn nc x = nc := if_neg hpl
    have fq_1 : ucC cn nc x = cn := if_neg hpl
    have hP : va_P (dC, dI) vwCl [(h, .inr (0, [.ref aK, .ref aF, .ref aS, .ref aZ, .int (nI n), .ref aL, .int (nI sc), .ref aP, .ref aC, .int (nI np), .ref aH, .int (nI (ucN cn nc x)), .ref aE, .ref aM])), (aH, .inl (cI, 4, .inl (fun ix => nI ((ucC cn nc x) ix))))] H := by rw [fq_0, fq_1]; exact hP
    have hD : va_D A [(h, .inr (0, [.ref aK, .ref aF, .ref aS, .ref aZ, .int (nI n), .ref aL, .int (nI sc), .ref aP, .ref aC, .int (nI np), .ref aH, .int (nI (ucN cn nc x)), .ref aE, .ref aM])), (aH, .inl (cI, 4, .inl (fun ix => nI ((ucC cn nc x) ix))))] := by rw [fq_0, fq_1]; exact hD
    exact k_vret hx hb hr hlocks () trivial hP hD hK hS [0, 1] (by decide) rfl d_X_unchoose_11
/-- X_choose -/
abbrev q_X_choose (dC : Nat → ClassId) (dI : Nat → Nat → Nat) (cJ cI cZ : ClassId) (h : Nat) (aK : Nat) (aF : Nat) (aS : Nat) (aZ : Nat) (aL : Nat) (aP : Nat) (aC : Nat) (aH : Nat) (aE : Nat) (aM : Nat) (n : Nat) (sc : Nat) (np : Nat) (nc : Nat) (sp : Nat → Int32) (cn : Nat → Nat) (x : Int32) (A : Nat → Prop) : Array Value → State → Outcome → State → Prop := va_Qi (fun (r : Int32) (_ : Unit) => r = zI (chY n sp cn nc x)) (kB (dC, dI) vwCl [(cJ, .long), (cI, .int), (cZ, .boolean)] A (fun (_ : Unit) => [(h, .inr (0, [.ref aK, .ref aF, .ref aS, .ref aZ, .int (nI n), .ref aL, .int (nI sc), .ref aP, .ref aC, .int (nI np), .ref aH, .int (nI (bN (chY n sp cn nc x) (nc + 1) nc)), .ref aE, .ref aM])), (aZ, .inl (cZ, 60, .inl sp)), (aH, .inl (cI, 4, .inl (fun ix => nI ((bC (chY n sp cn nc x) (va_up cn nc x.toNatClampNeg) cn) ix))))])) A
set_option maxHeartbeats 4000000 in
set_option maxRecDepth 100000 in
theorem k_X_choose (l : Launch) (dC : Nat → ClassId) (dI : Nat → Nat → Nat) (cJ cI cZ : ClassId) (sz : Nat) (h : Nat) (aK : Nat) (aF : Nat) (aS : Nat) (aZ : Nat) (aL : Nat) (aP : Nat) (aC : Nat) (aH : Nat) (aE : Nat) (aM : Nat) (n : Nat) (sc : Nat) (np : Nat) (nc : Nat) (sp : Nat → Int32) (cn : Nat → Nat) (x : Int32) (hn : n ≤ 60) (hnc : nc ≤ 4) (hcn : ∀ i, i < nc → cn i < 60) : Met l y_X_choose w_X_choose { frames := 2, cells := 0, slots := 0, locals := 42 } (kPc (dC, dI) vwCl [(cJ, .long), (cI, .int), (cZ, .boolean)] [(h, .inr (0, [.ref aK, .ref aF, .ref aS, .ref aZ, .int (nI n), .ref aL, .int (nI sc), .ref aP, .ref aC, .int (nI np), .ref aH, .int (nI nc), .ref aE, .ref aM])), (aZ, .inl (cZ, 60, .inl sp)), (aH, .inl (cI, 4, .inl (fun ix => nI (cn ix))))] sz [.ref h, .int x]) (q_X_choose dC dI cJ cI cZ h aK aF aS aZ aL aP aC aH aE aM n sc np nc sp cn x (va_A [(h, .inr (0, [.ref aK, .ref aF, .ref aS, .ref aZ, .int (nI n), .ref aL, .int (nI sc), .ref aP, .ref aC, .int (nI np), .ref aH, .int (nI nc), .ref aE, .ref aM])), (aZ, .inl (cZ, 60, .inl sp)), (aH, .inl (cI, 4, .inl (fun ix => nI (cn ix))))] sz)) 0 0 (va_A [(h, .inr (0, [.ref aK, .ref aF, .ref aS, .ref aZ, .int (nI n), .ref aL, .int (nI sc), .ref aP, .ref aC, .int (nI np), .ref aH, .int (nI nc), .ref aE, .ref aM])), (aZ, .inl (cZ, 60, .inl sp)), (aH, .inl (cI, 4, .inl (fun ix => nI (cn ix))))] sz) := by
  refine k_met (q_X_choose dC dI cJ cI cZ h aK aF aS aZ aL aP aC aH aE aM n sc np nc sp cn x) (by decide +kernel) rfl (Nat.le_of_ble_eq_true rfl) ?_
  intro p e s m below meth c A hx hb hr hml hown hts hlocks hin hA H hP hK hD hS ls hl
  have hl : lv_has ls 2 [(0, .ref h), (1, .int x)] := hl
  have hown : s.vm.findClass R_X = some m.cls := hown
  have hts : ∀ wW ∈ kT, wW.before [.ref h, .int x].toArray s = true := fun wW hW => hts wW (List.mem_cons_of_mem _ hW)
  refine lv_aload_n hx hb d_X_choose_0 rfl (lv_at hl 0 rfl) ?_
  refine lv_iload_n hx hb d_X_choose_1 rfl (lv_at hl 1 rfl) ?_
  refine k_calli (wr := [(aH, .inl (cI, 4, .inl (fun ix => nI (cn ix))))]) (va_runV (As := [.int x]) (rest := []) ⟨hx, hb, hml, hown, hts⟩ (k_X_isUnseparated l dC dI cJ cI cZ _ h aK aF aS aZ aL aP aC aH aE aM n sc np nc sp x (by omega)) (k_cw (y := y_X_isUnseparated) (own := R_X) hts wd_64 wd_46 wd_63 wd_61 wd_62 hd_X_isUnseparated ⟨Nat.le_of_ble_eq_true rfl, Nat.le_of_ble_eq_true rfl⟩) (k_preV (ci := 0) (q0 := 0) hP hD hK [0, 1] rfl (by decide) rfl rfl) rfl rfl hl.1 rfl (lv_room (Nat.le_of_ble_eq_true rfl)) d_X_choose_2 ⟨Nat.le_of_ble_eq_true rfl, Nat.le_of_ble_eq_true rfl⟩) hP hD hS hA [0, 1] [2] rfl rfl (by decide) (by decide) (fun r_2 uu H locs hpo hP hD hS => ?_)
  have hpo : r_2 = zI (unB n sp x) := hpo
  subst hpo
  have hP : va_P (dC, dI) vwCl [(aH, .inl (cI, 4, .inl (fun ix => nI (cn ix)))), (h, .inr (0, [.ref aK, .ref aF, .ref aS, .ref aZ, .int (nI n), .ref aL, .int (nI sc), .ref aP, .ref aC, .int (nI np), .ref aH, .int (nI nc), .ref aE, .ref aM])), (aZ, .inl (cZ, 60, .inl sp))] H := hP
  have hD : va_D A [(aH, .inl (cI, 4, .inl (fun ix => nI (cn ix)))), (h, .inr (0, [.ref aK, .ref aF, .ref aS, .ref aZ, .int (nI n), .ref aL, .int (nI sc), .ref aP, .ref aC, .int (nI np), .ref aH, .int (nI nc), .ref aE, .ref aM])), (aZ, .inl (cZ, 60, .inl sp))] := hD
  refine k_zeq (tgt := 25) hx hb d_X_choose_5 (by decide) (fun c_5 => ?_) (fun c_5 => ?_)
  · refine lv_iconst (v := nI 0) hx hb d_X_choose_25 (by decide) ?_
    have hY : chY n sp cn nc x = false := by first | (unfold chY; rw [c_5]; rfl) | (unfold chY; rw [c_5, hcl, decide_eq_false (nn_i (plF_p c_14))]; rfl) | (unfold chY; rw [c_5, hcl, decide_eq_true (plF_n c_14), decide_eq_false (by omega)]; rfl)
    have fq_0 : bN (chY n sp cn nc x) (nc + 1) nc = nc := bN_f hY
    have fq_1 : bC (chY n sp cn nc x) (va_up cn nc x.toNatClampNeg) cn = cn := bC_f hY
    have hP : va_P (dC, dI) vwCl [(aH, .inl (cI, 4, .inl (fun ix => nI ((bC (chY n sp cn nc x) (va_up cn nc x.toNatClampNeg) cn) ix)))), (h, .inr (0, [.ref aK, .ref aF, .ref aS, .ref aZ, .int (nI n), .ref aL, .int (nI sc), .ref aP, .ref aC, .int (nI np), .ref aH, .int (nI (bN (chY n sp cn nc x) (nc + 1) nc)), .ref aE, .ref aM])), (aZ, .inl (cZ, 60, .inl sp))] H := by rw [fq_0, fq_1]; exact hP
    have hD : va_D A [(aH, .inl (cI, 4, .inl (fun ix => nI ((bC (chY n sp cn nc x) (va_up cn nc x.toNatClampNeg) cn) ix)))), (h, .inr (0, [.ref aK, .ref aF, .ref aS, .ref aZ, .int (nI n), .ref aL, .int (nI sc), .ref aP, .ref aC, .int (nI np), .ref aH, .int (nI (bN (chY n sp cn nc x) (nc + 1) nc)), .ref aE, .ref aM])), (aZ, .inl (cZ, 60, .inl sp))] := by rw [fq_0, fq_1]; exact hD
    exact k_zret (v := nI 0) hx hb hr hlocks rfl () (by rw [hY]; rfl) hP hD hK hS [1, 2, 0] (by decide) rfl d_X_choose_26
  · obtain ⟨j, hj, rfl, hsp⟩ := unB_nat (by omega) c_5
    have hcl : (nI j).toNatClampNeg = j := nI_clamp (by omega)
    refine lv_aload_n hx hb d_X_choose_8 rfl (lv_at hl 0 rfl) ?_
    refine lv_iload_n hx hb d_X_choose_9 rfl (lv_at hl 1 rfl) ?_
    refine k_calli (wr := [(aZ, .inl (cZ, 60, .inl sp))]) (va_runV (As := [.int (nI j)]) (rest := []) ⟨hx, hb, hml, hown, hts⟩ (k_X_placeAmongChosen l dC dI cJ cI cZ _ h aK aF aS aZ aL aP aC aH aE aM n sc np nc cn j (by omega) (by omega) (by omega)) (k_cw (y := y_X_placeAmongChosen) (own := R_X) hts wd_97 wd_46 wd_96 wd_94 wd_95 hd_X_placeAmongChosen ⟨Nat.le_of_ble_eq_true rfl, Nat.le_of_ble_eq_true rfl⟩) (k_preV (ci := 0) (q0 := 0) hP hD hK [1, 0] rfl (by decide) rfl rfl) rfl rfl hl.1 rfl (lv_room (Nat.le_of_ble_eq_true rfl)) d_X_choose_10 ⟨Nat.le_of_ble_eq_true rfl, Nat.le_of_ble_eq_true rfl⟩) hP hD hS hA [1, 0] [2] rfl rfl (by decide) (by decide) (fun r_10 uu H locs hpo hP hD hS => ?_)
    have hpo : r_10 = plF cn nc j := hpo
    subst hpo
    have hP : va_P (dC, dI) vwCl [(aZ, .inl (cZ, 60, .inl sp)), (h, .inr (0, [.ref aK, .ref aF, .ref aS, .ref aZ, .int (nI n), .ref aL, .int (nI sc), .ref aP, .ref aC, .int (nI np), .ref aH, .int (nI nc), .ref aE, .ref aM])), (aH, .inl (cI, 4, .inl (fun ix => nI (cn ix))))] H := hP
    have hD : va_D A [(aZ, .inl (cZ, 60, .inl sp)), (h, .inr (0, [.ref aK, .ref aF, .ref aS, .ref aZ, .int (nI n), .ref aL, .int (nI sc), .ref aP, .ref aC, .int (nI np), .ref aH, .int (nI nc), .ref aE, .ref aM])), (aH, .inl (cI, 4, .inl (fun ix => nI (cn ix))))] := hD
    refine lv_iconst (v := (-1)) hx hb d_X_choose_13 (by decide) ?_
    refine lv_icmp_ne (tgt := 25) hx hb d_X_choose_14 (by decide) (fun c_14 => ?_) (fun c_14 => ?_)
    · refine lv_iconst (v := nI 0) hx hb d_X_choose_25 (by decide) ?_
      have hY : chY n sp cn nc (nI j) = false := by first | (unfold chY; rw [c_5]; rfl) | (unfold chY; rw [c_5, hcl, decide_eq_false (nn_i (plF_p c_14))]; rfl) | (unfold chY; rw [c_5, hcl, decide_eq_true (plF_n c_14), decide_eq_false (by omega)]; rfl)
      have fq_0 : bN (chY n sp cn nc (nI j)) (nc + 1) nc = nc := bN_f hY
      have fq_1 : bC (chY n sp cn nc (nI j)) (va_up cn nc (nI j).toNatClampNeg) cn = cn := bC_f hY
      have hP : va_P (dC, dI) vwCl [(aZ, .inl (cZ, 60, .inl sp)), (h, .inr (0, [.ref aK, .ref aF, .ref aS, .ref aZ, .int (nI n), .ref aL, .int (nI sc), .ref aP, .ref aC, .int (nI np), .ref aH, .int (nI (bN (chY n sp cn nc (nI j)) (nc + 1) nc)), .ref aE, .ref aM])), (aH, .inl (cI, 4, .inl (fun ix => nI ((bC (chY n sp cn nc (nI j)) (va_up cn nc (nI j).toNatClampNeg) cn) ix))))] H := by rw [fq_0, fq_1]; exact hP
      have hD : va_D A [(aZ, .inl (cZ, 60, .inl sp)), (h, .inr (0, [.ref aK, .ref aF, .ref aS, .ref aZ, .int (nI n), .ref aL, .int (nI sc), .ref aP, .ref aC, .int (nI np), .ref aH, .int (nI (bN (chY n sp cn nc (nI j)) (nc + 1) nc)), .ref aE, .ref aM])), (aH, .inl (cI, 4, .inl (fun ix => nI ((bC (chY n sp cn nc (nI j)) (va_up cn nc (nI j).toNatClampNeg) cn) ix))))] := by rw [fq_0, fq_1]; exact hD
      exact k_zret (v := nI 0) hx hb hr hlocks rfl () (by rw [hY]; rfl) hP hD hK hS [1, 0, 2] (by decide) rfl d_X_choose_26
    · refine lv_aload_n hx hb d_X_choose_17 rfl (lv_at hl 0 rfl) ?_
      refine va_get (D := (dC, dI)) (ci := 0) (v := .int (nI nc)) (C := R_X) (T := T_X) (N := 14) hx hb hts iT_X hown hK hP 1 rfl rfl 11 (by decide) (hts _ wd_18) (fun _ h9 => h9) rfl d_X_choose_18 ?_
      refine lv_iconst (v := nI 4) hx hb d_X_choose_21 (by decide) ?_
      refine k_nlt (tgt := 27) hx hb d_X_choose_22 (by decide) (by omega) (by omega) (fun c_22 => ?_) (fun c_22 => ?_)
      · refine lv_aload_n hx hb d_X_choose_27 rfl (lv_at hl 0 rfl) ?_
        refine va_get (D := (dC, dI)) (ci := 0) (v := .ref aH) (C := R_X) (T := T_X) (N := 14) hx hb hts iT_X hown hK hP 1 rfl rfl 10 (by decide) (hts _ wd_17) (fun _ h9 => h9) rfl d_X_choose_28 ?_
        refine lv_aload_n hx hb d_X_choose_31 rfl (lv_at hl 0 rfl) ?_
        refine va_get (D := (dC, dI)) (ci := 0) (v := .int (nI nc)) (C := R_X) (T := T_X) (N := 14) hx hb hts iT_X hown hK hP 1 rfl rfl 11 (by decide) (hts _ wd_18) (fun _ h9 => h9) rfl d_X_choose_32 ?_
        refine lv_iload_n hx hb d_X_choose_35 rfl (lv_at hl 1 rfl) ?_
        refine k_iast (j := nc) hx hb hK hP hD hS 2 1 rfl rfl (by omega) (by decide) d_X_choose_36 (fun H locs hP hD hS => ?_)
        have ef_36 : upd (fun ix => nI (cn ix)) nc (nI j) = fun ix => nI (va_up cn nc j ix) := upd_nI
        rw [ef_36] at hP hD
        have hP : va_P (dC, dI) vwCl [(aZ, .inl (cZ, 60, .inl sp)), (h, .inr (0, [.ref aK, .ref aF, .ref aS, .ref aZ, .int (nI n), .ref aL, .int (nI sc), .ref aP, .ref aC, .int (nI np), .ref aH, .int (nI nc), .ref aE, .ref aM])), (aH, .inl (cI, 4, .inl (fun ix => nI (va_up cn nc j ix))))] H := hP
        have hD : va_D A [(aZ, .inl (cZ, 60, .inl sp)), (h, .inr (0, [.ref aK, .ref aF, .ref aS, .ref aZ, .int (nI n), .ref aL, .int (nI sc), .ref aP, .ref aC, .int (nI np), .ref aH, .int (nI nc), .ref aE, .ref aM])), (aH, .inl (cI, 4, .inl (fun ix => nI (va_up cn nc j ix))))] := hD
        refine lv_aload_n hx hb d_X_choose_37 rfl (lv_at hl 0 rfl) ?_
        refine lv_dup hx hb d_X_choose_38 rfl ?_
        refine va_get (D := (dC, dI)) (ci := 0) (v := .int (nI nc)) (C := R_X) (T := T_X) (N := 14) hx hb hts iT_X hown hK hP 1 rfl rfl 11 (by decide) (hts _ wd_18) (fun _ h9 => h9) rfl d_X_choose_39 ?_
        refine lv_iconst (v := nI 1) hx hb d_X_choose_42 (by decide) ?_
        refine lv_iadd hx hb d_X_choose_43 ?_
        refine k_toi (nI_add nc 1) ?_
        refine va_put (D := (dC, dI)) (ci := 0) (v := .int (nI (nc + 1))) (ty := .int) (C := R_X) (T := T_X) (N := 14) hx hb hts iT_X t_X t_X_ok n_X hown hK hP hD hS 1 rfl rfl 11 (by decide) (hts _ wd_18) (fun _ h9 => h9) rfl (by decide +kernel) rfl rfl (Nat.le_of_ble_eq_true rfl) d_X_choose_44 (fun H locs hP hD hS => ?_)
        have hP : va_P (dC, dI) vwCl [(aZ, .inl (cZ, 60, .inl sp)), (h, .inr (0, [.ref aK, .ref aF, .ref aS, .ref aZ, .int (nI n), .ref aL, .int (nI sc), .ref aP, .ref aC, .int (nI np), .ref aH, .int (nI (nc + 1)), .ref aE, .ref aM])), (aH, .inl (cI, 4, .inl (fun ix => nI (va_up cn nc j ix))))] H := hP
        have hD : va_D A [(aZ, .inl (cZ, 60, .inl sp)), (h, .inr (0, [.ref aK, .ref aF, .ref aS, .ref aZ, .int (nI n), .ref aL, .int (nI sc), .ref aP, .ref aC, .int (nI np), .ref aH, .int (nI (nc + 1)), .ref aE, .ref aM])), (aH, .inl (cI, 4, .inl (fun ix => nI (va_up cn nc j ix))))] := hD
        refine lv_iconst (v := nI 1) hx hb d_X_choose_47 (by decide) ?_
        have hY : chY n sp cn nc (nI j) = true := by unfold chY; rw [c_5, hcl, decide_eq_true (plF_n c_14), decide_eq_true c_22]; rfl
        have fq_0 : bN (chY n sp cn nc (nI j)) (nc + 1) nc = nc + 1 := bN_t hY
        have fq_1 : bC (chY n sp cn nc (nI j)) (va_up cn nc (nI j).toNatClampNeg) cn = va_up cn nc j := (bC_t hY).trans (by rw [hcl])
        have hP : va_P (dC, dI) vwCl [(aZ, .inl (cZ, 60, .inl sp)), (h, .inr (0, [.ref aK, .ref aF, .ref aS, .ref aZ, .int (nI n), .ref aL, .int (nI sc), .ref aP, .ref aC, .int (nI np), .ref aH, .int (nI (bN (chY n sp cn nc (nI j)) (nc + 1) nc)), .ref aE, .ref aM])), (aH, .inl (cI, 4, .inl (fun ix => nI ((bC (chY n sp cn nc (nI j)) (va_up cn nc (nI j).toNatClampNeg) cn) ix))))] H := by rw [fq_0, fq_1]; exact hP
        have hD : va_D A [(aZ, .inl (cZ, 60, .inl sp)), (h, .inr (0, [.ref aK, .ref aF, .ref aS, .ref aZ, .int (nI n), .ref aL, .int (nI sc), .ref aP, .ref aC, .int (nI np), .ref aH, .int (nI (bN (chY n sp cn nc (nI j)) (nc + 1) nc)), .ref aE, .ref aM])), (aH, .inl (cI, 4, .inl (fun ix => nI ((bC (chY n sp cn nc (nI j)) (va_up cn nc (nI j).toNatClampNeg) cn) ix))))] := by rw [fq_0, fq_1]; exact hD
        exact k_zret (v := nI 1) hx hb hr hlocks rfl () (by rw [hY]; rfl) hP hD hK hS [1, 0, 2] (by decide) rfl d_X_choose_48
      · refine lv_iconst (v := nI 0) hx hb d_X_choose_25 (by decide) ?_
        have hY : chY n sp cn nc (nI j) = false := by first | (unfold chY; rw [c_5]; rfl) | (unfold chY; rw [c_5, hcl, decide_eq_false (nn_i (plF_p c_14))]; rfl) | (unfold chY; rw [c_5, hcl, decide_eq_true (plF_n c_14), decide_eq_false (by omega)]; rfl)
        have fq_0 : bN (chY n sp cn nc (nI j)) (nc + 1) nc = nc := bN_f hY
        have fq_1 : bC (chY n sp cn nc (nI j)) (va_up cn nc (nI j).toNatClampNeg) cn = cn := bC_f hY
        have hP : va_P (dC, dI) vwCl [(aZ, .inl (cZ, 60, .inl sp)), (h, .inr (0, [.ref aK, .ref aF, .ref aS, .ref aZ, .int (nI n), .ref aL, .int (nI sc), .ref aP, .ref aC, .int (nI np), .ref aH, .int (nI (bN (chY n sp cn nc (nI j)) (nc + 1) nc)), .ref aE, .ref aM])), (aH, .inl (cI, 4, .inl (fun ix => nI ((bC (chY n sp cn nc (nI j)) (va_up cn nc (nI j).toNatClampNeg) cn) ix))))] H := by rw [fq_0, fq_1]; exact hP
        have hD : va_D A [(aZ, .inl (cZ, 60, .inl sp)), (h, .inr (0, [.ref aK, .ref aF, .ref aS, .ref aZ, .int (nI n), .ref aL, .int (nI sc), .ref aP, .ref aC, .int (nI np), .ref aH, .int (nI (bN (chY n sp cn nc (nI j)) (nc + 1) nc)), .ref aE, .ref aM])), (aH, .inl (cI, 4, .inl (fun ix => nI ((bC (chY n sp cn nc (nI j)) (va_up cn nc (nI j).toNatClampNeg) cn) ix))))] := by rw [fq_0, fq_1]; exact hD
        exact k_zret (v := nI 0) hx hb hr hlocks rfl () (by rw [hY]; rfl) hP hD hK hS [1, 0, 2] (by decide) rfl d_X_choose_26
/-- X_clearChosen -/
abbrev q_X_clearChosen (dC : Nat → ClassId) (dI : Nat → Nat → Nat) (cJ cI cZ : ClassId) (h : Nat) (aK : Nat) (aF : Nat) (aS : Nat) (aZ : Nat) (aL : Nat) (aP : Nat) (aC : Nat) (aH : Nat) (aE : Nat) (aM : Nat) (n : Nat) (sc : Nat) (np : Nat) (nc : Nat) (A : Nat → Prop) : Array Value → State → Outcome → State → Prop := va_Qv (fun (_ : Unit) => True) (kB (dC, dI) vwCl [(cJ, .long), (cI, .int), (cZ, .boolean)] A (fun (_ : Unit) => [(h, .inr (0, [.ref aK, .ref aF, .ref aS, .ref aZ, .int (nI n), .ref aL, .int (nI sc), .ref aP, .ref aC, .int (nI np), .ref aH, .int (nI 0), .ref aE, .ref aM]))])) A
set_option maxHeartbeats 4000000 in
set_option maxRecDepth 100000 in
theorem k_X_clearChosen (l : Launch) (dC : Nat → ClassId) (dI : Nat → Nat → Nat) (cJ cI cZ : ClassId) (sz : Nat) (h : Nat) (aK : Nat) (aF : Nat) (aS : Nat) (aZ : Nat) (aL : Nat) (aP : Nat) (aC : Nat) (aH : Nat) (aE : Nat) (aM : Nat) (n : Nat) (sc : Nat) (np : Nat) (nc : Nat)  : Met l y_X_clearChosen w_X_clearChosen { frames := 0, cells := 0, slots := 0, locals := 0 } (kPc (dC, dI) vwCl [(cJ, .long), (cI, .int), (cZ, .boolean)] [(h, .inr (0, [.ref aK, .ref aF, .ref aS, .ref aZ, .int (nI n), .ref aL, .int (nI sc), .ref aP, .ref aC, .int (nI np), .ref aH, .int (nI nc), .ref aE, .ref aM]))] sz [.ref h]) (q_X_clearChosen dC dI cJ cI cZ h aK aF aS aZ aL aP aC aH aE aM n sc np nc (va_A [(h, .inr (0, [.ref aK, .ref aF, .ref aS, .ref aZ, .int (nI n), .ref aL, .int (nI sc), .ref aP, .ref aC, .int (nI np), .ref aH, .int (nI nc), .ref aE, .ref aM]))] sz)) 0 0 (va_A [(h, .inr (0, [.ref aK, .ref aF, .ref aS, .ref aZ, .int (nI n), .ref aL, .int (nI sc), .ref aP, .ref aC, .int (nI np), .ref aH, .int (nI nc), .ref aE, .ref aM]))] sz) := by
  refine k_met (q_X_clearChosen dC dI cJ cI cZ h aK aF aS aZ aL aP aC aH aE aM n sc np nc) (by decide +kernel) rfl (Nat.le_of_ble_eq_true rfl) ?_
  intro p e s m below meth c A hx hb hr hml hown hts hlocks hin hA H hP hK hD hS ls hl
  have hl : lv_has ls 1 [(0, .ref h)] := hl
  have hown : s.vm.findClass R_X = some m.cls := hown
  have hts : ∀ wW ∈ kT, wW.before [.ref h].toArray s = true := fun wW hW => hts wW (List.mem_cons_of_mem _ hW)
  refine lv_aload_n hx hb d_X_clearChosen_0 rfl (lv_at hl 0 rfl) ?_
  refine lv_iconst (v := nI 0) hx hb d_X_clearChosen_1 (by decide) ?_
  refine va_put (D := (dC, dI)) (ci := 0) (v := .int (nI 0)) (ty := .int) (C := R_X) (T := T_X) (N := 14) hx hb hts iT_X t_X t_X_ok n_X hown hK hP hD hS 0 rfl rfl 11 (by decide) (hts _ wd_18) (fun _ h9 => h9) rfl (by decide +kernel) rfl rfl (Nat.le_of_ble_eq_true rfl) d_X_clearChosen_2 (fun H locs hP hD hS => ?_)
  have hP : va_P (dC, dI) vwCl [(h, .inr (0, [.ref aK, .ref aF, .ref aS, .ref aZ, .int (nI n), .ref aL, .int (nI sc), .ref aP, .ref aC, .int (nI np), .ref aH, .int (nI 0), .ref aE, .ref aM]))] H := hP
  have hD : va_D A [(h, .inr (0, [.ref aK, .ref aF, .ref aS, .ref aZ, .int (nI n), .ref aL, .int (nI sc), .ref aP, .ref aC, .int (nI np), .ref aH, .int (nI 0), .ref aE, .ref aM]))] := hD
  exact k_vret hx hb hr hlocks () trivial hP hD hK hS [0] (by decide) rfl d_X_clearChosen_5
/-- X_loss -/
abbrev q_X_loss (dC : Nat → ClassId) (dI : Nat → Nat → Nat) (cJ cI cZ : ClassId) (h : Nat) (aK : Nat) (aF : Nat) (aS : Nat) (aZ : Nat) (aL : Nat) (aP : Nat) (aC : Nat) (aH : Nat) (aE : Nat) (aM : Nat) (n : Nat) (sc : Nat) (np : Nat) (nc : Nat) (lo : Nat → Int64) (x : Int32) (A : Nat → Prop) : Array Value → State → Outcome → State → Prop := va_Ql (fun (r : Int64) (_ : Unit) => r = lsA sc lo x) (kB (dC, dI) vwCl [(cJ, .long), (cI, .int), (cZ, .boolean)] A (fun (_ : Unit) => [(h, .inr (0, [.ref aK, .ref aF, .ref aS, .ref aZ, .int (nI n), .ref aL, .int (nI sc), .ref aP, .ref aC, .int (nI np), .ref aH, .int (nI nc), .ref aE, .ref aM])), (aL, .inl (cJ, 60, .inr (.inl lo)))])) A
set_option maxHeartbeats 4000000 in
set_option maxRecDepth 100000 in
theorem k_X_loss (l : Launch) (dC : Nat → ClassId) (dI : Nat → Nat → Nat) (cJ cI cZ : ClassId) (sz : Nat) (h : Nat) (aK : Nat) (aF : Nat) (aS : Nat) (aZ : Nat) (aL : Nat) (aP : Nat) (aC : Nat) (aH : Nat) (aE : Nat) (aM : Nat) (n : Nat) (sc : Nat) (np : Nat) (nc : Nat) (lo : Nat → Int64) (x : Int32) (hsc : sc ≤ 60) : Met l y_X_loss w_X_loss { frames := 0, cells := 0, slots := 0, locals := 0 } (kPc (dC, dI) vwCl [(cJ, .long), (cI, .int), (cZ, .boolean)] [(h, .inr (0, [.ref aK, .ref aF, .ref aS, .ref aZ, .int (nI n), .ref aL, .int (nI sc), .ref aP, .ref aC, .int (nI np), .ref aH, .int (nI nc), .ref aE, .ref aM])), (aL, .inl (cJ, 60, .inr (.inl lo)))] sz [.ref h, .int x]) (q_X_loss dC dI cJ cI cZ h aK aF aS aZ aL aP aC aH aE aM n sc np nc lo x (va_A [(h, .inr (0, [.ref aK, .ref aF, .ref aS, .ref aZ, .int (nI n), .ref aL, .int (nI sc), .ref aP, .ref aC, .int (nI np), .ref aH, .int (nI nc), .ref aE, .ref aM])), (aL, .inl (cJ, 60, .inr (.inl lo)))] sz)) 0 0 (va_A [(h, .inr (0, [.ref aK, .ref aF, .ref aS, .ref aZ, .int (nI n), .ref aL, .int (nI sc), .ref aP, .ref aC, .int (nI np), .ref aH, .int (nI nc), .ref aE, .ref aM])), (aL, .inl (cJ, 60, .inr (.inl lo)))] sz) := by
  refine k_met (q_X_loss dC dI cJ cI cZ h aK aF aS aZ aL aP aC aH aE aM n sc np nc lo x) (by decide +kernel) rfl (Nat.le_of_ble_eq_true rfl) ?_
  intro p e s m below meth c A hx hb hr hml hown hts hlocks hin hA H hP hK hD hS ls hl
  have hl : lv_has ls 2 [(0, .ref h), (1, .int x)] := hl
  have hown : s.vm.findClass R_X = some m.cls := hown
  have hts : ∀ wW ∈ kT, wW.before [.ref h, .int x].toArray s = true := fun wW hW => hts wW (List.mem_cons_of_mem _ hW)
  refine lv_iload_n hx hb d_X_loss_0 rfl (lv_at hl 1 rfl) ?_
  refine lv_if_lt (tgt := 12) hx hb d_X_loss_1 (by decide) (fun c_1 => ?_) (fun c_1 => ?_)
  · refine lv_ldc2 (v := (-1)) hx hb hown (hts _ wd_52) d_X_loss_12 ?_
    exact k_lret (v := (-1)) hx hb hr hlocks () (by first | (unfold lsA lotB; rw [decide_eq_true c_1]; rfl) | (unfold lsA lotB; rw [decide_eq_false c_1, decide_eq_true (Int32.not_lt.mp c_9)]; rfl)) hP hD hK hS [0, 1] (by decide) rfl d_X_loss_15
  · refine lv_iload_n hx hb d_X_loss_4 rfl (lv_at hl 1 rfl) ?_
    refine lv_aload_n hx hb d_X_loss_5 rfl (lv_at hl 0 rfl) ?_
    refine va_get (D := (dC, dI)) (ci := 0) (v := .int (nI sc)) (C := R_X) (T := T_X) (N := 14) hx hb hts iT_X hown hK hP 0 rfl rfl 6 (by decide) (hts _ wd_12) (fun _ h9 => h9) rfl d_X_loss_6 ?_
    refine lv_icmp_lt (tgt := 16) hx hb d_X_loss_9 (by decide) (fun c_9 => ?_) (fun c_9 => ?_)
    · have hB : lotB sc x = true := by unfold lotB; rw [decide_eq_false c_1, decide_eq_false (Int32.not_le.mpr c_9)]; rfl
      obtain ⟨j, hj, rfl⟩ := lotB_nat (by omega) hB
      have hcl : (nI j).toNatClampNeg = j := nI_clamp (by omega)
      refine lv_aload_n hx hb d_X_loss_16 rfl (lv_at hl 0 rfl) ?_
      refine va_get (D := (dC, dI)) (ci := 0) (v := .ref aL) (C := R_X) (T := T_X) (N := 14) hx hb hts iT_X hown hK hP 0 rfl rfl 5 (by decide) (hts _ wd_11) (fun _ h9 => h9) rfl d_X_loss_17 ?_
      refine lv_iload_n hx hb d_X_loss_20 rfl (lv_at hl 1 rfl) ?_
      refine k_lald (j := j) hx hb hK hP 1 0 rfl rfl (by omega) (by decide) d_X_loss_21 ?_
      exact k_lret (v := lo j) hx hb hr hlocks () (by unfold lsA; rw [hB, hcl]; rfl) hP hD hK hS [0, 1] (by decide) rfl d_X_loss_22
    · refine lv_ldc2 (v := (-1)) hx hb hown (hts _ wd_52) d_X_loss_12 ?_
      exact k_lret (v := (-1)) hx hb hr hlocks () (by first | (unfold lsA lotB; rw [decide_eq_true c_1]; rfl) | (unfold lsA lotB; rw [decide_eq_false c_1, decide_eq_true (Int32.not_lt.mp c_9)]; rfl)) hP hD hK hS [0, 1] (by decide) rfl d_X_loss_15
/-- X_penalty -/
abbrev q_X_penalty (dC : Nat → ClassId) (dI : Nat → Nat → Nat) (cJ cI cZ : ClassId) (h : Nat) (aK : Nat) (aF : Nat) (aS : Nat) (aZ : Nat) (aL : Nat) (aP : Nat) (aC : Nat) (aH : Nat) (aE : Nat) (aM : Nat) (n : Nat) (sc : Nat) (np : Nat) (nc : Nat) (pf : Nat → Int64) (pz : Nat → Int64) (fr : Int64) (ce : Int64) (A : Nat → Prop) : Array Value → State → Outcome → State → Prop := va_Qi (fun (r : Int32) (_ : Unit) => r = zI (peY np fr ce)) (kB (dC, dI) vwCl [(cJ, .long), (cI, .int), (cZ, .boolean)] A (fun (_ : Unit) => [(h, .inr (0, [.ref aK, .ref aF, .ref aS, .ref aZ, .int (nI n), .ref aL, .int (nI sc), .ref aP, .ref aC, .int (nI (bN (peY np fr ce) (np + 1) np)), .ref aH, .int (nI nc), .ref aE, .ref aM])), (aP, .inl (cJ, 10, .inr (.inl (bL (peY np fr ce) (vp_updL pf np fr) pf)))), (aC, .inl (cJ, 10, .inr (.inl (bL (peY np fr ce) (vp_updL pz np ce) pz))))])) A
set_option maxHeartbeats 4000000 in
set_option maxRecDepth 100000 in
theorem k_X_penalty (l : Launch) (dC : Nat → ClassId) (dI : Nat → Nat → Nat) (cJ cI cZ : ClassId) (sz : Nat) (h : Nat) (aK : Nat) (aF : Nat) (aS : Nat) (aZ : Nat) (aL : Nat) (aP : Nat) (aC : Nat) (aH : Nat) (aE : Nat) (aM : Nat) (n : Nat) (sc : Nat) (np : Nat) (nc : Nat) (pf : Nat → Int64) (pz : Nat → Int64) (fr : Int64) (ce : Int64) (hnp : np ≤ 10) : Met l y_X_penalty w_X_penalty { frames := 1, cells := 0, slots := 0, locals := 25 } (kPc (dC, dI) vwCl [(cJ, .long), (cI, .int), (cZ, .boolean)] [(h, .inr (0, [.ref aK, .ref aF, .ref aS, .ref aZ, .int (nI n), .ref aL, .int (nI sc), .ref aP, .ref aC, .int (nI np), .ref aH, .int (nI nc), .ref aE, .ref aM])), (aP, .inl (cJ, 10, .inr (.inl pf))), (aC, .inl (cJ, 10, .inr (.inl pz)))] sz [.ref h, .long fr, .long ce]) (q_X_penalty dC dI cJ cI cZ h aK aF aS aZ aL aP aC aH aE aM n sc np nc pf pz fr ce (va_A [(h, .inr (0, [.ref aK, .ref aF, .ref aS, .ref aZ, .int (nI n), .ref aL, .int (nI sc), .ref aP, .ref aC, .int (nI np), .ref aH, .int (nI nc), .ref aE, .ref aM])), (aP, .inl (cJ, 10, .inr (.inl pf))), (aC, .inl (cJ, 10, .inr (.inl pz)))] sz)) 0 0 (va_A [(h, .inr (0, [.ref aK, .ref aF, .ref aS, .ref aZ, .int (nI n), .ref aL, .int (nI sc), .ref aP, .ref aC, .int (nI np), .ref aH, .int (nI nc), .ref aE, .ref aM])), (aP, .inl (cJ, 10, .inr (.inl pf))), (aC, .inl (cJ, 10, .inr (.inl pz)))] sz) := by
  refine k_met (q_X_penalty dC dI cJ cI cZ h aK aF aS aZ aL aP aC aH aE aM n sc np nc pf pz fr ce) (by decide +kernel) rfl (Nat.le_of_ble_eq_true rfl) ?_
  intro p e s m below meth c A hx hb hr hml hown hts hlocks hin hA H hP hK hD hS ls hl
  have hl : lv_has ls 5 [(0, .ref h), (1, .long fr), (3, .long ce)] := hl
  have hown : s.vm.findClass R_X = some m.cls := hown
  have hts : ∀ wW ∈ kT, wW.before [.ref h, .long fr, .long ce].toArray s = true := fun wW hW => hts wW (List.mem_cons_of_mem _ hW)
  refine lv_lload_n hx hb d_X_penalty_0 rfl (lv_at hl 1 rfl) ?_
  refine lv_lconst (v := 1) hx hb d_X_penalty_1 (by decide) ?_
  refine lv_ldc2 (v := 10000) hx hb hown (hts _ wd_57) d_X_penalty_2 ?_
  refine k_calli (wr := [(h, .inr (0, [.ref aK, .ref aF, .ref aS, .ref aZ, .int (nI n), .ref aL, .int (nI sc), .ref aP, .ref aC, .int (nI np), .ref aH, .int (nI nc), .ref aE, .ref aM])), (aP, .inl (cJ, 10, .inr (.inl pf))), (aC, .inl (cJ, 10, .inr (.inl pz)))]) (va_runS (As := [.long fr, .long 1, .long 10000]) (rest := []) ⟨hx, hb, hml, hown, hts⟩ (k_X_isWithin l dC dI cJ cI cZ _ fr 1 10000) (k_cs (y := y_X_isWithin) (own := R_X) hts wd_58 wd_46 wd_51 wd_50 hd_X_isWithin ⟨Nat.le_of_ble_eq_true rfl, Nat.le_of_ble_eq_true rfl⟩) (k_preS hP hD hK [] rfl (by decide)) rfl rfl hl.1 rfl (lv_room (Nat.le_of_ble_eq_true rfl)) d_X_penalty_5 ⟨Nat.le_of_ble_eq_true rfl, Nat.le_of_ble_eq_true rfl⟩) hP hD hS hA [] [0, 1, 2] rfl rfl (by decide) (by decide) (fun r_5 uu H locs hpo hP hD hS => ?_)
  have hpo : r_5 = zI (inB fr 1 10000) := hpo
  subst hpo
  have hP : va_P (dC, dI) vwCl [(h, .inr (0, [.ref aK, .ref aF, .ref aS, .ref aZ, .int (nI n), .ref aL, .int (nI sc), .ref aP, .ref aC, .int (nI np), .ref aH, .int (nI nc), .ref aE, .ref aM])), (aP, .inl (cJ, 10, .inr (.inl pf))), (aC, .inl (cJ, 10, .inr (.inl pz)))] H := hP
  have hD : va_D A [(h, .inr (0, [.ref aK, .ref aF, .ref aS, .ref aZ, .int (nI n), .ref aL, .int (nI sc), .ref aP, .ref aC, .int (nI np), .ref aH, .int (nI nc), .ref aE, .ref aM])), (aP, .inl (cJ, 10, .inr (.inl pf))), (aC, .inl (cJ, 10, .inr (.inl pz)))] := hD
  refine k_zeq (tgt := 31) hx hb d_X_penalty_8 (by decide) (fun c_8 => ?_) (fun c_8 => ?_)
  · refine lv_iconst (v := nI 0) hx hb d_X_penalty_31 (by decide) ?_
    have hY : peY np fr ce = false := by first | (unfold peY; rw [c_8]; rfl) | (unfold peY; rw [c_8, c_19]; rfl) | (unfold peY; rw [c_8, c_19, decide_eq_false (by omega)]; rfl)
    have fq_0 : bN (peY np fr ce) (np + 1) np = np := bN_f hY
    have fq_1 : bL (peY np fr ce) (vp_updL pf np fr) pf = pf := bL_f hY
    have fq_2 : bL (peY np fr ce) (vp_updL pz np ce) pz = pz := bL_f hY
    have hP : va_P (dC, dI) vwCl [(h, .inr (0, [.ref aK, .ref aF, .ref aS, .ref aZ, .int (nI n), .ref aL, .int (nI sc), .ref aP, .ref aC, .int (nI (bN (peY np fr ce) (np + 1) np)), .ref aH, .int (nI nc), .ref aE, .ref aM])), (aP, .inl (cJ, 10, .inr (.inl (bL (peY np fr ce) (vp_updL pf np fr) pf)))), (aC, .inl (cJ, 10, .inr (.inl (bL (peY np fr ce) (vp_updL pz np ce) pz))))] H := by rw [fq_0, fq_1, fq_2]; exact hP
    have hD : va_D A [(h, .inr (0, [.ref aK, .ref aF, .ref aS, .ref aZ, .int (nI n), .ref aL, .int (nI sc), .ref aP, .ref aC, .int (nI (bN (peY np fr ce) (np + 1) np)), .ref aH, .int (nI nc), .ref aE, .ref aM])), (aP, .inl (cJ, 10, .inr (.inl (bL (peY np fr ce) (vp_updL pf np fr) pf)))), (aC, .inl (cJ, 10, .inr (.inl (bL (peY np fr ce) (vp_updL pz np ce) pz))))] := by rw [fq_0, fq_1, fq_2]; exact hD
    exact k_zret (v := nI 0) hx hb hr hlocks rfl () (by rw [hY]; rfl) hP hD hK hS [0, 1, 2] (by decide) rfl d_X_penalty_32
  · refine lv_lload_n hx hb d_X_penalty_11 rfl (lv_at hl 2 rfl) ?_
    refine lv_lconst (v := 1) hx hb d_X_penalty_12 (by decide) ?_
    refine lv_ldc2 (v := 10000) hx hb hown (hts _ wd_57) d_X_penalty_13 ?_
    refine k_calli (wr := [(h, .inr (0, [.ref aK, .ref aF, .ref aS, .ref aZ, .int (nI n), .ref aL, .int (nI sc), .ref aP, .ref aC, .int (nI np), .ref aH, .int (nI nc), .ref aE, .ref aM])), (aP, .inl (cJ, 10, .inr (.inl pf))), (aC, .inl (cJ, 10, .inr (.inl pz)))]) (va_runS (As := [.long ce, .long 1, .long 10000]) (rest := []) ⟨hx, hb, hml, hown, hts⟩ (k_X_isWithin l dC dI cJ cI cZ _ ce 1 10000) (k_cs (y := y_X_isWithin) (own := R_X) hts wd_58 wd_46 wd_51 wd_50 hd_X_isWithin ⟨Nat.le_of_ble_eq_true rfl, Nat.le_of_ble_eq_true rfl⟩) (k_preS hP hD hK [] rfl (by decide)) rfl rfl hl.1 rfl (lv_room (Nat.le_of_ble_eq_true rfl)) d_X_penalty_16 ⟨Nat.le_of_ble_eq_true rfl, Nat.le_of_ble_eq_true rfl⟩) hP hD hS hA [] [0, 1, 2] rfl rfl (by decide) (by decide) (fun r_16 uu H locs hpo hP hD hS => ?_)
    have hpo : r_16 = zI (inB ce 1 10000) := hpo
    subst hpo
    have hP : va_P (dC, dI) vwCl [(h, .inr (0, [.ref aK, .ref aF, .ref aS, .ref aZ, .int (nI n), .ref aL, .int (nI sc), .ref aP, .ref aC, .int (nI np), .ref aH, .int (nI nc), .ref aE, .ref aM])), (aP, .inl (cJ, 10, .inr (.inl pf))), (aC, .inl (cJ, 10, .inr (.inl pz)))] H := hP
    have hD : va_D A [(h, .inr (0, [.ref aK, .ref aF, .ref aS, .ref aZ, .int (nI n), .ref aL, .int (nI sc), .ref aP, .ref aC, .int (nI np), .ref aH, .int (nI nc), .ref aE, .ref aM])), (aP, .inl (cJ, 10, .inr (.inl pf))), (aC, .inl (cJ, 10, .inr (.inl pz)))] := hD
    refine k_zeq (tgt := 31) hx hb d_X_penalty_19 (by decide) (fun c_19 => ?_) (fun c_19 => ?_)
    · refine lv_iconst (v := nI 0) hx hb d_X_penalty_31 (by decide) ?_
      have hY : peY np fr ce = false := by first | (unfold peY; rw [c_8]; rfl) | (unfold peY; rw [c_8, c_19]; rfl) | (unfold peY; rw [c_8, c_19, decide_eq_false (by omega)]; rfl)
      have fq_0 : bN (peY np fr ce) (np + 1) np = np := bN_f hY
      have fq_1 : bL (peY np fr ce) (vp_updL pf np fr) pf = pf := bL_f hY
      have fq_2 : bL (peY np fr ce) (vp_updL pz np ce) pz = pz := bL_f hY
      have hP : va_P (dC, dI) vwCl [(h, .inr (0, [.ref aK, .ref aF, .ref aS, .ref aZ, .int (nI n), .ref aL, .int (nI sc), .ref aP, .ref aC, .int (nI (bN (peY np fr ce) (np + 1) np)), .ref aH, .int (nI nc), .ref aE, .ref aM])), (aP, .inl (cJ, 10, .inr (.inl (bL (peY np fr ce) (vp_updL pf np fr) pf)))), (aC, .inl (cJ, 10, .inr (.inl (bL (peY np fr ce) (vp_updL pz np ce) pz))))] H := by rw [fq_0, fq_1, fq_2]; exact hP
      have hD : va_D A [(h, .inr (0, [.ref aK, .ref aF, .ref aS, .ref aZ, .int (nI n), .ref aL, .int (nI sc), .ref aP, .ref aC, .int (nI (bN (peY np fr ce) (np + 1) np)), .ref aH, .int (nI nc), .ref aE, .ref aM])), (aP, .inl (cJ, 10, .inr (.inl (bL (peY np fr ce) (vp_updL pf np fr) pf)))), (aC, .inl (cJ, 10, .inr (.inl (bL (peY np fr ce) (vp_updL pz np ce) pz))))] := by rw [fq_0, fq_1, fq_2]; exact hD
      exact k_zret (v := nI 0) hx hb hr hlocks rfl () (by rw [hY]; rfl) hP hD hK hS [0, 1, 2] (by decide) rfl d_X_penalty_32
    · refine lv_aload_n hx hb d_X_penalty_22 rfl (lv_at hl 0 rfl) ?_
      refine va_get (D := (dC, dI)) (ci := 0) (v := .int (nI np)) (C := R_X) (T := T_X) (N := 14) hx hb hts iT_X hown hK hP 0 rfl rfl 9 (by decide) (hts _ wd_15) (fun _ h9 => h9) rfl d_X_penalty_23 ?_
      refine lv_bipush (v := nI 10) hx hb d_X_penalty_26 (by decide) ?_
      refine k_nlt (tgt := 33) hx hb d_X_penalty_28 (by decide) (by omega) (by omega) (fun c_28 => ?_) (fun c_28 => ?_)
      · refine lv_aload_n hx hb d_X_penalty_33 rfl (lv_at hl 0 rfl) ?_
        refine va_get (D := (dC, dI)) (ci := 0) (v := .ref aP) (C := R_X) (T := T_X) (N := 14) hx hb hts iT_X hown hK hP 0 rfl rfl 7 (by decide) (hts _ wd_13) (fun _ h9 => h9) rfl d_X_penalty_34 ?_
        refine lv_aload_n hx hb d_X_penalty_37 rfl (lv_at hl 0 rfl) ?_
        refine va_get (D := (dC, dI)) (ci := 0) (v := .int (nI np)) (C := R_X) (T := T_X) (N := 14) hx hb hts iT_X hown hK hP 0 rfl rfl 9 (by decide) (hts _ wd_15) (fun _ h9 => h9) rfl d_X_penalty_38 ?_
        refine lv_lload_n hx hb d_X_penalty_41 rfl (lv_at hl 1 rfl) ?_
        refine k_last (j := np) hx hb hK hP hD hS 1 0 rfl rfl (by omega) (by decide) d_X_penalty_42 (fun H locs hP hD hS => ?_)
        have hP : va_P (dC, dI) vwCl [(h, .inr (0, [.ref aK, .ref aF, .ref aS, .ref aZ, .int (nI n), .ref aL, .int (nI sc), .ref aP, .ref aC, .int (nI np), .ref aH, .int (nI nc), .ref aE, .ref aM])), (aP, .inl (cJ, 10, .inr (.inl (vp_updL pf np fr)))), (aC, .inl (cJ, 10, .inr (.inl pz)))] H := hP
        have hD : va_D A [(h, .inr (0, [.ref aK, .ref aF, .ref aS, .ref aZ, .int (nI n), .ref aL, .int (nI sc), .ref aP, .ref aC, .int (nI np), .ref aH, .int (nI nc), .ref aE, .ref aM])), (aP, .inl (cJ, 10, .inr (.inl (vp_updL pf np fr)))), (aC, .inl (cJ, 10, .inr (.inl pz)))] := hD
        refine lv_aload_n hx hb d_X_penalty_43 rfl (lv_at hl 0 rfl) ?_
        refine va_get (D := (dC, dI)) (ci := 0) (v := .ref aC) (C := R_X) (T := T_X) (N := 14) hx hb hts iT_X hown hK hP 0 rfl rfl 8 (by decide) (hts _ wd_14) (fun _ h9 => h9) rfl d_X_penalty_44 ?_
        refine lv_aload_n hx hb d_X_penalty_47 rfl (lv_at hl 0 rfl) ?_
        refine va_get (D := (dC, dI)) (ci := 0) (v := .int (nI np)) (C := R_X) (T := T_X) (N := 14) hx hb hts iT_X hown hK hP 0 rfl rfl 9 (by decide) (hts _ wd_15) (fun _ h9 => h9) rfl d_X_penalty_48 ?_
        refine lv_lload_n hx hb d_X_penalty_51 rfl (lv_at hl 2 rfl) ?_
        refine k_last (j := np) hx hb hK hP hD hS 2 0 rfl rfl (by omega) (by decide) d_X_penalty_52 (fun H locs hP hD hS => ?_)
        have hP : va_P (dC, dI) vwCl [(h, .inr (0, [.ref aK, .ref aF, .ref aS, .ref aZ, .int (nI n), .ref aL, .int (nI sc), .ref aP, .ref aC, .int (nI np), .ref aH, .int (nI nc), .ref aE, .ref aM])), (aP, .inl (cJ, 10, .inr (.inl (vp_updL pf np fr)))), (aC, .inl (cJ, 10, .inr (.inl (vp_updL pz np ce))))] H := hP
        have hD : va_D A [(h, .inr (0, [.ref aK, .ref aF, .ref aS, .ref aZ, .int (nI n), .ref aL, .int (nI sc), .ref aP, .ref aC, .int (nI np), .ref aH, .int (nI nc), .ref aE, .ref aM])), (aP, .inl (cJ, 10, .inr (.inl (vp_updL pf np fr)))), (aC, .inl (cJ, 10, .inr (.inl (vp_updL pz np ce))))] := hD
        refine lv_aload_n hx hb d_X_penalty_53 rfl (lv_at hl 0 rfl) ?_
        refine lv_dup hx hb d_X_penalty_54 rfl ?_
        refine va_get (D := (dC, dI)) (ci := 0) (v := .int (nI np)) (C := R_X) (T := T_X) (N := 14) hx hb hts iT_X hown hK hP 0 rfl rfl 9 (by decide) (hts _ wd_15) (fun _ h9 => h9) rfl d_X_penalty_55 ?_
        refine lv_iconst (v := nI 1) hx hb d_X_penalty_58 (by decide) ?_
        refine lv_iadd hx hb d_X_penalty_59 ?_
        refine k_toi (nI_add np 1) ?_
        refine va_put (D := (dC, dI)) (ci := 0) (v := .int (nI (np + 1))) (ty := .int) (C := R_X) (T := T_X) (N := 14) hx hb hts iT_X t_X t_X_ok n_X hown hK hP hD hS 0 rfl rfl 9 (by decide) (hts _ wd_15) (fun _ h9 => h9) rfl (by decide +kernel) rfl rfl (Nat.le_of_ble_eq_true rfl) d_X_penalty_60 (fun H locs hP hD hS => ?_)
        have hP : va_P (dC, dI) vwCl [(h, .inr (0, [.ref aK, .ref aF, .ref aS, .ref aZ, .int (nI n), .ref aL, .int (nI sc), .ref aP, .ref aC, .int (nI (np + 1)), .ref aH, .int (nI nc), .ref aE, .ref aM])), (aP, .inl (cJ, 10, .inr (.inl (vp_updL pf np fr)))), (aC, .inl (cJ, 10, .inr (.inl (vp_updL pz np ce))))] H := hP
        have hD : va_D A [(h, .inr (0, [.ref aK, .ref aF, .ref aS, .ref aZ, .int (nI n), .ref aL, .int (nI sc), .ref aP, .ref aC, .int (nI (np + 1)), .ref aH, .int (nI nc), .ref aE, .ref aM])), (aP, .inl (cJ, 10, .inr (.inl (vp_updL pf np fr)))), (aC, .inl (cJ, 10, .inr (.inl (vp_updL pz np ce))))] := hD
        refine lv_iconst (v := nI 1) hx hb d_X_penalty_63 (by decide) ?_
        have hY : peY np fr ce = true := by unfold peY; rw [c_8, c_19, decide_eq_true c_28]; rfl
        have fq_0 : bN (peY np fr ce) (np + 1) np = np + 1 := bN_t hY
        have fq_1 : bL (peY np fr ce) (vp_updL pf np fr) pf = vp_updL pf np fr := bL_t hY
        have fq_2 : bL (peY np fr ce) (vp_updL pz np ce) pz = vp_updL pz np ce := bL_t hY
        have hP : va_P (dC, dI) vwCl [(h, .inr (0, [.ref aK, .ref aF, .ref aS, .ref aZ, .int (nI n), .ref aL, .int (nI sc), .ref aP, .ref aC, .int (nI (bN (peY np fr ce) (np + 1) np)), .ref aH, .int (nI nc), .ref aE, .ref aM])), (aP, .inl (cJ, 10, .inr (.inl (bL (peY np fr ce) (vp_updL pf np fr) pf)))), (aC, .inl (cJ, 10, .inr (.inl (bL (peY np fr ce) (vp_updL pz np ce) pz))))] H := by rw [fq_0, fq_1, fq_2]; exact hP
        have hD : va_D A [(h, .inr (0, [.ref aK, .ref aF, .ref aS, .ref aZ, .int (nI n), .ref aL, .int (nI sc), .ref aP, .ref aC, .int (nI (bN (peY np fr ce) (np + 1) np)), .ref aH, .int (nI nc), .ref aE, .ref aM])), (aP, .inl (cJ, 10, .inr (.inl (bL (peY np fr ce) (vp_updL pf np fr) pf)))), (aC, .inl (cJ, 10, .inr (.inl (bL (peY np fr ce) (vp_updL pz np ce) pz))))] := by rw [fq_0, fq_1, fq_2]; exact hD
        exact k_zret (v := nI 1) hx hb hr hlocks rfl () (by rw [hY]; rfl) hP hD hK hS [0, 1, 2] (by decide) rfl d_X_penalty_64
      · refine lv_iconst (v := nI 0) hx hb d_X_penalty_31 (by decide) ?_
        have hY : peY np fr ce = false := by first | (unfold peY; rw [c_8]; rfl) | (unfold peY; rw [c_8, c_19]; rfl) | (unfold peY; rw [c_8, c_19, decide_eq_false (by omega)]; rfl)
        have fq_0 : bN (peY np fr ce) (np + 1) np = np := bN_f hY
        have fq_1 : bL (peY np fr ce) (vp_updL pf np fr) pf = pf := bL_f hY
        have fq_2 : bL (peY np fr ce) (vp_updL pz np ce) pz = pz := bL_f hY
        have hP : va_P (dC, dI) vwCl [(h, .inr (0, [.ref aK, .ref aF, .ref aS, .ref aZ, .int (nI n), .ref aL, .int (nI sc), .ref aP, .ref aC, .int (nI (bN (peY np fr ce) (np + 1) np)), .ref aH, .int (nI nc), .ref aE, .ref aM])), (aP, .inl (cJ, 10, .inr (.inl (bL (peY np fr ce) (vp_updL pf np fr) pf)))), (aC, .inl (cJ, 10, .inr (.inl (bL (peY np fr ce) (vp_updL pz np ce) pz))))] H := by rw [fq_0, fq_1, fq_2]; exact hP
        have hD : va_D A [(h, .inr (0, [.ref aK, .ref aF, .ref aS, .ref aZ, .int (nI n), .ref aL, .int (nI sc), .ref aP, .ref aC, .int (nI (bN (peY np fr ce) (np + 1) np)), .ref aH, .int (nI nc), .ref aE, .ref aM])), (aP, .inl (cJ, 10, .inr (.inl (bL (peY np fr ce) (vp_updL pf np fr) pf)))), (aC, .inl (cJ, 10, .inr (.inl (bL (peY np fr ce) (vp_updL pz np ce) pz))))] := by rw [fq_0, fq_1, fq_2]; exact hD
        exact k_zret (v := nI 0) hx hb hr hlocks rfl () (by rw [hY]; rfl) hP hD hK hS [0, 1, 2] (by decide) rfl d_X_penalty_32
